section
-- ===== PART A: goes FIRST, ahead of the names: the tables' words, and 'selects' of the private methods out of them =====
/-- a private method of a class that the tables say can be made, by its rows of tables_1 -/
def lw_okq (q : MethodName × Nat) : Prop := (q.1.cls ≠ "java/lang/invoke/MethodHandle" ∧ q.1.cls ≠ "java/lang/invoke/VarHandle") ∧ Cond.instantiable q.1.cls q.2 ∈ tables_1 ∧ Cond.privateMethod q.1 ∈ tables_1 ∧ Cond.instanceMethod q.1 ∈ tables_1
theorem lw_p0 : lw_okq (⟨"SharedForks", "countForksAfterSwap", "(I)I"⟩, 6) := ⟨⟨by decide +kernel, by decide +kernel⟩, List.mem_of_getElem? (i := 15) (by decide +kernel), List.mem_of_getElem? (i := 127) (by decide +kernel), List.mem_of_getElem? (i := 128) (by decide +kernel)⟩
theorem lw_p1 : lw_okq (⟨"SharedForks$Forks", "startOver", "([I)V"⟩, 10) := ⟨⟨by decide +kernel, by decide +kernel⟩, List.mem_of_getElem? (i := 25) (by decide +kernel), List.mem_of_getElem? (i := 137) (by decide +kernel), List.mem_of_getElem? (i := 138) (by decide +kernel)⟩
theorem lw_p2 : lw_okq (⟨"SharedForks$Forks", "answersOf", "(I)I"⟩, 10) := ⟨⟨by decide +kernel, by decide +kernel⟩, List.mem_of_getElem? (i := 25) (by decide +kernel), List.mem_of_getElem? (i := 145) (by decide +kernel), List.mem_of_getElem? (i := 146) (by decide +kernel)⟩
theorem lw_p3 : lw_okq (⟨"SharedForks$Forks", "lay", "([Z)I"⟩, 10) := ⟨⟨by decide +kernel, by decide +kernel⟩, List.mem_of_getElem? (i := 25) (by decide +kernel), List.mem_of_getElem? (i := 149) (by decide +kernel), List.mem_of_getElem? (i := 150) (by decide +kernel)⟩
theorem lw_p4 : lw_okq (⟨"SharedForks$Forks", "part", "(III)I"⟩, 10) := ⟨⟨by decide +kernel, by decide +kernel⟩, List.mem_of_getElem? (i := 25) (by decide +kernel), List.mem_of_getElem? (i := 153) (by decide +kernel), List.mem_of_getElem? (i := 154) (by decide +kernel)⟩
theorem lw_p5 : lw_okq (⟨"SharedForks$Forks", "make", "(IIII)I"⟩, 10) := ⟨⟨by decide +kernel, by decide +kernel⟩, List.mem_of_getElem? (i := 25) (by decide +kernel), List.mem_of_getElem? (i := 157) (by decide +kernel), List.mem_of_getElem? (i := 158) (by decide +kernel)⟩
theorem lw_p6 : lw_okq (⟨"SharedForks", "countKept", "()I"⟩, 6) := ⟨⟨by decide +kernel, by decide +kernel⟩, List.mem_of_getElem? (i := 15) (by decide +kernel), List.mem_of_getElem? (i := 165) (by decide +kernel), List.mem_of_getElem? (i := 166) (by decide +kernel)⟩
theorem lw_p7 : lw_okq (⟨"SharedForks", "addForks", "()I"⟩, 6) := ⟨⟨by decide +kernel, by decide +kernel⟩, List.mem_of_getElem? (i := 15) (by decide +kernel), List.mem_of_getElem? (i := 169) (by decide +kernel), List.mem_of_getElem? (i := 170) (by decide +kernel)⟩
theorem lw_p8 : lw_okq (⟨"SharedForks", "tellCount", "(I)I"⟩, 6) := ⟨⟨by decide +kernel, by decide +kernel⟩, List.mem_of_getElem? (i := 15) (by decide +kernel), List.mem_of_getElem? (i := 179) (by decide +kernel), List.mem_of_getElem? (i := 180) (by decide +kernel)⟩
theorem lw_p9 : lw_okq (⟨"SharedForks", "countForksAtFirstPlace", "()I"⟩, 6) := ⟨⟨by decide +kernel, by decide +kernel⟩, List.mem_of_getElem? (i := 15) (by decide +kernel), List.mem_of_getElem? (i := 183) (by decide +kernel), List.mem_of_getElem? (i := 184) (by decide +kernel)⟩
theorem lw_p10 : lw_okq (⟨"SharedForks", "countLeaves", "()I"⟩, 6) := ⟨⟨by decide +kernel, by decide +kernel⟩, List.mem_of_getElem? (i := 15) (by decide +kernel), List.mem_of_getElem? (i := 187) (by decide +kernel), List.mem_of_getElem? (i := 188) (by decide +kernel)⟩
theorem lw_p11 : lw_okq (⟨"SharedForks", "digestFold", "(JLSharedForks$Fold;)J"⟩, 6) := ⟨⟨by decide +kernel, by decide +kernel⟩, List.mem_of_getElem? (i := 15) (by decide +kernel), List.mem_of_getElem? (i := 191) (by decide +kernel), List.mem_of_getElem? (i := 192) (by decide +kernel)⟩
theorem lw_p12 : lw_okq (⟨"SharedForks", "tellFold", "(LSharedForks$Fold;I)I"⟩, 6) := ⟨⟨by decide +kernel, by decide +kernel⟩, List.mem_of_getElem? (i := 15) (by decide +kernel), List.mem_of_getElem? (i := 195) (by decide +kernel), List.mem_of_getElem? (i := 196) (by decide +kernel)⟩
theorem lw_p13 : lw_okq (⟨"SharedForks", "questionsThatMatter", "(LSharedForks$Fold;)I"⟩, 6) := ⟨⟨by decide +kernel, by decide +kernel⟩, List.mem_of_getElem? (i := 15) (by decide +kernel), List.mem_of_getElem? (i := 202) (by decide +kernel), List.mem_of_getElem? (i := 203) (by decide +kernel)⟩
theorem lw_p14 : lw_okq (⟨"SharedForks", "leastAsked", "(LSharedForks$Fold;)I"⟩, 6) := ⟨⟨by decide +kernel, by decide +kernel⟩, List.mem_of_getElem? (i := 15) (by decide +kernel), List.mem_of_getElem? (i := 206) (by decide +kernel), List.mem_of_getElem? (i := 207) (by decide +kernel)⟩
theorem lw_p15 : lw_okq (⟨"SharedForks", "countAsked", "(LSharedForks$Fold;I)I"⟩, 6) := ⟨⟨by decide +kernel, by decide +kernel⟩, List.mem_of_getElem? (i := 15) (by decide +kernel), List.mem_of_getElem? (i := 210) (by decide +kernel), List.mem_of_getElem? (i := 211) (by decide +kernel)⟩
def lw_privs_1 : List (MethodName × Nat) := [(⟨"SharedForks", "countForksAfterSwap", "(I)I"⟩, 6), (⟨"SharedForks$Forks", "startOver", "([I)V"⟩, 10), (⟨"SharedForks$Forks", "answersOf", "(I)I"⟩, 10), (⟨"SharedForks$Forks", "lay", "([Z)I"⟩, 10), (⟨"SharedForks$Forks", "part", "(III)I"⟩, 10), (⟨"SharedForks$Forks", "make", "(IIII)I"⟩, 10), (⟨"SharedForks", "countKept", "()I"⟩, 6), (⟨"SharedForks", "addForks", "()I"⟩, 6), (⟨"SharedForks", "tellCount", "(I)I"⟩, 6), (⟨"SharedForks", "countForksAtFirstPlace", "()I"⟩, 6), (⟨"SharedForks", "countLeaves", "()I"⟩, 6), (⟨"SharedForks", "digestFold", "(JLSharedForks$Fold;)J"⟩, 6), (⟨"SharedForks", "tellFold", "(LSharedForks$Fold;I)I"⟩, 6), (⟨"SharedForks", "questionsThatMatter", "(LSharedForks$Fold;)I"⟩, 6), (⟨"SharedForks", "leastAsked", "(LSharedForks$Fold;)I"⟩, 6), (⟨"SharedForks", "countAsked", "(LSharedForks$Fold;I)I"⟩, 6)]
theorem lw_r1 : ∀ q ∈ lw_privs_1, lw_okq q := List.forall_mem_cons.mpr ⟨lw_p0, List.forall_mem_cons.mpr ⟨lw_p1, List.forall_mem_cons.mpr ⟨lw_p2, List.forall_mem_cons.mpr ⟨lw_p3, List.forall_mem_cons.mpr ⟨lw_p4, List.forall_mem_cons.mpr ⟨lw_p5, List.forall_mem_cons.mpr ⟨lw_p6, List.forall_mem_cons.mpr ⟨lw_p7, List.forall_mem_cons.mpr ⟨lw_p8, List.forall_mem_cons.mpr ⟨lw_p9, List.forall_mem_cons.mpr ⟨lw_p10, List.forall_mem_cons.mpr ⟨lw_p11, List.forall_mem_cons.mpr ⟨lw_p12, List.forall_mem_cons.mpr ⟨lw_p13, List.forall_mem_cons.mpr ⟨lw_p14, List.forall_mem_cons.mpr ⟨lw_p15, fun _ h => absurd h List.not_mem_nil⟩⟩⟩⟩⟩⟩⟩⟩⟩⟩⟩⟩⟩⟩⟩⟩
theorem lw_p16 : lw_okq (⟨"SharedForks", "mostAsked", "(LSharedForks$Fold;)I"⟩, 6) := ⟨⟨by decide +kernel, by decide +kernel⟩, List.mem_of_getElem? (i := 15) (by decide +kernel), List.mem_of_getElem? (i := 220) (by decide +kernel), List.mem_of_getElem? (i := 221) (by decide +kernel)⟩
theorem lw_p17 : lw_okq (⟨"SharedForks", "countOwnForks", "(LSharedForks$Fold;)I"⟩, 6) := ⟨⟨by decide +kernel, by decide +kernel⟩, List.mem_of_getElem? (i := 15) (by decide +kernel), List.mem_of_getElem? (i := 233) (by decide +kernel), List.mem_of_getElem? (i := 234) (by decide +kernel)⟩
theorem lw_p18 : lw_okq (⟨"SharedForks", "tellFork", "(LSharedForks$Fold;II)I"⟩, 6) := ⟨⟨by decide +kernel, by decide +kernel⟩, List.mem_of_getElem? (i := 15) (by decide +kernel), List.mem_of_getElem? (i := 237) (by decide +kernel), List.mem_of_getElem? (i := 238) (by decide +kernel)⟩
theorem lw_p19 : lw_okq (⟨"SharedForks", "freeNumber", "()I"⟩, 6) := ⟨⟨by decide +kernel, by decide +kernel⟩, List.mem_of_getElem? (i := 15) (by decide +kernel), List.mem_of_getElem? (i := 249) (by decide +kernel), List.mem_of_getElem? (i := 250) (by decide +kernel)⟩
theorem lw_p20 : lw_okq (⟨"java/lang/Throwable", "fillInStackTrace", "(I)Ljava/lang/Throwable;"⟩, 6) := ⟨⟨by decide +kernel, by decide +kernel⟩, List.mem_of_getElem? (i := 291) (by decide +kernel), List.mem_of_getElem? (i := 289) (by decide +kernel), List.mem_of_getElem? (i := 290) (by decide +kernel)⟩
theorem lw_p21 : lw_okq (⟨"SharedForks", "keep", "(I)I"⟩, 6) := ⟨⟨by decide +kernel, by decide +kernel⟩, List.mem_of_getElem? (i := 15) (by decide +kernel), List.mem_of_getElem? (i := 321) (by decide +kernel), List.mem_of_getElem? (i := 322) (by decide +kernel)⟩
theorem lw_p22 : lw_okq (⟨"SharedForks", "layAll", "()V"⟩, 6) := ⟨⟨by decide +kernel, by decide +kernel⟩, List.mem_of_getElem? (i := 15) (by decide +kernel), List.mem_of_getElem? (i := 325) (by decide +kernel), List.mem_of_getElem? (i := 326) (by decide +kernel)⟩
theorem lw_p23 : lw_okq (⟨"SharedForks$Forks", "putInRow", "(LSharedForks$Fold;I)V"⟩, 10) := ⟨⟨by decide +kernel, by decide +kernel⟩, List.mem_of_getElem? (i := 25) (by decide +kernel), List.mem_of_getElem? (i := 329) (by decide +kernel), List.mem_of_getElem? (i := 330) (by decide +kernel)⟩
theorem lw_p24 : lw_okq (⟨"SharedForks$Forks", "putLast", "(LSharedForks$Fold;I)I"⟩, 10) := ⟨⟨by decide +kernel, by decide +kernel⟩, List.mem_of_getElem? (i := 25) (by decide +kernel), List.mem_of_getElem? (i := 336) (by decide +kernel), List.mem_of_getElem? (i := 337) (by decide +kernel)⟩
theorem lw_p25 : lw_okq (⟨"SharedForks$Forks", "placeOrLeaf", "(I)I"⟩, 10) := ⟨⟨by decide +kernel, by decide +kernel⟩, List.mem_of_getElem? (i := 25) (by decide +kernel), List.mem_of_getElem? (i := 340) (by decide +kernel), List.mem_of_getElem? (i := 341) (by decide +kernel)⟩
theorem lw_p26 : lw_okq (⟨"SharedForks", "foldAt", "(I)LSharedForks$Fold;"⟩, 6) := ⟨⟨by decide +kernel, by decide +kernel⟩, List.mem_of_getElem? (i := 15) (by decide +kernel), List.mem_of_getElem? (i := 378) (by decide +kernel), List.mem_of_getElem? (i := 379) (by decide +kernel)⟩
theorem lw_p27 : lw_okq (⟨"SharedForksModel", "free", "()I"⟩, 15) := ⟨⟨by decide +kernel, by decide +kernel⟩, List.mem_of_getElem? (i := 508) (by decide +kernel), List.mem_of_getElem? (i := 569) (by decide +kernel), List.mem_of_getElem? (i := 570) (by decide +kernel)⟩
theorem lw_p28 : lw_okq (⟨"SharedForksModel", "fail", "(I)I"⟩, 15) := ⟨⟨by decide +kernel, by decide +kernel⟩, List.mem_of_getElem? (i := 508) (by decide +kernel), List.mem_of_getElem? (i := 573) (by decide +kernel), List.mem_of_getElem? (i := 574) (by decide +kernel)⟩
theorem lw_p29 : lw_okq (⟨"SharedForksModel", "kept", "(I)I"⟩, 15) := ⟨⟨by decide +kernel, by decide +kernel⟩, List.mem_of_getElem? (i := 508) (by decide +kernel), List.mem_of_getElem? (i := 578) (by decide +kernel), List.mem_of_getElem? (i := 579) (by decide +kernel)⟩
theorem lw_p30 : lw_okq (⟨"SharedForksModel", "make", "()V"⟩, 15) := ⟨⟨by decide +kernel, by decide +kernel⟩, List.mem_of_getElem? (i := 508) (by decide +kernel), List.mem_of_getElem? (i := 582) (by decide +kernel), List.mem_of_getElem? (i := 583) (by decide +kernel)⟩
theorem lw_p31 : lw_okq (⟨"SharedForksModel", "fork", "(I)I"⟩, 15) := ⟨⟨by decide +kernel, by decide +kernel⟩, List.mem_of_getElem? (i := 508) (by decide +kernel), List.mem_of_getElem? (i := 587) (by decide +kernel), List.mem_of_getElem? (i := 588) (by decide +kernel)⟩
def lw_privs_2 : List (MethodName × Nat) := [(⟨"SharedForks", "mostAsked", "(LSharedForks$Fold;)I"⟩, 6), (⟨"SharedForks", "countOwnForks", "(LSharedForks$Fold;)I"⟩, 6), (⟨"SharedForks", "tellFork", "(LSharedForks$Fold;II)I"⟩, 6), (⟨"SharedForks", "freeNumber", "()I"⟩, 6), (⟨"java/lang/Throwable", "fillInStackTrace", "(I)Ljava/lang/Throwable;"⟩, 6), (⟨"SharedForks", "keep", "(I)I"⟩, 6), (⟨"SharedForks", "layAll", "()V"⟩, 6), (⟨"SharedForks$Forks", "putInRow", "(LSharedForks$Fold;I)V"⟩, 10), (⟨"SharedForks$Forks", "putLast", "(LSharedForks$Fold;I)I"⟩, 10), (⟨"SharedForks$Forks", "placeOrLeaf", "(I)I"⟩, 10), (⟨"SharedForks", "foldAt", "(I)LSharedForks$Fold;"⟩, 6), (⟨"SharedForksModel", "free", "()I"⟩, 15), (⟨"SharedForksModel", "fail", "(I)I"⟩, 15), (⟨"SharedForksModel", "kept", "(I)I"⟩, 15), (⟨"SharedForksModel", "make", "()V"⟩, 15), (⟨"SharedForksModel", "fork", "(I)I"⟩, 15)]
theorem lw_r2 : ∀ q ∈ lw_privs_2, lw_okq q := List.forall_mem_cons.mpr ⟨lw_p16, List.forall_mem_cons.mpr ⟨lw_p17, List.forall_mem_cons.mpr ⟨lw_p18, List.forall_mem_cons.mpr ⟨lw_p19, List.forall_mem_cons.mpr ⟨lw_p20, List.forall_mem_cons.mpr ⟨lw_p21, List.forall_mem_cons.mpr ⟨lw_p22, List.forall_mem_cons.mpr ⟨lw_p23, List.forall_mem_cons.mpr ⟨lw_p24, List.forall_mem_cons.mpr ⟨lw_p25, List.forall_mem_cons.mpr ⟨lw_p26, List.forall_mem_cons.mpr ⟨lw_p27, List.forall_mem_cons.mpr ⟨lw_p28, List.forall_mem_cons.mpr ⟨lw_p29, List.forall_mem_cons.mpr ⟨lw_p30, List.forall_mem_cons.mpr ⟨lw_p31, fun _ h => absurd h List.not_mem_nil⟩⟩⟩⟩⟩⟩⟩⟩⟩⟩⟩⟩⟩⟩⟩⟩
theorem lw_p32 : lw_okq (⟨"SharedForksModel", "matters", "([JII)Z"⟩, 15) := ⟨⟨by decide +kernel, by decide +kernel⟩, List.mem_of_getElem? (i := 508) (by decide +kernel), List.mem_of_getElem? (i := 597) (by decide +kernel), List.mem_of_getElem? (i := 598) (by decide +kernel)⟩
theorem lw_p33 : lw_okq (⟨"SharedForksModel", "own", "(II)V"⟩, 15) := ⟨⟨by decide +kernel, by decide +kernel⟩, List.mem_of_getElem? (i := 508) (by decide +kernel), List.mem_of_getElem? (i := 607) (by decide +kernel), List.mem_of_getElem? (i := 608) (by decide +kernel)⟩
theorem lw_p34 : lw_okq (⟨"SharedForksModel", "isFold", "(I)Z"⟩, 15) := ⟨⟨by decide +kernel, by decide +kernel⟩, List.mem_of_getElem? (i := 508) (by decide +kernel), List.mem_of_getElem? (i := 625) (by decide +kernel), List.mem_of_getElem? (i := 626) (by decide +kernel)⟩
theorem lw_p35 : lw_okq (⟨"SharedForksModel", "folds", "()I"⟩, 15) := ⟨⟨by decide +kernel, by decide +kernel⟩, List.mem_of_getElem? (i := 508) (by decide +kernel), List.mem_of_getElem? (i := 648) (by decide +kernel), List.mem_of_getElem? (i := 649) (by decide +kernel)⟩
theorem lw_p36 : lw_okq (⟨"SharedForksModel", "exchange", "(I)V"⟩, 15) := ⟨⟨by decide +kernel, by decide +kernel⟩, List.mem_of_getElem? (i := 508) (by decide +kernel), List.mem_of_getElem? (i := 656) (by decide +kernel), List.mem_of_getElem? (i := 657) (by decide +kernel)⟩
theorem lw_p37 : lw_okq (⟨"SharedForksModel", "saysSo", "(II)Z"⟩, 15) := ⟨⟨by decide +kernel, by decide +kernel⟩, List.mem_of_getElem? (i := 508) (by decide +kernel), List.mem_of_getElem? (i := 668) (by decide +kernel), List.mem_of_getElem? (i := 669) (by decide +kernel)⟩
theorem lw_p38 : lw_okq (⟨"SharedForksModel", "all", "(I)I"⟩, 15) := ⟨⟨by decide +kernel, by decide +kernel⟩, List.mem_of_getElem? (i := 508) (by decide +kernel), List.mem_of_getElem? (i := 676) (by decide +kernel), List.mem_of_getElem? (i := 677) (by decide +kernel)⟩
theorem lw_p39 : lw_okq (⟨"SharedForksModel", "line", "(I)V"⟩, 15) := ⟨⟨by decide +kernel, by decide +kernel⟩, List.mem_of_getElem? (i := 508) (by decide +kernel), List.mem_of_getElem? (i := 680) (by decide +kernel), List.mem_of_getElem? (i := 681) (by decide +kernel)⟩
theorem lw_p40 : lw_okq (⟨"SharedForksModel", "stand", "(I)V"⟩, 15) := ⟨⟨by decide +kernel, by decide +kernel⟩, List.mem_of_getElem? (i := 508) (by decide +kernel), List.mem_of_getElem? (i := 684) (by decide +kernel), List.mem_of_getElem? (i := 685) (by decide +kernel)⟩
theorem lw_p41 : lw_okq (⟨"SharedForksModel", "forkTold", "(II)I"⟩, 15) := ⟨⟨by decide +kernel, by decide +kernel⟩, List.mem_of_getElem? (i := 508) (by decide +kernel), List.mem_of_getElem? (i := 688) (by decide +kernel), List.mem_of_getElem? (i := 689) (by decide +kernel)⟩
theorem lw_p42 : lw_okq (⟨"SharedForksModel", "placeOf", "(I)I"⟩, 15) := ⟨⟨by decide +kernel, by decide +kernel⟩, List.mem_of_getElem? (i := 508) (by decide +kernel), List.mem_of_getElem? (i := 692) (by decide +kernel), List.mem_of_getElem? (i := 693) (by decide +kernel)⟩
theorem lw_p43 : lw_okq (⟨"SharedForksModel", "ahead", "(I)I"⟩, 15) := ⟨⟨by decide +kernel, by decide +kernel⟩, List.mem_of_getElem? (i := 508) (by decide +kernel), List.mem_of_getElem? (i := 696) (by decide +kernel), List.mem_of_getElem? (i := 697) (by decide +kernel)⟩
theorem lw_p44 : lw_okq (⟨"SharedForksModel", "aboutOf", "(II)I"⟩, 15) := ⟨⟨by decide +kernel, by decide +kernel⟩, List.mem_of_getElem? (i := 508) (by decide +kernel), List.mem_of_getElem? (i := 708) (by decide +kernel), List.mem_of_getElem? (i := 709) (by decide +kernel)⟩
theorem lw_p45 : lw_okq (⟨"SharedForksModel", "far", "(IZ)I"⟩, 15) := ⟨⟨by decide +kernel, by decide +kernel⟩, List.mem_of_getElem? (i := 508) (by decide +kernel), List.mem_of_getElem? (i := 712) (by decide +kernel), List.mem_of_getElem? (i := 713) (by decide +kernel)⟩
theorem lw_p46 : lw_okq (⟨"SharedForksModel", "counted", "(I)I"⟩, 15) := ⟨⟨by decide +kernel, by decide +kernel⟩, List.mem_of_getElem? (i := 508) (by decide +kernel), List.mem_of_getElem? (i := 730) (by decide +kernel), List.mem_of_getElem? (i := 731) (by decide +kernel)⟩
def lw_privs_3 : List (MethodName × Nat) := [(⟨"SharedForksModel", "matters", "([JII)Z"⟩, 15), (⟨"SharedForksModel", "own", "(II)V"⟩, 15), (⟨"SharedForksModel", "isFold", "(I)Z"⟩, 15), (⟨"SharedForksModel", "folds", "()I"⟩, 15), (⟨"SharedForksModel", "exchange", "(I)V"⟩, 15), (⟨"SharedForksModel", "saysSo", "(II)Z"⟩, 15), (⟨"SharedForksModel", "all", "(I)I"⟩, 15), (⟨"SharedForksModel", "line", "(I)V"⟩, 15), (⟨"SharedForksModel", "stand", "(I)V"⟩, 15), (⟨"SharedForksModel", "forkTold", "(II)I"⟩, 15), (⟨"SharedForksModel", "placeOf", "(I)I"⟩, 15), (⟨"SharedForksModel", "ahead", "(I)I"⟩, 15), (⟨"SharedForksModel", "aboutOf", "(II)I"⟩, 15), (⟨"SharedForksModel", "far", "(IZ)I"⟩, 15), (⟨"SharedForksModel", "counted", "(I)I"⟩, 15)]
theorem lw_r3 : ∀ q ∈ lw_privs_3, lw_okq q := List.forall_mem_cons.mpr ⟨lw_p32, List.forall_mem_cons.mpr ⟨lw_p33, List.forall_mem_cons.mpr ⟨lw_p34, List.forall_mem_cons.mpr ⟨lw_p35, List.forall_mem_cons.mpr ⟨lw_p36, List.forall_mem_cons.mpr ⟨lw_p37, List.forall_mem_cons.mpr ⟨lw_p38, List.forall_mem_cons.mpr ⟨lw_p39, List.forall_mem_cons.mpr ⟨lw_p40, List.forall_mem_cons.mpr ⟨lw_p41, List.forall_mem_cons.mpr ⟨lw_p42, List.forall_mem_cons.mpr ⟨lw_p43, List.forall_mem_cons.mpr ⟨lw_p44, List.forall_mem_cons.mpr ⟨lw_p45, List.forall_mem_cons.mpr ⟨lw_p46, fun _ h => absurd h List.not_mem_nil⟩⟩⟩⟩⟩⟩⟩⟩⟩⟩⟩⟩⟩⟩⟩
def lw_privs : List (MethodName × Nat) := lw_privs_1 ++ (lw_privs_2 ++ (lw_privs_3))
def lw_tbl : List Cond := k2_sels lw_privs ++ tables_1
theorem lw_privs_ok : ∀ q ∈ lw_privs, lw_okq q := by
  show ∀ q ∈ lw_privs_1 ++ (lw_privs_2 ++ (lw_privs_3)), lw_okq q
  exact List.forall_mem_append.mpr ⟨lw_r1, List.forall_mem_append.mpr ⟨lw_r2, lw_r3⟩⟩
/-- the streams that the claim lets the run draw from -/
abbrev lw_cs : List Choice := [Jvm.Choice.named "NaN.bits"]
theorem lw_bits : nanBits ∈ lw_cs := by first | decide | exact List.mem_cons_self | simp [lw_cs, nanBits]
-- ===== end of PART A; then your names; then what follows =====
end
section
/-! ===== BEGIN words of one list among another's, by their places ===== -/
theorem goodIn_r {big : List Cond} (ws : List Cond) (ps : List Nat) (hp : ws = ps.filterMap (fun i => big[i]?)) (h : ws.all goodWord = true) : GoodIn big ws := by
  intro w hw
  have h1 := List.all_eq_true.mp h w hw
  rw [hp] at hw
  obtain ⟨i, -, hi⟩ := List.mem_filterMap.mp hw
  have hm : w ∈ big := by first | exact List.mem_of_getElem? hi | exact List.getElem?_mem hi
  exact ⟨hm, good_of_word h1⟩
theorem goodIn_app {big a b : List Cond} (ha : GoodIn big a) (hb : GoodIn big b) : GoodIn big (a ++ b) := fun w h => (List.mem_append.mp h).elim (ha w) (hb w)
theorem goodIn_ca {big a b : List Cond} {c : Cond} (ha : GoodIn big (c :: a)) (hb : GoodIn big b) : GoodIn big (c :: (a ++ b)) := fun w h => (List.mem_cons.mp h).elim (fun e => ha w (List.mem_cons.mpr (Or.inl e))) (fun h => (List.mem_append.mp h).elim (fun h => ha w (List.mem_cons.mpr (Or.inr h))) (hb w))
theorem goodIn_sub {big ws : List Cond} (hm : ∀ w ∈ ws, w ∈ big) (h : ws.all goodWord = true) : GoodIn big ws := fun w hw => ⟨hm w hw, good_of_word (List.all_eq_true.mp h w hw)⟩
/-! ===== END ===== -/

/-! ===== BEGIN exceptions that leave a method, and their catching by the caller (launches without stack traces) ===== -/
section VXA
/-! The laws vx_back, vx_callV, vx_callS, vx_callSW, vx_throw0, vx_throwS follow proofs of the library, with one case more: JvmDerived/Free/Laws.lean (Back.of_free), Shelf42/LK1.lean (callV, callS), Shelf/KitTraced.lean (throwNew0V, throwNewS). -/
/-- where a method has thrown q: the class by its name, the cell, what was written, the world -/
def vx_T (XC : String → State → State → Prop) (st : State) (q : Addr) (t : State) (mc ms : Nat) (free : Addr → Prop) : Prop :=
  ∃ (E : String) (ce : Cell) (L : List Loc), XC E st t ∧ t.heap[q]? = some ce ∧ ce.vm = .none ∧ st.vm.findClass E = some ce.cls ∧ st.WarmedH t.vm ∧ st.sameButNew ({ t with vm := st.vm } : State) L mc ms ∧ ∀ z ∈ L, free z.base
def vx_Q (Qc : Array Value → State → Outcome → State → Prop) (XC : String → State → State → Prop) (mc ms : Nat) (free : Addr → Prop) : Array Value → State → Outcome → State → Prop := fun a st o t =>
  (Qc a st o t ∧ ∃ L, FrameEnd st o t L mc ms ∧ ∀ q ∈ L, free q.base) ∨ ∃ q, o = .threw q ∧ vx_T XC st q t mc ms free
/-- a callee that returns or throws -/
def vx_Met (l : Launch) (y : MethodName) (ws : List Cond) (rm : Room) (Pc : Array Value → State → Prop) (Qc : Array Value → State → Outcome → State → Prop) (XC : String → State → State → Prop) (mc ms : Nat) (free : Addr → Prop) : Prop :=
  MetFree l y (headSpec ws rm) Pc (fun _ _ _ _ _ => True) (vx_Q Qc XC mc ms free)
def vx_Post (XC : String → State → State → Prop) (mc ms : Nat) (free : Addr → Prop) : Pt → Array Value → Addr → Pt → Prop := fun A a q B =>
  ∃ (g : JFrame) (mk : MethodId) (t : State) (L : List Loc) (E : String) (ce : Cell), B.U.heap = t.heap ∧ B.U.vm = t.vm ∧ XC E (A.U.calling g mk a) t ∧ t.heap[q]? = some ce ∧ ce.vm = .none ∧ A.U.vm.findClass E = some ce.cls ∧ B.locs = A.locs ++ L ∧ (∀ z ∈ L, free z.base) ∧ B.cells = A.cells + mc ∧ B.slots = A.slots + ms
def vx_Back (l : Launch) (R : Room) (p : Program) (e : Env) (below : List Frame) (s : State) (sargs : Array Value) (y : MethodName) (len W9 : Nat)
    (Pre : Pt → Array Value → Prop) (Post : Pt → Array Value → Option Value → Pt → Prop) (PostX : Pt → Array Value → Addr → Pt → Prop) : Prop :=
  ∀ (m : MethodId) (meth : Method) (c : Code) (A : Pt) (g : JFrame) (ig : Instr) (mk : MethodId) (a : Array Value),
    Stand p l e R s m sargs below meth c A.U A.locs A.cells A.slots → g.method = m → g.locals.size = c.maxLocals → decode c.code g.pc = .ok (ig, len) →
    2 * g.monitorRoom + (g.stack.map fun v => v.category).sum ≤ W9 → A.U.methodNamed? y = some mk → Pre A a →
    (∃ (v : Option Value) (B : Pt), Stand p l e R s m sargs below meth c B.U B.locs B.cells B.slots ∧ Post A a v B ∧
      Steps p.tables e below (doInvoke e (A.U.setTop g) [] mk a).1 (B.U.setTop { g with pc := g.pc + len, stack := v.toList ++ g.stack })) ∨
    (∃ (q : Addr) (B : Pt), Stand p l e R s m sargs below meth c B.U B.locs B.cells B.slots ∧ PostX A a q B ∧
      Steps p.tables e below (doInvoke e (A.U.setTop g) [] mk a).1 ((B.U.setTop g).pushFrame (.throwing q)))
section Payer
variable {l : Launch} {R : Room} {p : Program} {e : Env} {below : List Frame} {s : State} {sargs : Array Value} {y : MethodName} {len W9 : Nat}
theorem vx_back {ws : List Cond} {rm : Room} {Pc : Array Value → State → Prop} {Qc : Array Value → State → Outcome → State → Prop} {XC : String → State → State → Prop} {mc ms : Nat} {free : Addr → Prop} {bytes : ByteArray} {maxL : Nat} {ret : Option FieldType}
    (hM : vx_Met l y ws rm Pc Qc XC mc ms free) (hblind : FrameBlind Pc) (hrc : rm.cells = mc) (hrs : rm.slots = ms)
    (hframes : rm.frames + 1 ≤ R.frames) (hlocals : W9 + (maxL + 11) + rm.locals ≤ R.locals)
    (hws : ∀ w ∈ ws, ∀ a' U, s.WarmedH U.vm → w.before a' U = true) (hcode : Cond.code y bytes maxL ret ∈ ws) (hinit : ∀ a' U, s.WarmedH U.vm → (Cond.initialized y.cls).before a' U = true) :
    vx_Back l R p e below s sargs y len W9 (PreOf R mc ms Pc) (PostOf Qc mc ms free) (vx_Post XC mc ms free) := by
  intro m meth c A g ig mk a X hg hsize hdg hW hn hp
  have h1 : (headSpec ws rm).pre.before a A.U = true := atoms_intro fun w hw => hws w hw _ _ X.warmed
  have h2 : (Cond.code y bytes maxL ret).before a A.U = true := hws _ hcode _ _ X.warmed
  have h3 : (Cond.initialized y.cls).before a A.U = true := hinit _ _ X.warmed
  have h4 : A.cells + (headSpec ws rm).room.cells ≤ R.cells := by rw [show (headSpec ws rm).room.cells = mc from hrc]; exact hp.1
  have h5 : A.slots + (headSpec ws rm).room.slots ≤ R.slots := by rw [show (headSpec ws rm).room.slots = ms from hrs]; exact hp.2.1
  have hPc : Pc a (A.U.calling g mk a) := hblind _ _ _ _ hp.2.2
  obtain ⟨U, Ls, c0, s0⟩ := A
  dsimp only [Pt.U, Pt.locs, Pt.cells, Pt.slots] at h1 h2 h3 h4 h5 X hn hPc ⊢
  obtain ⟨methY, cY, hmY, hcY, -, hlY, -, -, -, -⟩ := Cond.code_spec hn h2
  obtain ⟨kY, hkY, -⟩ := className_of_methodNamed hn
  have hinitY : kY.init = .initialized := Cond.initialized_spec (findClass_of_methodNamed hn) hkY h3
  have h : At U g.method c below := by rw [hg]; exact X.here
  have hlocals9 : W9 + (maxL + 11) + (headSpec ws rm).room.locals ≤ R.locals := hlocals
  have happ : (headSpec ws rm).appliesLoose y e.platform (U.calling g mk a) = true :=
    Spec.appliesLoose_calling (g := g) h hdg hn hkY hinitY
      (X.room_calling (g := g) (R' := (headSpec ws rm).room) hsize hmY hcY hframes (by rw [hlY]; omega) h4 h5) h1
  obtain ⟨mid, hmid⟩ := h.above
  have hfr : (U.setTop g).frames = (.java g :: mid) ++ below := by rw [State.frames_setTop' g h.top, hmid]; rfl
  obtain ⟨o, s₂, hsteps, -, hend, hq⟩ := Steps.callFree hM p X.admits X.cas X.clock (acts := []) hfr happ hPc trivial
  have hq' : vx_Q Qc XC mc ms free a (U.calling g mk a) o s₂ := hq
  rw [State.frames_setTop' g h.top] at hend
  obtain ⟨g₀, hg0⟩ := Option.isSome_iff_exists.mp h.top
  obtain ⟨r, hr⟩ := State.topJava?_eq_some.mp hg0
  have hr' : (({ U with heap := s₂.heap, slotsUsed := s₂.slotsUsed } : State).setVm s₂.vm).frames = .java g₀ :: r := hr
  rcases hq' with ⟨hqc, L, hfe, hL⟩ | ⟨q, rfl, E, ce, L, hx, hce, hcv, hcl, hW₂, hsm, hL⟩
  · obtain ⟨⟨v, rfl⟩, hW₂, e2, q2, q3, q4, q5, q6⟩ := id hfe
    have e3 : s₂ = ({ (U.calling g mk a).setFrames s₂.frames with heap := s₂.heap, slotsUsed := s₂.slotsUsed } : State).setVm s₂.vm := by
      have : s₂ = ({ s₂ with vm := (U.calling g mk a).vm } : State).setVm s₂.vm := rfl
      rw [e2] at this
      exact this
    obtain ⟨c₂, i₂, len₂, hc₂, hd₂, hf₂⟩ := hend
    have hW' : U.WarmedH s₂.vm := hW₂
    have hcc : c₂ = c := by
      have h1 : s₂.code? g.method = U.code? g.method := by
        rw [State.code?_eq, State.code?_eq, hW'.alike.method?]
      exact Option.some.inj (hc₂.symm.trans (h1.trans h.code))
    subst hcc
    have hlen : len₂ = len := by rw [hdg] at hd₂; cases hd₂; rfl
    subst hlen
    have hs₂ : s₂ = (({ U with heap := s₂.heap, slotsUsed := s₂.slotsUsed } : State).setVm s₂.vm).setTop { g with pc := g.pc + len₂, stack := v.toList ++ g.stack } := by
      refine e3.trans ?_
      rw [hf₂, State.calling_eq h.top, State.setFrames_setFrames, State.setTop_of_frames _ hr', hr]
      rfl
    have hsame : U.sameButNew ({ U with heap := s₂.heap, slotsUsed := s₂.slotsUsed } : State) L mc ms := by
      refine ⟨?_, q2, q3, q4, q5, q6⟩
      obtain ⟨t, ht, -⟩ := State.frames_cons hr
      show ({ U with heap := s₂.heap, slotsUsed := s₂.slotsUsed } : State) = { U.setFrames U.frames with heap := s₂.heap, slotsUsed := s₂.slotsUsed }
      rw [State.setFrames_self ht]
    subst hg
    refine Or.inl ⟨v, ⟨(({ U with heap := s₂.heap, slotsUsed := s₂.slotsUsed } : State).setVm s₂.vm), Ls ++ L, c0 + mc, s0 + ms⟩,
      ⟨X.admits, X.cas, X.clock, X.frames, X.room, X.hears, X.method, X.code, (X.here.setHeapUsed s₂.heap s₂.slotsUsed).setVm hW'.alike, X.tail, State.WarmedH.trans X.warmed hW', X.limits, X.bytes, X.same.trans (hsame.setVm s.vm)⟩,
      ⟨g, mk, s₂, L, rfl, rfl, hqc, rfl, hL, rfl, rfl⟩, ?_⟩
    show Steps p.tables e below _ ((({ U with heap := s₂.heap, slotsUsed := s₂.slotsUsed } : State).setVm s₂.vm).setTop { g with pc := g.pc + len₂, stack := v.toList ++ g.stack })
    rw [← hs₂]
    exact hsteps
  · obtain ⟨e2, q2, q3, q4, q5, q6⟩ := id hsm
    have e3 : s₂ = ({ (U.calling g mk a).setFrames s₂.frames with heap := s₂.heap, slotsUsed := s₂.slotsUsed } : State).setVm s₂.vm := by
      have : s₂ = ({ s₂ with vm := (U.calling g mk a).vm } : State).setVm s₂.vm := rfl
      rw [e2] at this
      exact this
    have hf₂ : s₂.frames = .throwing q :: .java g :: U.frames.tail := hend
    have hW' : U.WarmedH s₂.vm := hW₂
    have hs₂ : s₂ = ((({ U with heap := s₂.heap, slotsUsed := s₂.slotsUsed } : State).setVm s₂.vm).setTop g).pushFrame (.throwing q) := by
      refine e3.trans ?_
      rw [hf₂, State.calling_eq h.top, State.setFrames_setFrames, State.pushFrame, State.frames_setTop _ hr', State.setTop_of_frames _ hr', State.setFrames_setFrames, hr]
      rfl
    have hsame : U.sameButNew ({ U with heap := s₂.heap, slotsUsed := s₂.slotsUsed } : State) L mc ms := by
      refine ⟨?_, q2, q3, q4, q5, q6⟩
      obtain ⟨t, ht, -⟩ := State.frames_cons hr
      show ({ U with heap := s₂.heap, slotsUsed := s₂.slotsUsed } : State) = { U.setFrames U.frames with heap := s₂.heap, slotsUsed := s₂.slotsUsed }
      rw [State.setFrames_self ht]
    subst hg
    refine Or.inr ⟨q, ⟨(({ U with heap := s₂.heap, slotsUsed := s₂.slotsUsed } : State).setVm s₂.vm), Ls ++ L, c0 + mc, s0 + ms⟩,
      ⟨X.admits, X.cas, X.clock, X.frames, X.room, X.hears, X.method, X.code, (X.here.setHeapUsed s₂.heap s₂.slotsUsed).setVm hW'.alike, X.tail, State.WarmedH.trans X.warmed hW', X.limits, X.bytes, X.same.trans (hsame.setVm s.vm)⟩,
      ⟨g, mk, s₂, L, E, ce, rfl, rfl, hx, hce, hcv, hcl, rfl, hL, rfl, rfl⟩, ?_⟩
    show Steps p.tables e below _ (((({ U with heap := s₂.heap, slotsUsed := s₂.slotsUsed } : State).setVm s₂.vm).setTop g).pushFrame (.throwing q))
    rw [← hs₂]
    exact hsteps
end Payer
section Calls
variable {p : Program} {l : Launch} {e : Env} {R : Room} {s : State} {m : MethodId} {args : Array Value} {below : List Frame} {meth : Method} {c : Code} {T : State} {locs : List Loc} {cells slots : Nat}
theorem vx_callV (X : Stand p l e R s m args below meth c T locs cells slots) (hexec : p.tables.exec = Jvm.exec) {own C : String} {index : Nat} {y : MethodName} {bytes : ByteArray} {maxL : Nat} {ret : Option FieldType}
    (hown : s.vm.findClass own = some m.cls) (hlink : (Cond.methodLink own index y).before args s = true) (hinst : (Cond.instanceMethod y).before args s = true) (hsel : (Cond.selects C y y).before args s = true)
    (hcode : (Cond.code y bytes maxL ret).before args s = true) (hy : y.cls ≠ "java/lang/invoke/MethodHandle" ∧ y.cls ≠ "java/lang/invoke/VarHandle")
    {W9 : Nat} {Pre : Pt → Array Value → Prop} {Post : Pt → Array Value → Option Value → Pt → Prop} {PostX : Pt → Array Value → Addr → Pt → Prop} (hK : vx_Back l R p e below s args y 3 W9 Pre Post PostX)
    {b : Addr} {cellB : Cell} (hcell : T.heap[b]? = some cellB) (hobj : cellB.vm.isStatics = false) (hcls : s.vm.findClass C = some cellB.cls)
    {g : JFrame} (hg : g.method = m) (hsize : g.locals.size = c.maxLocals) {argsL rest : List Value} (hlen : ∀ sig, parseMethodDescriptor y.desc = some sig → argsL.length = sig.parameters.length)
    (hstack : g.stack = argsL.reverse ++ .ref b :: rest) (hW : 2 * g.monitorRoom + (rest.map fun v => v.category).sum ≤ W9) (hdg : decode c.code g.pc = .ok (.invokevirtual index, 3))
    (hpre : ∀ vm₁, s.WarmedH vm₁ → Pre ⟨T.setVm vm₁, locs, cells, slots⟩ (Value.ref b :: argsL).toArray) :
    (∃ (v : Option Value) (vm₁ : Vm) (B : Pt), s.WarmedH vm₁ ∧ Stand p l e R s m args below meth c B.U B.locs B.cells B.slots ∧ Post ⟨T.setVm vm₁, locs, cells, slots⟩ (Value.ref b :: argsL).toArray v B ∧
      ∀ target, Steps p.tables e below (B.U.setTop { g with pc := g.pc + 3, stack := v.toList ++ rest }) target → Steps p.tables e below (T.setTop g) target) ∨
    (∃ (q : Addr) (vm₁ : Vm) (B : Pt), s.WarmedH vm₁ ∧ Stand p l e R s m args below meth c B.U B.locs B.cells B.slots ∧ PostX ⟨T.setVm vm₁, locs, cells, slots⟩ (Value.ref b :: argsL).toArray q B ∧
      Steps p.tables e below (T.setTop g) ((B.U.setTop { g with stack := rest }).pushFrame (.throwing q))) := by
  obtain ⟨mk, methM, hnamed, hmethM, hstM, habM⟩ := Cond.instanceMethod_spec hinst
  obtain ⟨methM', cM, hmethM', -, -, -, -, -, -, hsigM⟩ := Cond.code_spec hnamed hcode
  cases hmethM.symm.trans hmethM'
  obtain ⟨c2, r2, m2, q1, q2, q3, q4, kP, hkP, hkPi⟩ := Cond.selects_spec hsel
  cases hcls.symm.trans q1
  cases (State.methodFound?_of_named hnamed hy).symm.trans q2
  cases hnamed.symm.trans q3
  have hselP : selectMethod e.platform s.vm cellB.cls mk = .method mk := by rw [Launch.admits_selectMethod X.admits]; exact q4
  obtain ⟨vm₁, X₁, hstep₁⟩ := X.invokevirtual hexec hown hlink hnamed hmethM hstM hkP hkPi hy (a := b) (cell := cellB) hcell
    (fun z h => by rw [h] at hobj; cases hobj) hselP hmethM habM hkP hkPi (g := g) hg (argsL := argsL) (rest := rest) (hlen _ hsigM) hstack hdg
  rcases hK m meth c ⟨T.setVm vm₁, locs, cells, slots⟩ { g with stack := rest } (.invokevirtual index) mk (Value.ref b :: argsL).toArray X₁ hg hsize hdg hW (X₁.named hnamed) (hpre vm₁ X₁.warmed) with ⟨v, B, X', hpost, hsteps⟩ | ⟨q, B, X', hpost, hsteps⟩
  · exact Or.inl ⟨v, vm₁, B, X₁.warmed, X', hpost, fun target h => hstep₁ _ fun acts => by rw [doInvoke_state]; exact hsteps.trans h⟩
  · exact Or.inr ⟨q, vm₁, B, X₁.warmed, X', hpost, hstep₁ _ fun acts => by rw [doInvoke_state]; exact hsteps⟩
theorem vx_callS (X : Stand p l e R s m args below meth c T locs cells slots) (hexec : p.tables.exec = Jvm.exec) {own : String} {index : Nat} {y : MethodName} {bytes : ByteArray} {maxL : Nat} {ret : Option FieldType}
    (hown : s.vm.findClass own = some m.cls) (hlink : (Cond.methodLink own index y).before args s = true) (hstat : (Cond.static y).before args s = true) (hinit : (Cond.initialized y.cls).before args s = true)
    (hcode : (Cond.code y bytes maxL ret).before args s = true) (hy : y.cls ≠ "java/lang/invoke/MethodHandle" ∧ y.cls ≠ "java/lang/invoke/VarHandle")
    {W9 : Nat} {Pre : Pt → Array Value → Prop} {Post : Pt → Array Value → Option Value → Pt → Prop} {PostX : Pt → Array Value → Addr → Pt → Prop} (hK : vx_Back l R p e below s args y 3 W9 Pre Post PostX)
    {g : JFrame} (hg : g.method = m) (hsize : g.locals.size = c.maxLocals) {argsL rest : List Value} (hlen : ∀ sig, parseMethodDescriptor y.desc = some sig → argsL.length = sig.parameters.length)
    (hstack : g.stack = argsL.reverse ++ rest) (hW : 2 * g.monitorRoom + (rest.map fun v => v.category).sum ≤ W9) (hdg : decode c.code g.pc = .ok (.invokestatic index, 3))
    (hpre : ∀ vm₁, s.WarmedH vm₁ → Pre ⟨T.setVm vm₁, locs, cells, slots⟩ argsL.toArray) :
    (∃ (v : Option Value) (vm₁ : Vm) (B : Pt), s.WarmedH vm₁ ∧ Stand p l e R s m args below meth c B.U B.locs B.cells B.slots ∧ Post ⟨T.setVm vm₁, locs, cells, slots⟩ argsL.toArray v B ∧
      ∀ target, Steps p.tables e below (B.U.setTop { g with pc := g.pc + 3, stack := v.toList ++ rest }) target → Steps p.tables e below (T.setTop g) target) ∨
    (∃ (q : Addr) (vm₁ : Vm) (B : Pt), s.WarmedH vm₁ ∧ Stand p l e R s m args below meth c B.U B.locs B.cells B.slots ∧ PostX ⟨T.setVm vm₁, locs, cells, slots⟩ argsL.toArray q B ∧
      Steps p.tables e below (T.setTop g) ((B.U.setTop { g with stack := rest }).pushFrame (.throwing q))) := by
  obtain ⟨mk, hnamed⟩ := Cond.code_named hcode
  obtain ⟨methM, cM, hmethM, -, -, -, -, -, -, hsigM⟩ := Cond.code_spec hnamed hcode
  have hstatic : methM.isStatic = true := Cond.static_spec hnamed hmethM hstat
  obtain ⟨kP, hkP, -⟩ := className_of_methodNamed hnamed
  have hinitP : kP.init = .initialized := Cond.initialized_spec (findClass_of_methodNamed hnamed) hkP hinit
  obtain ⟨vm₁, X₁, hstep₁⟩ := X.invokestatic hexec hown hlink hnamed hmethM hstatic hkP hinitP hy (g := g) hg (argsL := argsL) (rest := rest) (hlen _ hsigM) hstack hdg
  rcases hK m meth c ⟨T.setVm vm₁, locs, cells, slots⟩ { g with stack := rest } (.invokestatic index) mk argsL.toArray X₁ hg hsize hdg hW (X₁.named hnamed) (hpre vm₁ X₁.warmed) with ⟨v, B, X', hpost, hsteps⟩ | ⟨q, B, X', hpost, hsteps⟩
  · exact Or.inl ⟨v, vm₁, B, X₁.warmed, X', hpost, fun target h => hstep₁ _ fun acts => by rw [doInvoke_state]; exact hsteps.trans h⟩
  · exact Or.inr ⟨q, vm₁, B, X₁.warmed, X', hpost, hstep₁ _ fun acts => by rw [doInvoke_state]; exact hsteps⟩
end Calls
theorem vx_cls {s : State} {T : State} {vm₁ : Vm} {E : String} {k : ClassId} (hW : s.WarmedH vm₁) (h : (T.setVm vm₁).vm.findClass E = some k) : s.vm.findClass E = some k := by
  have h1 : vm₁.findClass E = some k := h
  rw [hW.alike.findClass] at h1
  exact h1
/-- the method's frame g, with q thrown over it -/
def vx_W (p : Program) (l : Launch) (e : Env) (R : Room) (s : State) (m : MethodId) (args : Array Value) (below : List Frame) (meth : Method) (c : Code) (H : Heap) (locs : List Loc) (cells slots : Nat) (Q : State → Prop) (g : JFrame) (q : Addr) : Prop :=
  ∀ T : State, T.heap = H → Stand p l e R s m args below meth c T locs cells slots → ∃ t, Steps p.tables e below ((T.setTop g).pushFrame (.throwing q)) t ∧ Q t
def vx_Run (p : Program) (l : Launch) (e : Env) (R : Room) (s : State) (m : MethodId) (args : Array Value) (below : List Frame) (meth : Method) (c : Code) (H : Heap) (locs : List Loc) (cells slots mc ms : Nat) (g : JFrame) (rest : List Value) (Qa : State → Outcome → State → Prop) (XC : String → State → State → Prop) (free : Addr → Prop) : Prop :=
  ∀ T : State, T.heap = H → Stand p l e R s m args below meth c T locs cells slots →
    (∃ (v : Option Value) (st₀ t T' : State) (L : List Loc), st₀.heap = H ∧ Stand p l e R s m args below meth c T' (locs ++ L) (cells + mc) (slots + ms) ∧ (∀ q ∈ L, free q.base) ∧ T'.heap = t.heap ∧ T'.vm = t.vm ∧ Qa st₀ (.returned v) t ∧
      Goes p e below T g T' { g with pc := g.pc + 3, stack := v.toList ++ rest }) ∨
    (∃ (q : Addr) (st₀ t T' : State) (L : List Loc) (E : String) (ce : Cell), st₀.heap = H ∧ Stand p l e R s m args below meth c T' (locs ++ L) (cells + mc) (slots + ms) ∧ (∀ z ∈ L, free z.base) ∧ T'.heap = t.heap ∧ T'.vm = t.vm ∧ XC E st₀ t ∧ t.heap[q]? = some ce ∧ ce.vm = .none ∧ s.vm.findClass E = some ce.cls ∧
      Steps p.tables e below (T.setTop g) ((T'.setTop { g with stack := rest }).pushFrame (.throwing q)))
def vx_X {S : Type} (px : S → Prop) (B : String → S → State → Prop) (A : Nat → Prop) : String → State → State → Prop := fun E st t => ∃ u : S, px u ∧ B E u t ∧ va_F A st t
section Runs
variable {p : Program} {l : Launch} {e : Env} {R : Room} {s : State} {m : MethodId} {args : Array Value} {below : List Frame} {meth : Method} {c : Code} {H : Heap} {locs : List Loc} {cells slots : Nat}
variable {y : MethodName} {bytes cc : ByteArray} {maxL nL mc ms n index : Nat} {ret : Option FieldType} {ws : List Cond} {rm : Room} {Pc : Array Value → State → Prop} {Qc : Array Value → State → Outcome → State → Prop} {XC : String → State → State → Prop} {free : Addr → Prop} {Ts : List Cond} {own C : String} {b : Addr} {As rest : List Value} {g : JFrame}
theorem vx_callBack (cb : CallB R s args own index y bytes maxL ret ws rm mc ms n) (hM : vx_Met l y ws rm Pc Qc XC mc ms free) (hbl : FrameBlind Pc) : vx_Back l R p e below s args y 3 8 (PreOf R mc ms Pc) (PostOf Qc mc ms free) (vx_Post XC mc ms free) := by
  obtain ⟨hrc, hrs, hfr, hlo, hws, hcw, -, hini, -⟩ := cb
  exact vx_back (bytes := bytes) (maxL := maxL) (ret := ret) hM hbl hrc hrs hfr hlo hws hcw (fun a' U hW => word_at hW (Or.inl (by first | rfl | simp [Cond.onTables, Cond.keeps, Cond.steady])) hini)
theorem vx_runV (S : CallFix p m c cc nL s args Ts own) (hM : vx_Met l y ws rm Pc Qc XC mc ms free) (cw : CallW R s args own C index y bytes maxL ret ws rm mc ms n) (hp : PreV s H C b Pc As)
    (hg : g.method = m) (hn : As.length = n) (hsize : g.locals.size = nL) (hstack : g.stack = As.reverse ++ .ref b :: rest) (hW : 2 * g.monitorRoom + (rest.map fun v => v.category).sum ≤ 8) (hdg : decode cc g.pc = .ok (.invokevirtual index, 3)) (hf : cells + mc ≤ R.cells ∧ slots + ms ≤ R.slots) :
    vx_Run p l e R s m args below meth c H locs cells slots mc ms g rest (Qc (Value.ref b :: As).toArray) XC free := by
  have hK : vx_Back l R p e below s args y 3 8 (PreOf R mc ms Pc) (PostOf Qc mc ms free) (vx_Post XC mc ms free) := vx_callBack cw.1 hM hp.1
  obtain ⟨⟨-, -, -, -, -, -, hcode, -, hy, hlen, hl⟩, hin, hse⟩ := cw
  obtain ⟨hx, hb, hml, ho, -⟩ := S
  obtain ⟨-, ⟨cellB, hcB, hoB, hclB⟩, hPc⟩ := hp
  intro T hT X
  rcases vx_callV X hx (C := C) (bytes := bytes) (maxL := maxL) (ret := ret) ho hl hin hse hcode hy hK (by rw [hT]; exact hcB) hoB hclB hg (hsize.trans hml.symm) (argsL := As) (rest := rest) (fun sig h => hn.trans (hlen sig h)) hstack hW (by rw [hb]; exact hdg)
    (fun vm₁ hW₁ => ⟨hf.1, hf.2, hPc (T.setVm vm₁) hT hW₁⟩) with ⟨v, vm₁, ⟨U', l2, c2, s2⟩, hW₁, X', ⟨g', mk, t, L, e1, e2, hq, h1, hL, h2, h3⟩, st⟩ | ⟨q, vm₁, ⟨U', l2, c2, s2⟩, hW₁, X', ⟨g', mk, t, L, E, ce, e1, e2, hq, hce, hcv, hcl, h1, hL, h2, h3⟩, st⟩
  · dsimp only [Pt.U, Pt.locs, Pt.cells, Pt.slots] at X' e1 e2 h1 h2 h3 st
    subst h1; subst h2; subst h3
    exact Or.inl ⟨v, (T.setVm vm₁).calling g' mk (Value.ref b :: As).toArray, t, U', L, hT, X', hL, e1, e2, hq, st⟩
  · dsimp only [Pt.U, Pt.locs, Pt.cells, Pt.slots] at X' e1 e2 h1 h2 h3 st hcl
    subst h1; subst h2; subst h3
    exact Or.inr ⟨q, (T.setVm vm₁).calling g' mk (Value.ref b :: As).toArray, t, U', L, E, ce, hT, X', hL, e1, e2, hq, hce, hcv, vx_cls hW₁ hcl, st⟩
theorem vx_runS (S : CallFix p m c cc nL s args Ts own) (hM : vx_Met l y ws rm Pc Qc XC mc ms free) (cw : CallB R s args own index y bytes maxL ret ws rm mc ms n ∧ (Cond.static y).before args s = true) (hp : PreS s H Pc As)
    (hg : g.method = m) (hn : As.length = n) (hsize : g.locals.size = nL) (hstack : g.stack = As.reverse ++ rest) (hW : 2 * g.monitorRoom + (rest.map fun v => v.category).sum ≤ 8) (hdg : decode cc g.pc = .ok (.invokestatic index, 3)) (hf : cells + mc ≤ R.cells ∧ slots + ms ≤ R.slots) :
    vx_Run p l e R s m args below meth c H locs cells slots mc ms g rest (Qc As.toArray) XC free := by
  have hK : vx_Back l R p e below s args y 3 8 (PreOf R mc ms Pc) (PostOf Qc mc ms free) (vx_Post XC mc ms free) := vx_callBack cw.1 hM hp.1
  obtain ⟨⟨-, -, -, -, -, -, hcode, hini, hy, hlen, hl⟩, hstt⟩ := cw
  obtain ⟨hx, hb, hml, ho, -⟩ := S
  intro T hT X
  rcases vx_callS X hx (bytes := bytes) (maxL := maxL) (ret := ret) ho hl hstt hini hcode hy hK hg (hsize.trans hml.symm) (argsL := As) (rest := rest) (fun sig h => hn.trans (hlen sig h)) hstack hW (by rw [hb]; exact hdg)
    (fun vm₁ hW₁ => ⟨hf.1, hf.2, hp.2 (T.setVm vm₁) hT hW₁⟩) with ⟨v, vm₁, ⟨U', l2, c2, s2⟩, hW₁, X', ⟨g', mk, t, L, e1, e2, hq, h1, hL, h2, h3⟩, st⟩ | ⟨q, vm₁, ⟨U', l2, c2, s2⟩, hW₁, X', ⟨g', mk, t, L, E, ce, e1, e2, hq, hce, hcv, hcl, h1, hL, h2, h3⟩, st⟩
  · dsimp only [Pt.U, Pt.locs, Pt.cells, Pt.slots] at X' e1 e2 h1 h2 h3 st
    subst h1; subst h2; subst h3
    exact Or.inl ⟨v, (T.setVm vm₁).calling g' mk As.toArray, t, U', L, hT, X', hL, e1, e2, hq, st⟩
  · dsimp only [Pt.U, Pt.locs, Pt.cells, Pt.slots] at X' e1 e2 h1 h2 h3 st hcl
    subst h1; subst h2; subst h3
    exact Or.inr ⟨q, (T.setVm vm₁).calling g' mk As.toArray, t, U', L, E, ce, hT, X', hL, e1, e2, hq, hce, hcv, vx_cls hW₁ hcl, st⟩
end Runs
section Rows
variable {p : Program} {l : Launch} {e : Env} {R : Room} {s : State} {m : MethodId} {args : Array Value} {below : List Frame} {meth : Method} {c : Code} {H : Heap} {locs : List Loc} {cells slots : Nat} {Q : State → Prop}
variable {mc ms : Nat} {free : Addr → Prop} {A0 A1 : Nat → Prop} {H0 : Heap} {a : Array Value} {pc : Nat} {ls : Array Slot} {st0 rest : List Value}
theorem vx_keep {st₀ t T' : State} {L : List Loc} (h0 : st₀.heap = H) (e1 : T'.heap = t.heap) (hS : va_S A0 H0 H locs) (hA : ∀ q, q < H.size → A1 q → A0 q) (hf : ∀ q, free q → A0 q) (hL : ∀ q ∈ L, free q.base) (hF : va_F A1 st₀ t) :
    H.size ≤ T'.heap.size ∧ (∀ q : Nat, q < H.size → ¬ A1 q → T'.heap[q]? = H[q]?) ∧ va_S A0 H0 T'.heap (locs ++ L) := by
  obtain ⟨hz, hk⟩ := hF
  rw [h0] at hz hk
  exact ⟨by rw [e1]; exact hz, fun q h1 h2 => by rw [e1]; exact hk q h1 h2,
    ⟨Nat.le_trans hS.1 (by rw [e1]; exact hz), fun q h1 h2 => by rw [e1, hk q (Nat.lt_of_lt_of_le h1 hS.1) (fun z => h2 (hA q (Nat.lt_of_lt_of_le h1 hS.1) z))]; exact hS.2.1 q h1 h2, fun q hq => by
      rcases List.mem_append.mp hq with h | h
      · exact hS.2.2 q h
      · exact hf _ (hL q h)⟩⟩
theorem vx_calli {S SX : Type} {post : Int32 → S → Prop} {px : SX → Prop} {B : S → State → Prop} {BX : String → SX → State → Prop} {AX : Nat → Prop} (hr : vx_Run p l e R s m args below meth c H locs cells slots mc ms (F0 m pc ls st0) rest (va_Qi post B A1 a) (vx_X px BX AX) free) (hS : va_S A0 H0 H locs) (hA : ∀ q, q < H.size → A1 q → A0 q) (hf : ∀ q, free q → A0 q) (hAX : ∀ q, q < H.size → AX q → A0 q)
    (kx : ∀ (E : String) (ce : Cell) (q9 : Addr) (u : SX) (t : State) (H1 : Heap) (locs1 : List Loc), t.heap = H1 → s.vm.Alike t.vm → px u → BX E u t → H.size ≤ H1.size → (∀ q : Nat, q < H.size → ¬ AX q → H1[q]? = H[q]?) → va_S A0 H0 H1 locs1 → H1[q9]? = some ce → ce.vm = .none → s.vm.findClass E = some ce.cls → vx_W p l e R s m args below meth c H1 locs1 (cells + mc) (slots + ms) Q (F0 m pc ls rest) q9)
    (kk : ∀ (r : Int32) (u : S) (t : State) (H1 : Heap) (locs1 : List Loc), t.heap = H1 → s.vm.Alike t.vm → post r u → B u t → H.size ≤ H1.size → (∀ q : Nat, q < H.size → ¬ A1 q → H1[q]? = H[q]?) → va_S A0 H0 H1 locs1 → W p l e R s m args below meth c H1 locs1 (cells + mc) (slots + ms) Q (F0 m (pc + 3) ls (.int r :: rest))) : W p l e R s m args below meth c H locs cells slots Q (F0 m pc ls st0) := by
  intro T hT X
  rcases hr T hT X with ⟨v, st₀, t, T', L, h0, X', hL, e1, e2, ⟨⟨r, u, hv, hp, hb⟩, hF⟩, st⟩ | ⟨q, st₀, t, T', L, E, ce, h0, X', hL, e1, e2, ⟨u, hp, hb, hF⟩, hce, hcv, hcl, st⟩
  · cases hv
    obtain ⟨k1, k2, k3⟩ := vx_keep h0 e1 hS hA hf hL hF
    obtain ⟨t2, a1, b1⟩ := kk r u t T'.heap (locs ++ L) e1.symm (by rw [← e2]; exact X'.warmed.alike) hp hb k1 k2 k3 T' rfl X'
    exact ⟨t2, st t2 a1, b1⟩
  · obtain ⟨k1, k2, k3⟩ := vx_keep h0 e1 hS hAX hf hL hF
    obtain ⟨t2, a1, b1⟩ := kx E ce q u t T'.heap (locs ++ L) e1.symm (by rw [← e2]; exact X'.warmed.alike) hp hb k1 k2 k3 (by rw [e1]; exact hce) hcv hcl T' rfl X'
    exact ⟨t2, st.trans a1, b1⟩
theorem vx_calll {S SX : Type} {post : Int64 → S → Prop} {px : SX → Prop} {B : S → State → Prop} {BX : String → SX → State → Prop} {AX : Nat → Prop} (hr : vx_Run p l e R s m args below meth c H locs cells slots mc ms (F0 m pc ls st0) rest (va_Ql post B A1 a) (vx_X px BX AX) free) (hS : va_S A0 H0 H locs) (hA : ∀ q, q < H.size → A1 q → A0 q) (hf : ∀ q, free q → A0 q) (hAX : ∀ q, q < H.size → AX q → A0 q)
    (kx : ∀ (E : String) (ce : Cell) (q9 : Addr) (u : SX) (t : State) (H1 : Heap) (locs1 : List Loc), t.heap = H1 → s.vm.Alike t.vm → px u → BX E u t → H.size ≤ H1.size → (∀ q : Nat, q < H.size → ¬ AX q → H1[q]? = H[q]?) → va_S A0 H0 H1 locs1 → H1[q9]? = some ce → ce.vm = .none → s.vm.findClass E = some ce.cls → vx_W p l e R s m args below meth c H1 locs1 (cells + mc) (slots + ms) Q (F0 m pc ls rest) q9)
    (kk : ∀ (r : Int64) (u : S) (t : State) (H1 : Heap) (locs1 : List Loc), t.heap = H1 → s.vm.Alike t.vm → post r u → B u t → H.size ≤ H1.size → (∀ q : Nat, q < H.size → ¬ A1 q → H1[q]? = H[q]?) → va_S A0 H0 H1 locs1 → W p l e R s m args below meth c H1 locs1 (cells + mc) (slots + ms) Q (F0 m (pc + 3) ls (.long r :: rest))) : W p l e R s m args below meth c H locs cells slots Q (F0 m pc ls st0) := by
  intro T hT X
  rcases hr T hT X with ⟨v, st₀, t, T', L, h0, X', hL, e1, e2, ⟨⟨r, u, hv, hp, hb⟩, hF⟩, st⟩ | ⟨q, st₀, t, T', L, E, ce, h0, X', hL, e1, e2, ⟨u, hp, hb, hF⟩, hce, hcv, hcl, st⟩
  · cases hv
    obtain ⟨k1, k2, k3⟩ := vx_keep h0 e1 hS hA hf hL hF
    obtain ⟨t2, a1, b1⟩ := kk r u t T'.heap (locs ++ L) e1.symm (by rw [← e2]; exact X'.warmed.alike) hp hb k1 k2 k3 T' rfl X'
    exact ⟨t2, st t2 a1, b1⟩
  · obtain ⟨k1, k2, k3⟩ := vx_keep h0 e1 hS hAX hf hL hF
    obtain ⟨t2, a1, b1⟩ := kx E ce q u t T'.heap (locs ++ L) e1.symm (by rw [← e2]; exact X'.warmed.alike) hp hb k1 k2 k3 (by rw [e1]; exact hce) hcv hcl T' rfl X'
    exact ⟨t2, st.trans a1, b1⟩
theorem vx_callf {S SX : Type} {post : UInt32 → S → Prop} {px : SX → Prop} {B : S → State → Prop} {BX : String → SX → State → Prop} {AX : Nat → Prop} (hr : vx_Run p l e R s m args below meth c H locs cells slots mc ms (F0 m pc ls st0) rest (va_Qf post B A1 a) (vx_X px BX AX) free) (hS : va_S A0 H0 H locs) (hA : ∀ q, q < H.size → A1 q → A0 q) (hf : ∀ q, free q → A0 q) (hAX : ∀ q, q < H.size → AX q → A0 q)
    (kx : ∀ (E : String) (ce : Cell) (q9 : Addr) (u : SX) (t : State) (H1 : Heap) (locs1 : List Loc), t.heap = H1 → s.vm.Alike t.vm → px u → BX E u t → H.size ≤ H1.size → (∀ q : Nat, q < H.size → ¬ AX q → H1[q]? = H[q]?) → va_S A0 H0 H1 locs1 → H1[q9]? = some ce → ce.vm = .none → s.vm.findClass E = some ce.cls → vx_W p l e R s m args below meth c H1 locs1 (cells + mc) (slots + ms) Q (F0 m pc ls rest) q9)
    (kk : ∀ (r : UInt32) (u : S) (t : State) (H1 : Heap) (locs1 : List Loc), t.heap = H1 → s.vm.Alike t.vm → post r u → B u t → H.size ≤ H1.size → (∀ q : Nat, q < H.size → ¬ A1 q → H1[q]? = H[q]?) → va_S A0 H0 H1 locs1 → W p l e R s m args below meth c H1 locs1 (cells + mc) (slots + ms) Q (F0 m (pc + 3) ls (.float r :: rest))) : W p l e R s m args below meth c H locs cells slots Q (F0 m pc ls st0) := by
  intro T hT X
  rcases hr T hT X with ⟨v, st₀, t, T', L, h0, X', hL, e1, e2, ⟨⟨r, u, hv, hp, hb⟩, hF⟩, st⟩ | ⟨q, st₀, t, T', L, E, ce, h0, X', hL, e1, e2, ⟨u, hp, hb, hF⟩, hce, hcv, hcl, st⟩
  · cases hv
    obtain ⟨k1, k2, k3⟩ := vx_keep h0 e1 hS hA hf hL hF
    obtain ⟨t2, a1, b1⟩ := kk r u t T'.heap (locs ++ L) e1.symm (by rw [← e2]; exact X'.warmed.alike) hp hb k1 k2 k3 T' rfl X'
    exact ⟨t2, st t2 a1, b1⟩
  · obtain ⟨k1, k2, k3⟩ := vx_keep h0 e1 hS hAX hf hL hF
    obtain ⟨t2, a1, b1⟩ := kx E ce q u t T'.heap (locs ++ L) e1.symm (by rw [← e2]; exact X'.warmed.alike) hp hb k1 k2 k3 (by rw [e1]; exact hce) hcv hcl T' rfl X'
    exact ⟨t2, st.trans a1, b1⟩
theorem vx_calld {S SX : Type} {post : UInt64 → S → Prop} {px : SX → Prop} {B : S → State → Prop} {BX : String → SX → State → Prop} {AX : Nat → Prop} (hr : vx_Run p l e R s m args below meth c H locs cells slots mc ms (F0 m pc ls st0) rest (va_Qd post B A1 a) (vx_X px BX AX) free) (hS : va_S A0 H0 H locs) (hA : ∀ q, q < H.size → A1 q → A0 q) (hf : ∀ q, free q → A0 q) (hAX : ∀ q, q < H.size → AX q → A0 q)
    (kx : ∀ (E : String) (ce : Cell) (q9 : Addr) (u : SX) (t : State) (H1 : Heap) (locs1 : List Loc), t.heap = H1 → s.vm.Alike t.vm → px u → BX E u t → H.size ≤ H1.size → (∀ q : Nat, q < H.size → ¬ AX q → H1[q]? = H[q]?) → va_S A0 H0 H1 locs1 → H1[q9]? = some ce → ce.vm = .none → s.vm.findClass E = some ce.cls → vx_W p l e R s m args below meth c H1 locs1 (cells + mc) (slots + ms) Q (F0 m pc ls rest) q9)
    (kk : ∀ (r : UInt64) (u : S) (t : State) (H1 : Heap) (locs1 : List Loc), t.heap = H1 → s.vm.Alike t.vm → post r u → B u t → H.size ≤ H1.size → (∀ q : Nat, q < H.size → ¬ A1 q → H1[q]? = H[q]?) → va_S A0 H0 H1 locs1 → W p l e R s m args below meth c H1 locs1 (cells + mc) (slots + ms) Q (F0 m (pc + 3) ls (.double r :: rest))) : W p l e R s m args below meth c H locs cells slots Q (F0 m pc ls st0) := by
  intro T hT X
  rcases hr T hT X with ⟨v, st₀, t, T', L, h0, X', hL, e1, e2, ⟨⟨r, u, hv, hp, hb⟩, hF⟩, st⟩ | ⟨q, st₀, t, T', L, E, ce, h0, X', hL, e1, e2, ⟨u, hp, hb, hF⟩, hce, hcv, hcl, st⟩
  · cases hv
    obtain ⟨k1, k2, k3⟩ := vx_keep h0 e1 hS hA hf hL hF
    obtain ⟨t2, a1, b1⟩ := kk r u t T'.heap (locs ++ L) e1.symm (by rw [← e2]; exact X'.warmed.alike) hp hb k1 k2 k3 T' rfl X'
    exact ⟨t2, st t2 a1, b1⟩
  · obtain ⟨k1, k2, k3⟩ := vx_keep h0 e1 hS hAX hf hL hF
    obtain ⟨t2, a1, b1⟩ := kx E ce q u t T'.heap (locs ++ L) e1.symm (by rw [← e2]; exact X'.warmed.alike) hp hb k1 k2 k3 (by rw [e1]; exact hce) hcv hcl T' rfl X'
    exact ⟨t2, st.trans a1, b1⟩
theorem vx_callv {S SX : Type} {post : S → Prop} {px : SX → Prop} {B : S → State → Prop} {BX : String → SX → State → Prop} {AX : Nat → Prop} (hr : vx_Run p l e R s m args below meth c H locs cells slots mc ms (F0 m pc ls st0) rest (va_Qv post B A1 a) (vx_X px BX AX) free) (hS : va_S A0 H0 H locs) (hA : ∀ q, q < H.size → A1 q → A0 q) (hf : ∀ q, free q → A0 q) (hAX : ∀ q, q < H.size → AX q → A0 q)
    (kx : ∀ (E : String) (ce : Cell) (q9 : Addr) (u : SX) (t : State) (H1 : Heap) (locs1 : List Loc), t.heap = H1 → s.vm.Alike t.vm → px u → BX E u t → H.size ≤ H1.size → (∀ q : Nat, q < H.size → ¬ AX q → H1[q]? = H[q]?) → va_S A0 H0 H1 locs1 → H1[q9]? = some ce → ce.vm = .none → s.vm.findClass E = some ce.cls → vx_W p l e R s m args below meth c H1 locs1 (cells + mc) (slots + ms) Q (F0 m pc ls rest) q9)
    (kk : ∀ (u : S) (t : State) (H1 : Heap) (locs1 : List Loc), t.heap = H1 → s.vm.Alike t.vm → post u → B u t → H.size ≤ H1.size → (∀ q : Nat, q < H.size → ¬ A1 q → H1[q]? = H[q]?) → va_S A0 H0 H1 locs1 → W p l e R s m args below meth c H1 locs1 (cells + mc) (slots + ms) Q (F0 m (pc + 3) ls (rest))) : W p l e R s m args below meth c H locs cells slots Q (F0 m pc ls st0) := by
  intro T hT X
  rcases hr T hT X with ⟨v, st₀, t, T', L, h0, X', hL, e1, e2, ⟨⟨u, hv, hp, hb⟩, hF⟩, st⟩ | ⟨q, st₀, t, T', L, E, ce, h0, X', hL, e1, e2, ⟨u, hp, hb, hF⟩, hce, hcv, hcl, st⟩
  · cases hv
    obtain ⟨k1, k2, k3⟩ := vx_keep h0 e1 hS hA hf hL hF
    obtain ⟨t2, a1, b1⟩ := kk u t T'.heap (locs ++ L) e1.symm (by rw [← e2]; exact X'.warmed.alike) hp hb k1 k2 k3 T' rfl X'
    exact ⟨t2, st t2 a1, b1⟩
  · obtain ⟨k1, k2, k3⟩ := vx_keep h0 e1 hS hAX hf hL hF
    obtain ⟨t2, a1, b1⟩ := kx E ce q u t T'.heap (locs ++ L) e1.symm (by rw [← e2]; exact X'.warmed.alike) hp hb k1 k2 k3 (by rw [e1]; exact hce) hcv hcl T' rfl X'
    exact ⟨t2, st.trans a1, b1⟩
/-- caught by the row x of this method's table; the rows ahead don't take it -/
theorem vx_catch {own name : String} {E : String} {ce : Cell} {q : Addr} (hown : s.vm.findClass own = some m.cls) (pre : List ExceptionTableEntry) (x : ExceptionTableEntry) (suf : List ExceptionTableEntry) (hsplit : c.exceptionTable.toList = pre ++ x :: suf)
    (hpass : ∀ z ∈ pre, covers z pc = false ∨ (z.catchType ≠ 0 ∧ ∃ nm : String, (Cond.classLink own z.catchType nm).before args s = true ∧ va_Nc E nm s)) (hx : covers x pc = true) (h0 : x.catchType ≠ 0)
    (hlink : (Cond.classLink own x.catchType name).before args s = true) (hcast : (Cond.castable E name).before args s = true) (hcell : H[q]? = some ce) (hv : ce.vm = .none) (hcl : s.vm.findClass E = some ce.cls)
    (kk : W p l e R s m args below meth c H locs cells slots Q (F0 m x.handlerPc ls [.ref q])) : vx_W p l e R s m args below meth c H locs cells slots Q (F0 m pc ls rest) q := by
  intro T hT X
  have hpl : e.platform.magicAccessors = ({} : Platform).magicAccessors := by rw [X.admits.platform]
  obtain ⟨c3, c4, hc3, hc4, hasg⟩ := Cond.castable_spec hcast
  cases Option.some.inj (hc3.symm.trans hcl)
  obtain ⟨c5, hc5, hcl5⟩ := Cond.classLink_spec hown hlink e.platform hpl
  cases Option.some.inj (hc4.symm.trans hc5)
  obtain ⟨vm', X', st⟩ := X.thenCaughtThrough q (g := F0 m pc ls rest) rfl (Steps.refl _) (by rw [hT]; exact hcell) (by rw [hv]; rfl) (by obtain ⟨k9, h9, -⟩ := Vm.findClass_spec hcl; exact ⟨k9, h9⟩) pre x suf hsplit
    (fun z hz => by
      rcases hpass z hz with h | ⟨hz0, nm, hl1, hn1⟩
      · exact Or.inl h
      · obtain ⟨c6, hc6, hcl6⟩ := Cond.classLink_spec hown hl1 e.platform hpl
        obtain ⟨a8, b8, h1, h2, h3⟩ := hn1
        cases Option.some.inj (h1.symm.trans hcl)
        cases Option.some.inj (h2.symm.trans hc6)
        exact Or.inr ⟨hz0, _, hcl6, h3⟩) hx (Or.inr ⟨h0, c4, hcl5, hasg⟩)
  obtain ⟨t, a1, b1⟩ := kk (T.setVm vm') hT X'
  exact ⟨t, st.trans a1, b1⟩
end Rows
section Ends
variable {p : Program} {l : Launch} {e : Env} {R : Room} {s : State} {m : MethodId} {args : Array Value} {below : List Frame} {meth : Method} {c : Code} {H : Heap} {locs : List Loc} {cells slots : Nat} {Q : State → Prop}
variable {mc ms : Nat} {free : Addr → Prop} {A0 A1 : Nat → Prop} {H0 : Heap} {a : Array Value} {ls : Array Slot} {st0 rest : List Value}
variable {Qc : Array Value → State → Outcome → State → Prop} {XC : String → State → State → Prop}
/-- what a body that may throw owes at its end -/
def vx_MQ (below : List Frame) (Qc : Array Value → State → Outcome → State → Prop) (XC : String → State → State → Prop) (a : Array Value) (s : State) (mc ms : Nat) (free : Addr → Prop) : State → Prop := fun t =>
  ∃ o, t.status = .running ∧ Ended t below o ∧ vx_Q Qc XC mc ms free a s o t
theorem vx_ret {g : JFrame} {mc ms : Nat} (k : W p l e R s m args below meth c H locs cells slots (MQ below Qc args s mc ms free) g) : W p l e R s m args below meth c H locs cells slots (vx_MQ below Qc XC args s mc ms free) g := by
  intro T hT X
  obtain ⟨t, a1, o, b1, b2, b3, b4⟩ := k T hT X
  exact ⟨t, a1, o, b1, b2, Or.inl ⟨b3, b4⟩⟩
/-- not caught here: it goes on to the caller -/
theorem vx_widen {g : JFrame} {q : Addr} {k n : Nat} (h1 : cells ≤ k) (h2 : slots ≤ n) (kk : vx_W p l e R s m args below meth c H locs k n Q g q) : vx_W p l e R s m args below meth c H locs cells slots Q g q := fun T hT X => kk T hT (stand_widen X h1 h2)
theorem vx_out {pc : Nat} {E : String} {ce : Cell} {q : Addr} {mc ms : Nat} (hout : ∀ x ∈ c.exceptionTable.toList, covers x pc = false) (hlocks : meth.locks = false) (hcell : H[q]? = some ce) (hv : ce.vm = .none) (hcl : s.vm.findClass E = some ce.cls)
    (hx : ∀ t : State, t.heap = H → s.vm.Alike t.vm → XC E s t) (hf : ∀ z ∈ locs, free z.base) (hc : cells ≤ mc) (hs : slots ≤ ms) :
    vx_W p l e R s m args below meth c H locs cells slots (vx_MQ below Qc XC args s mc ms free) (F0 m pc ls rest) q := by
  intro T hT X
  obtain ⟨st1, hrun, hend, hW, hsm⟩ := X.leaveThrown q (g := F0 m pc ls rest) rfl rfl rfl hout hlocks
  have hcell9 : (T.setFrames (.throwing q :: below)).heap[q]? = some ce := by
    show T.heap[q]? = some ce
    rw [hT]; exact hcell
  exact ⟨_, st1, .threw q, hrun, hend, Or.inr ⟨q, rfl, E, ce, locs, hx _ hT hW.alike, hcell9, hv, hcl, hW, hsm.mono hc hs, hf⟩⟩
theorem vx_frame {U : State} {k n : Nat} (h : s.sameButNew ({ U with vm := s.vm } : State) locs k n) : s.heap.size ≤ U.heap.size ∧ ∀ q : Nat, q < s.heap.size → (∀ z ∈ locs, z.base ≠ q) → U.heap[q]? = s.heap[q]? := by
  obtain ⟨-, h2, -, -, -, h6⟩ := h
  refine ⟨h2, fun q hq hz => ?_⟩
  obtain ⟨c9, e1, e2, e3, e4⟩ := h6 q _ (Array.getElem?_eq_getElem hq)
  have hs : c9.slots = (s.heap[q]).slots := Array.ext_getElem? fun i => e4 i fun hm => hz _ hm rfl
  have h9 : c9 = s.heap[q] := by
    rw [hs] at e2
    exact e2
  have e5 : U.heap[q]? = some c9 := e1
  rw [e5, h9, Array.getElem?_eq_getElem hq]
/-- the words of a throw but the four that speak of the heap -/
def vx_no (w : Cond) : Bool := decide (w ≠ .isRef (.static Bundle.tN "UNASSIGNED_STACK" Bundle.steD)) && decide (w ≠ .isRef (.static Bundle.tN "SUPPRESSED_SENTINEL" Bundle.listD)) && decide (w ≠ .laysStatic Bundle.tN "UNASSIGNED_STACK" Bundle.steD) && decide (w ≠ .laysStatic Bundle.tN "SUPPRESSED_SENTINEL" Bundle.listD)
def vx_at0 (own : String) (ic : Nat) (X : String) (names : List String) : List Cond := (Bundle.ownAtoms0 own ic X names).filter vx_no
def vx_atS (own : String) (ic : Nat) (X : String) (names : List String) : List Cond := (Bundle.ownAtoms own ic X names).filter vx_no
/-- a word that the tables alone decide, or a good one -/
def vx_ot (w : Cond) : Bool := w.onTables || goodWord w
theorem vx_ot_at {args a' : Array Value} {s U : State} {w : Cond} (hW : s.WarmedH U.vm) (hvm : s.vm = U.vm) (hg : vx_ot w = true) (h : w.before args s = true) : w.before a' U = true := by
  simp only [vx_ot, Bool.or_eq_true] at hg
  rcases hg with hg | hg
  · exact va_tabs hg hvm h
  · exact word_at hW (good_of_word hg) h
/-- a list's words: the good ones out of the method's own list, the others by premises of their own -/
theorem vx_hat {args : Array Value} {s : State} {L B : List Cond} (h1 : ∀ w ∈ L.filter goodWord, w.before args s = true) (h2 : ∀ w ∈ L.filter (fun w => !goodWord w), w ∈ B) (h3 : ∀ w ∈ B, w.before args s = true) : ∀ w ∈ L, w.before args s = true := by
  intro w hw
  by_cases g : goodWord w = true
  · exact h1 w (List.mem_filter.mpr ⟨hw, g⟩)
  · refine h3 w (h2 w (List.mem_filter.mpr ⟨hw, ?_⟩))
    show (!goodWord w) = true
    cases hgw : goodWord w
    · rfl
    · exact absurd hgw g
theorem vx_c {args : Array Value} {s : State} {w : Cond} {B : List Cond} (h : w.before args s = true) (t : ∀ w ∈ B, w.before args s = true) : ∀ w' ∈ w :: B, w'.before args s = true := fun w' h' => (List.mem_cons.mp h').elim (fun e => by rw [e]; exact h) (t w')
theorem vx_n {args : Array Value} {s : State} : ∀ w ∈ ([] : List Cond), w.before args s = true := fun _ h => nomatch h
theorem vx_own {args : Array Value} {s : State} {L : List Cond} (h1 : ∀ w ∈ L.filter vx_no, w.before args s = true)
    (hU : (Cond.isRef (.static Bundle.tN "UNASSIGNED_STACK" Bundle.steD)).before args s = true) (hN : (Cond.isRef (.static Bundle.tN "SUPPRESSED_SENTINEL" Bundle.listD)).before args s = true)
    (lU : (Cond.laysStatic Bundle.tN "UNASSIGNED_STACK" Bundle.steD).before args s = true) (lN : (Cond.laysStatic Bundle.tN "SUPPRESSED_SENTINEL" Bundle.listD).before args s = true) : ∀ w ∈ L, w.before args s = true := by
  intro w hw
  by_cases e1 : w = .isRef (.static Bundle.tN "UNASSIGNED_STACK" Bundle.steD)
  · rw [e1]; exact hU
  · by_cases e2 : w = .isRef (.static Bundle.tN "SUPPRESSED_SENTINEL" Bundle.listD)
    · rw [e2]; exact hN
    · by_cases e3 : w = .laysStatic Bundle.tN "UNASSIGNED_STACK" Bundle.steD
      · rw [e3]; exact lU
      · by_cases e4 : w = .laysStatic Bundle.tN "SUPPRESSED_SENTINEL" Bundle.listD
        · rw [e4]; exact lN
        · exact h1 w (List.mem_filter.mpr ⟨hw, by unfold vx_no; rw [decide_eq_true e1, decide_eq_true e2, decide_eq_true e3, decide_eq_true e4]; rfl⟩)
/-- where a static field lies, its class's statics cell in H -/
def vx_L (C n d : String) (A : Nat → Prop) (U : State) (H : Heap) : Prop := ∃ (c : ClassId) (k : Class) (i : Nat) (f : Field) (a : Nat) (cell : Cell), U.vm.findClass C = some c ∧ U.fieldFound? C n d = some (c, k, i, f) ∧ f.isStatic = true ∧ k.statics = some a ∧ H[a]? = some cell ∧ cell.vm.isStatics = true ∧ cell.cls = c ∧ f.slot < cell.slots.size ∧ k.staticTypes[f.slot]? = some f.type ∧ ¬ A a
theorem vx_L.moved {C n d : String} {A : Nat → Prop} {u U : State} {H : Heap} (hvm : u.vm.Alike U.vm) (h : vx_L C n d A u H) : vx_L C n d A U H := by
  obtain ⟨c, k, i, f, a, cell, h1, h2, h3, h4, h5, h6, h7, h8, h9, h10⟩ := h
  obtain ⟨k', hi', he⟩ := State.fieldFound?_setVm hvm h2
  exact ⟨c, k', i, f, a, cell, by rw [hvm.findClass]; exact h1, hi', h3, by rw [he]; exact h4, h5, h6, h7, h8, by rw [he]; exact h9, h10⟩
theorem vx_L.kept {C n d : String} {A : Nat → Prop} {U : State} {H H1 : Heap} (h : vx_L C n d A U H) (hq : ∀ a : Nat, a < H.size → ¬ A a → H1[a]? = H[a]?) : vx_L C n d A U H1 := by
  obtain ⟨c, k, i, f, a, cell, h1, h2, h3, h4, h5, h6, h7, h8, h9, h10⟩ := h
  exact ⟨c, k, i, f, a, cell, h1, h2, h3, h4, by rw [hq a (Array.getElem?_eq_some_iff.mp h5).1 h10]; exact h5, h6, h7, h8, h9, h10⟩
theorem vx_L.narrow {C n d : String} {A B : Nat → Prop} {U : State} {H : Heap} (h : vx_L C n d A U H) (hAB : ∀ q, B q → A q) : vx_L C n d B U H := by
  obtain ⟨c, k, i, f, a, cell, h1, h2, h3, h4, h5, h6, h7, h8, h9, h10⟩ := h
  exact ⟨c, k, i, f, a, cell, h1, h2, h3, h4, h5, h6, h7, h8, h9, fun z => h10 (hAB _ z)⟩
theorem vx_L.word {C n d : String} {A : Nat → Prop} {s : State} {args : Array Value} (h : vx_L C n d A s s.heap) : (Cond.laysStatic C n d).before args s = true := by
  obtain ⟨c, k, i, f, a, cell, h1, h2, h3, h4, h5, h6, h7, h8, h9, -⟩ := h
  show (Cond.laysStatic C n d).holds args s none s [] = true
  exact Cond.laysStatic_of h1 h2 h3 h4 h5 h6 h7 h8 h9
/-- .. and what it holds: null or some reference -/
def vx_Zq (C n d : String) (A : Nat → Prop) (U : State) (H : Heap) : Prop := va_Zq C n d A U H ∧ vx_L C n d A U H
theorem vx_Zq.moved {C n d : String} {A : Nat → Prop} {u U : State} {H : Heap} (hvm : u.vm.Alike U.vm) (h : vx_Zq C n d A u H) : vx_Zq C n d A U H := ⟨va_Zq.moved hvm h.1, vx_L.moved hvm h.2⟩
theorem vx_Zq.kept {C n d : String} {A : Nat → Prop} {U : State} {H H1 : Heap} (h : vx_Zq C n d A U H) (hq : ∀ a : Nat, a < H.size → ¬ A a → H1[a]? = H[a]?) : vx_Zq C n d A U H1 := ⟨va_Zq.kept h.1 hq, vx_L.kept h.2 hq⟩
theorem vx_Zq.narrow {C n d : String} {A B : Nat → Prop} {U : State} {H : Heap} (h : vx_Zq C n d A U H) (hAB : ∀ q, B q → A q) : vx_Zq C n d B U H := ⟨va_Zq.narrow h.1 hAB, vx_L.narrow h.2 hAB⟩
theorem vx_Zqof {args : Array Value} {s : State} {C n d : String} {A : Nat → Prop} (hl : (Cond.laysStatic C n d).before args s = true) (hini : (Cond.initialized C).before args s = true) (h : (Cond.isRef (.static C n d)).before args s = true) (hA : ∀ a : Nat, a < s.heap.size → ¬ A a) : vx_Zq C n d A s s.heap := by
  refine ⟨va_Zqof hl hini h hA, ?_⟩
  obtain ⟨c, k, i, f, a, cell, h1, h2, h3, h4, h5, h6, h7, h8, h9⟩ := Cond.laysStatic_spec hl
  exact ⟨c, k, i, f, a, cell, h1, h2, h3, h4, h5, h6, h7, h8, h9, hA a (Array.getElem?_eq_some_iff.mp h5).1⟩
theorem vx_isRef {C n d : String} {v : Value} {A : Nat → Prop} {s : State} {args : Array Value} (h : va_Z C n d v A s s.heap) (hv : v.isRef = true) : (Cond.isRef (.static C n d)).before args s = true := by
  obtain ⟨cf, kf, fi, f, a, cell, h1, h2, h3, h4, h5, h6, h7, -⟩ := h
  have he : (Term.static C n d).eval args s none [] s = some v := by
    simp [Term.eval, State.fieldNamed?, h1, h2, h4, h5, h6, h7]
  simp only [Cond.before, Cond.holds, Cond.value, he]
  cases v <;> simp_all [Value.isRef]
theorem vx_isRefq {C n d : String} {A : Nat → Prop} {s : State} {args : Array Value} (h : va_Zq C n d A s s.heap) : (Cond.isRef (.static C n d)).before args s = true := by
  rcases h with h | ⟨t, h⟩
  · exact vx_isRef h rfl
  · exact vx_isRef h rfl
/-- the same frame, seen from here: as if the method were called anew in this heap -/
theorem vx_rebase {T : State} (X : Stand p l e R s m args below meth c T locs cells slots) {R' : Room} (hf : R'.frames ≤ R.frames) (hl : R'.locals ≤ R.locals) (hc : cells + R'.cells ≤ R.cells) (hs : slots + R'.slots ≤ R.slots) :
    Stand p l e R' ((T.setVm s.vm).setFrames (.invoking m args :: below)) m args below meth c T [] 0 0 := by
  have htop : (T.setVm s.vm).topJava?.isSome := X.here.top
  have hF : ((T.setVm s.vm).setFrames (.invoking m args :: below)).frames = .invoking m args :: below := State.frames_setFrames _ (State.cur_lt_of_top htop)
  obtain ⟨g₀, hg0⟩ := Option.isSome_iff_exists.mp htop
  obtain ⟨r, hr⟩ := State.topJava?_eq_some.mp hg0
  have hl9 : e.platform.stackLimits (T.setVm s.vm).me = e.platform.stackLimits s.me := X.limits
  have hb9 : (T.setVm s.vm).me.stackBytes = s.me.stackBytes := X.bytes
  refine ⟨X.admits, X.cas, X.clock, hF, ?_, X.hears, X.method, X.code, X.here, X.tail, X.warmed, ?_, ?_, ?_⟩
  · have h := X.room
    have hU : ((T.setVm s.vm).setFrames (.invoking m args :: below)).localsInUse = s.localsInUse := by
      rw [State.localsInUse_invoking hF (meth := meth) (c := c) X.method X.code, State.localsInUse_invoking X.frames X.method X.code]
    simp only [State.hasRoom, Bool.and_eq_true, decide_eq_true_eq] at h ⊢
    obtain ⟨⟨⟨⟨h1, h2, h3, h4, h5, h6⟩, h7⟩, h8⟩, h9⟩ := h
    rw [X.frames, List.length_cons] at h2 h3
    have q1 := X.heapSize
    have q2 := X.used
    simp only [hF, hU, List.length_cons, State.stackLimits_setFrames, State.stackBytes_setFrames, hl9, hb9]
    refine ⟨⟨⟨⟨by omega, by omega, by omega, by omega, by omega, h6⟩, ?_⟩, ?_⟩, X.book⟩
    · show T.heap.size + R'.cells ≤ e.platform.maxCells
      omega
    · show T.slotsUsed + R'.slots ≤ e.platform.maxSlots
      omega
  · rw [State.stackLimits_setFrames]; rfl
  · rw [State.stackBytes_setFrames]; rfl
  · refine ⟨?_, Nat.le_refl _, Nat.le_refl _, ?_, ?_, fun a c9 h9 => ⟨c9, h9, rfl, rfl, fun _ _ => rfl⟩⟩
    · obtain ⟨t, ht, -⟩ := State.frames_cons hr
      show T.setVm s.vm = { ((T.setVm s.vm).setFrames (.invoking m args :: below)).setFrames (T.setVm s.vm).frames with heap := T.heap, slotsUsed := T.slotsUsed }
      rw [State.setFrames_setFrames, State.setFrames_self ht]
      rfl
    · show T.slotsUsed = T.slotsUsed + ((T.heap.toList.drop T.heap.size).map (·.slots.size)).sum
      rw [List.drop_eq_nil_of_le (Nat.le_of_eq Array.length_toList)]
      rfl
    · show ((T.heap.toList.drop T.heap.size).map (·.slots.size)).sum ≤ 0
      rw [List.drop_eq_nil_of_le (Nat.le_of_eq Array.length_toList)]
      exact Nat.le_refl _
/-- 'throw new E()': new; dup; invokespecial; athrow -/
theorem vx_throw0 {cc : ByteArray} {pc : Nat} (hexec : p.tables.exec = Jvm.exec) (hb : c.code = cc) (hl : l.stackTraces = false) {own cls : String} {names : List String} {ik ic mc ms : Nat} {A : Nat → Prop}
    (hown : s.vm.findClass own = some m.cls) (hcls : Bundle.fit cls = true) (hnames : ∀ n ∈ names, Bundle.fit n = true)
    (hk : (Cond.classLink own ik cls).before args s = true) (hini : (Cond.initialized cls).before args s = true) (hat : ∀ w ∈ vx_at0 own ic cls names, w.before args s = true)
    (hgood : ∀ w ∈ Cond.classLink own ik cls :: Cond.initialized cls :: vx_at0 own ic cls names, vx_ot w = true)
    (hU : vx_Zq Bundle.tN "UNASSIGNED_STACK" Bundle.steD A s s.heap) (hN : vx_Zq Bundle.tN "SUPPRESSED_SENTINEL" Bundle.listD A s s.heap) (hS : va_S A s.heap H locs) (hsize : ls.size = c.maxLocals)
    (d0 : decode cc pc = .ok (.new ik, 3)) (d3 : decode cc (pc + 3) = .ok (.dup, 1)) (d4 : decode cc (pc + 4) = .ok (.invokespecial ic, 3)) (d7 : decode cc (pc + 7) = .ok (.athrow, 1))
    (hout : ∀ x ∈ c.exceptionTable.toList, covers x (pc + 7) = false)
    (hRframes : names.length + 3 < R.frames) (hRlocals : (rest.map fun v => v.category).sum + (13 * (names.length + 1) + 42) ≤ R.locals) (hRcells : cells + 1 ≤ R.cells) (hRslots : slots + 6 ≤ R.slots) (hlocks : meth.locks = false)
    (hx : ∀ t : State, s.vm.Alike t.vm → H.size ≤ t.heap.size → (∀ q : Nat, q < H.size → t.heap[q]? = H[q]?) → XC cls s t)
    (hf : ∀ z ∈ locs, free z.base) (hc : cells + 1 ≤ mc) (hs : slots + 6 ≤ ms) :
    W p l e R s m args below meth c H locs cells slots (vx_MQ below Qc XC args s mc ms free) (F0 m pc ls rest) := by
  intro T hT X
  have htr : e.platform.stackTraces = false := (show e.platform.stackTraces = l.stackTraces by rw [X.admits.platform]).trans hl
  have Y := vx_rebase X (R' := { frames := R.frames, locals := R.locals, cells := 1, slots := 6 }) (Nat.le_refl _) (Nat.le_refl _) hRcells hRslots
  obtain ⟨s', hA⟩ : ∃ z, z = (T.setVm s.vm).setFrames (.invoking m args :: below) := ⟨_, rfl⟩
  rw [← hA] at Y
  have hvm : s'.vm = s.vm := by rw [hA]; rfl
  have hhp : s'.heap = H := by rw [hA]; exact hT
  have hW0 : s.WarmedH s'.vm := by rw [hvm]; exact State.WarmedH.refl s
  have hat' : ∀ w ∈ vx_at0 own ic cls names, w.before args s' = true := fun w hw => vx_ot_at hW0 hvm.symm (hgood w (List.mem_cons_of_mem _ (List.mem_cons_of_mem _ hw))) (hat w hw)
  have hk' : (Cond.classLink own ik cls).before args s' = true := vx_ot_at hW0 hvm.symm (hgood _ List.mem_cons_self) hk
  have hini' : (Cond.initialized cls).before args s' = true := vx_ot_at hW0 hvm.symm (hgood _ (List.mem_cons_of_mem _ List.mem_cons_self)) hini
  have hU' : vx_Zq Bundle.tN "UNASSIGNED_STACK" Bundle.steD A s' s'.heap := by rw [hhp]; exact vx_Zq.moved hW0.alike (hU.kept hS.2.1)
  have hN' : vx_Zq Bundle.tN "SUPPRESSED_SENTINEL" Bundle.listD A s' s'.heap := by rw [hhp]; exact vx_Zq.moved hW0.alike (hN.kept hS.2.1)
  have h : ∀ w ∈ Bundle.ownAtoms0 own ic cls names, w.before args s' = true := vx_own hat' (vx_isRefq hU'.1) (vx_isRefq hN'.1) hU'.2.word hN'.2.word
  have hown' : s'.vm.findClass own = some m.cls := by rw [hvm]; exact hown
  have hins : (Cond.instantiable cls 6).before args s' = true := h _ (by simp [Bundle.ownAtoms0])
  obtain ⟨vm₁, cX, kX, hfX, hkX, -, -, X₁, st1⟩ := Y.newCold hexec (own := own) (C := cls) (index := ik) (n := 6) hown' hk' hins hini'
    (g := F0 m pc ls rest) rfl (by rw [hb]; exact d0) (Nat.le_refl _) (Nat.le_refl _)
  generalize hT1 : (T.setVm vm₁).pushCell { cls := cX, slots := kX.instanceTypes.map defaultValue, vm := .none } = T1 at X₁ st1
  have hcat : (Value.ref T.heap.size).category = 1 := rfl
  have hcellA : T1.heap[T.heap.size]? = some (freshCell cX kX) := by rw [← hT1]; exact State.heap_pushCell_size _ _
  have d3' : decode c.code (pc + 3) = .ok (.dup, 1) := by rw [hb]; exact d3
  obtain ⟨U, hsteps, hrun, hend, hW, hsame, ce, hce, hO⟩ := X₁.ctorThrow0 hexec htr (own := own) (cls := cls) (names := names) (ic := ic) hown' hcls hnames h (fun x hx => nomatch hx) hfX hkX hcellA (by rw [hhp, hT]; exact Nat.le_refl _)
    (g := { method := m, pc := pc + 4, locals := ls, stack := .ref T.heap.size :: .ref T.heap.size :: rest, locked := none }) rfl hsize rfl rfl (rest := rest) rfl
    (by rw [hb]; exact d4) (by rw [hb]; exact d7) hout hRframes (by simp only [List.map_cons, List.sum_cons, hcat]; omega) hlocks
  obtain ⟨f1, f2⟩ := vx_frame hsame
  rw [hhp] at f1 f2
  have hWs : s.WarmedH U.vm := State.WarmedH.trans hW0 hW
  have hcl : s.vm.findClass cls = some ce.cls := by
    have h9 := hO.cls
    rw [hvm] at h9
    exact h9
  have hall : s.sameButNew ({ U with vm := s.vm } : State) locs mc ms := by
    subst hA
    obtain ⟨e1, e2⟩ := hsame
    rw [State.setFrames_setFrames] at e1
    have h2 : (T.setVm s.vm).sameButNew ({ U with vm := s.vm } : State) [] (0 + 1) (0 + 6) := ⟨e1, e2⟩
    have h3 := X.same.trans h2
    rw [List.append_nil] at h3
    exact h3.mono hc hs
  refine ⟨U, ?_, .threw T.heap.size, hrun, hend, Or.inr ⟨T.heap.size, rfl, cls, ce, locs, hx U hWs.alike f1 (fun q hq => f2 q hq (fun z hz => nomatch hz)), hce, hO.vm, hcl, hWs, hall, hf⟩⟩
  refine st1 _ ?_
  show Steps p.tables e below (T1.setTop { method := m, pc := pc + 3, locals := ls, stack := .ref T.heap.size :: rest, locked := none }) _
  jvm_step X₁.here [X₁.here.top, hexec, d3', Value.category]
  exact hsteps
/-- 'throw new E("text")': new; dup; ldc; invokespecial; athrow -/
theorem vx_throwS {cc : ByteArray} {pc : Nat} (hexec : p.tables.exec = Jvm.exec) (hb : c.code = cc) (hl : l.stackTraces = false) {own cls text : String} {names : List String} {ik is ic mc ms sa : Nat} {A : Nat → Prop}
    (hown : s.vm.findClass own = some m.cls) (hcls : Bundle.fit cls = true) (hnames : ∀ n ∈ names, Bundle.fit n = true)
    (hk : (Cond.classLink own ik cls).before args s = true) (hini : (Cond.initialized cls).before args s = true) (hstr : vk_R own is text sa s) (hat : ∀ w ∈ vx_atS own ic cls names, w.before args s = true)
    (hgood : ∀ w ∈ Cond.classLink own ik cls :: Cond.initialized cls :: vx_atS own ic cls names, vx_ot w = true)
    (hU : vx_Zq Bundle.tN "UNASSIGNED_STACK" Bundle.steD A s s.heap) (hN : vx_Zq Bundle.tN "SUPPRESSED_SENTINEL" Bundle.listD A s s.heap) (hS : va_S A s.heap H locs) (hsize : ls.size = c.maxLocals)
    (d0 : decode cc pc = .ok (.new ik, 3)) (d3 : decode cc (pc + 3) = .ok (.dup, 1)) (d4 : decode cc (pc + 4) = .ok (.ldc is, 2)) (d6 : decode cc (pc + 6) = .ok (.invokespecial ic, 3)) (d9 : decode cc (pc + 9) = .ok (.athrow, 1))
    (hout : ∀ x ∈ c.exceptionTable.toList, covers x (pc + 9) = false)
    (hRframes : names.length + 3 < R.frames) (hRlocals : (rest.map fun v => v.category).sum + (13 * (names.length + 1) + 43) ≤ R.locals) (hRcells : cells + 1 ≤ R.cells) (hRslots : slots + 6 ≤ R.slots) (hlocks : meth.locks = false)
    (hx : ∀ t : State, s.vm.Alike t.vm → H.size ≤ t.heap.size → (∀ q : Nat, q < H.size → t.heap[q]? = H[q]?) → XC cls s t)
    (hf : ∀ z ∈ locs, free z.base) (hc : cells + 1 ≤ mc) (hs : slots + 6 ≤ ms) :
    W p l e R s m args below meth c H locs cells slots (vx_MQ below Qc XC args s mc ms free) (F0 m pc ls rest) := by
  intro T hT X
  have htr : e.platform.stackTraces = false := (show e.platform.stackTraces = l.stackTraces by rw [X.admits.platform]).trans hl
  have Y := vx_rebase X (R' := { frames := R.frames, locals := R.locals, cells := 1, slots := 6 }) (Nat.le_refl _) (Nat.le_refl _) hRcells hRslots
  obtain ⟨s', hA⟩ : ∃ z, z = (T.setVm s.vm).setFrames (.invoking m args :: below) := ⟨_, rfl⟩
  rw [← hA] at Y
  have hvm : s'.vm = s.vm := by rw [hA]; rfl
  have hhp : s'.heap = H := by rw [hA]; exact hT
  have hW0 : s.WarmedH s'.vm := by rw [hvm]; exact State.WarmedH.refl s
  have hat' : ∀ w ∈ vx_atS own ic cls names, w.before args s' = true := fun w hw => vx_ot_at hW0 hvm.symm (hgood w (List.mem_cons_of_mem _ (List.mem_cons_of_mem _ hw))) (hat w hw)
  have hk' : (Cond.classLink own ik cls).before args s' = true := vx_ot_at hW0 hvm.symm (hgood _ List.mem_cons_self) hk
  have hini' : (Cond.initialized cls).before args s' = true := vx_ot_at hW0 hvm.symm (hgood _ (List.mem_cons_of_mem _ List.mem_cons_self)) hini
  have hU' : vx_Zq Bundle.tN "UNASSIGNED_STACK" Bundle.steD A s' s'.heap := by rw [hhp]; exact vx_Zq.moved hW0.alike (hU.kept hS.2.1)
  have hN' : vx_Zq Bundle.tN "SUPPRESSED_SENTINEL" Bundle.listD A s' s'.heap := by rw [hhp]; exact vx_Zq.moved hW0.alike (hN.kept hS.2.1)
  have h : ∀ w ∈ Bundle.ownAtoms own ic cls names, w.before args s' = true := vx_own hat' (vx_isRefq hU'.1) (vx_isRefq hN'.1) hU'.2.word hN'.2.word
  have hown' : s'.vm.findClass own = some m.cls := by rw [hvm]; exact hown
  have hins : (Cond.instantiable cls 6).before args s' = true := h _ (by simp [Bundle.ownAtoms])
  obtain ⟨vm₁, cX, kX, hfX, hkX, -, -, X₁, st1⟩ := Y.newCold hexec (own := own) (C := cls) (index := ik) (n := 6) hown' hk' hins hini'
    (g := F0 m pc ls rest) rfl (by rw [hb]; exact d0) (Nat.le_refl _) (Nat.le_refl _)
  generalize hT1 : (T.setVm vm₁).pushCell { cls := cX, slots := kX.instanceTypes.map defaultValue, vm := .none } = T1 at X₁ st1
  have hcat : (Value.ref T.heap.size).category = 1 := rfl
  have hcellA : T1.heap[T.heap.size]? = some (freshCell cX kX) := by rw [← hT1]; exact State.heap_pushCell_size _ _
  have d3' : decode c.code (pc + 3) = .ok (.dup, 1) := by rw [hb]; exact d3
  have d4' : decode c.code (pc + 4) = .ok (.ldc is, 2) := by rw [hb]; exact d4
  have hstr' : vk_R own is text sa s' := vk_R.warm hW0 hstr
  obtain ⟨U, hsteps, hrun, hend, hW, hsame, ce, hce, hO⟩ := X₁.ctorThrowS hexec htr (own := own) (cls := cls) (names := names) (ic := ic) hown' hcls hnames h (fun x hx => nomatch hx) hfX hkX hcellA (by rw [hhp, hT]; exact Nat.le_refl _) (msg := .ref sa) rfl
    (g := { method := m, pc := pc + 6, locals := ls, stack := .ref sa :: .ref T.heap.size :: .ref T.heap.size :: rest, locked := none }) rfl hsize rfl rfl (rest := rest) rfl
    (by rw [hb]; exact d6) (by rw [hb]; exact d9) hout hRframes (by simp only [List.map_cons, List.sum_cons, hcat]; omega) hlocks
  obtain ⟨f1, f2⟩ := vx_frame hsame
  rw [hhp] at f1 f2
  have hWs : s.WarmedH U.vm := State.WarmedH.trans hW0 hW
  have hcl : s.vm.findClass cls = some ce.cls := by
    have h9 := hO.cls
    rw [hvm] at h9
    exact h9
  have hall : s.sameButNew ({ U with vm := s.vm } : State) locs mc ms := by
    subst hA
    obtain ⟨e1, e2⟩ := hsame
    rw [State.setFrames_setFrames] at e1
    have h2 : (T.setVm s.vm).sameButNew ({ U with vm := s.vm } : State) [] (0 + 1) (0 + 6) := ⟨e1, e2⟩
    have h3 := X.same.trans h2
    rw [List.append_nil] at h3
    exact h3.mono hc hs
  refine ⟨U, ?_, .threw T.heap.size, hrun, hend, Or.inr ⟨T.heap.size, rfl, cls, ce, locs, hx U hWs.alike f1 (fun q hq => f2 q hq (fun z hz => nomatch hz)), hce, hO.vm, hcl, hWs, hall, hf⟩⟩
  refine st1 _ ?_
  show Steps p.tables e below (T1.setTop { method := m, pc := pc + 3, locals := ls, stack := .ref T.heap.size :: rest, locked := none }) _
  jvm_step X₁.here [X₁.here.top, hexec, d3', Value.category]
  exact X₁.ldcString hexec (own := own) (text := text) (index := is) (a := sa) hown' hstr'.1 hstr'.2
    (g := { method := m, pc := pc + 4, locals := ls, stack := .ref T.heap.size :: .ref T.heap.size :: rest, locked := none }) rfl d4' _ hsteps
/-- 'throw new E("text")', the text by a wide index -/
theorem vx_throwSW {cc : ByteArray} {pc : Nat} (hexec : p.tables.exec = Jvm.exec) (hb : c.code = cc) (hl : l.stackTraces = false) {own cls text : String} {names : List String} {ik is ic mc ms sa : Nat} {A : Nat → Prop}
    (hown : s.vm.findClass own = some m.cls) (hcls : Bundle.fit cls = true) (hnames : ∀ n ∈ names, Bundle.fit n = true)
    (hk : (Cond.classLink own ik cls).before args s = true) (hini : (Cond.initialized cls).before args s = true) (hstr : vk_R own is text sa s) (hat : ∀ w ∈ vx_atS own ic cls names, w.before args s = true)
    (hgood : ∀ w ∈ Cond.classLink own ik cls :: Cond.initialized cls :: vx_atS own ic cls names, vx_ot w = true)
    (hU : vx_Zq Bundle.tN "UNASSIGNED_STACK" Bundle.steD A s s.heap) (hN : vx_Zq Bundle.tN "SUPPRESSED_SENTINEL" Bundle.listD A s s.heap) (hS : va_S A s.heap H locs) (hsize : ls.size = c.maxLocals)
    (d0 : decode cc pc = .ok (.new ik, 3)) (d3 : decode cc (pc + 3) = .ok (.dup, 1)) (d4 : decode cc (pc + 4) = .ok (.ldc_w is, 3)) (d7 : decode cc (pc + 7) = .ok (.invokespecial ic, 3)) (d10 : decode cc (pc + 10) = .ok (.athrow, 1))
    (hout : ∀ x ∈ c.exceptionTable.toList, covers x (pc + 10) = false)
    (hRframes : names.length + 3 < R.frames) (hRlocals : (rest.map fun v => v.category).sum + (13 * (names.length + 1) + 43) ≤ R.locals) (hRcells : cells + 1 ≤ R.cells) (hRslots : slots + 6 ≤ R.slots) (hlocks : meth.locks = false)
    (hx : ∀ t : State, s.vm.Alike t.vm → H.size ≤ t.heap.size → (∀ q : Nat, q < H.size → t.heap[q]? = H[q]?) → XC cls s t)
    (hf : ∀ z ∈ locs, free z.base) (hc : cells + 1 ≤ mc) (hs : slots + 6 ≤ ms) :
    W p l e R s m args below meth c H locs cells slots (vx_MQ below Qc XC args s mc ms free) (F0 m pc ls rest) := by
  intro T hT X
  have htr : e.platform.stackTraces = false := (show e.platform.stackTraces = l.stackTraces by rw [X.admits.platform]).trans hl
  have Y := vx_rebase X (R' := { frames := R.frames, locals := R.locals, cells := 1, slots := 6 }) (Nat.le_refl _) (Nat.le_refl _) hRcells hRslots
  obtain ⟨s', hA⟩ : ∃ z, z = (T.setVm s.vm).setFrames (.invoking m args :: below) := ⟨_, rfl⟩
  rw [← hA] at Y
  have hvm : s'.vm = s.vm := by rw [hA]; rfl
  have hhp : s'.heap = H := by rw [hA]; exact hT
  have hW0 : s.WarmedH s'.vm := by rw [hvm]; exact State.WarmedH.refl s
  have hat' : ∀ w ∈ vx_atS own ic cls names, w.before args s' = true := fun w hw => vx_ot_at hW0 hvm.symm (hgood w (List.mem_cons_of_mem _ (List.mem_cons_of_mem _ hw))) (hat w hw)
  have hk' : (Cond.classLink own ik cls).before args s' = true := vx_ot_at hW0 hvm.symm (hgood _ List.mem_cons_self) hk
  have hini' : (Cond.initialized cls).before args s' = true := vx_ot_at hW0 hvm.symm (hgood _ (List.mem_cons_of_mem _ List.mem_cons_self)) hini
  have hU' : vx_Zq Bundle.tN "UNASSIGNED_STACK" Bundle.steD A s' s'.heap := by rw [hhp]; exact vx_Zq.moved hW0.alike (hU.kept hS.2.1)
  have hN' : vx_Zq Bundle.tN "SUPPRESSED_SENTINEL" Bundle.listD A s' s'.heap := by rw [hhp]; exact vx_Zq.moved hW0.alike (hN.kept hS.2.1)
  have h : ∀ w ∈ Bundle.ownAtoms own ic cls names, w.before args s' = true := vx_own hat' (vx_isRefq hU'.1) (vx_isRefq hN'.1) hU'.2.word hN'.2.word
  have hown' : s'.vm.findClass own = some m.cls := by rw [hvm]; exact hown
  have hins : (Cond.instantiable cls 6).before args s' = true := h _ (by simp [Bundle.ownAtoms])
  obtain ⟨vm₁, cX, kX, hfX, hkX, -, -, X₁, st1⟩ := Y.newCold hexec (own := own) (C := cls) (index := ik) (n := 6) hown' hk' hins hini'
    (g := F0 m pc ls rest) rfl (by rw [hb]; exact d0) (Nat.le_refl _) (Nat.le_refl _)
  generalize hT1 : (T.setVm vm₁).pushCell { cls := cX, slots := kX.instanceTypes.map defaultValue, vm := .none } = T1 at X₁ st1
  have hcat : (Value.ref T.heap.size).category = 1 := rfl
  have hcellA : T1.heap[T.heap.size]? = some (freshCell cX kX) := by rw [← hT1]; exact State.heap_pushCell_size _ _
  have d3' : decode c.code (pc + 3) = .ok (.dup, 1) := by rw [hb]; exact d3
  have d4' : decode c.code (pc + 4) = .ok (.ldc_w is, 3) := by rw [hb]; exact d4
  have hstr' : vk_R own is text sa s' := vk_R.warm hW0 hstr
  obtain ⟨U, hsteps, hrun, hend, hW, hsame, ce, hce, hO⟩ := X₁.ctorThrowS hexec htr (own := own) (cls := cls) (names := names) (ic := ic) hown' hcls hnames h (fun x hx => nomatch hx) hfX hkX hcellA (by rw [hhp, hT]; exact Nat.le_refl _) (msg := .ref sa) rfl
    (g := { method := m, pc := pc + 7, locals := ls, stack := .ref sa :: .ref T.heap.size :: .ref T.heap.size :: rest, locked := none }) rfl hsize rfl rfl (rest := rest) rfl
    (by rw [hb]; exact d7) (by rw [hb]; exact d10) hout hRframes (by simp only [List.map_cons, List.sum_cons, hcat]; omega) hlocks
  obtain ⟨f1, f2⟩ := vx_frame hsame
  rw [hhp] at f1 f2
  have hWs : s.WarmedH U.vm := State.WarmedH.trans hW0 hW
  have hcl : s.vm.findClass cls = some ce.cls := by
    have h9 := hO.cls
    rw [hvm] at h9
    exact h9
  have hall : s.sameButNew ({ U with vm := s.vm } : State) locs mc ms := by
    subst hA
    obtain ⟨e1, e2⟩ := hsame
    rw [State.setFrames_setFrames] at e1
    have h2 : (T.setVm s.vm).sameButNew ({ U with vm := s.vm } : State) [] (0 + 1) (0 + 6) := ⟨e1, e2⟩
    have h3 := X.same.trans h2
    rw [List.append_nil] at h3
    exact h3.mono hc hs
  refine ⟨U, ?_, .threw T.heap.size, hrun, hend, Or.inr ⟨T.heap.size, rfl, cls, ce, locs, hx U hWs.alike f1 (fun q hq => f2 q hq (fun z hz => nomatch hz)), hce, hO.vm, hcl, hWs, hall, hf⟩⟩
  refine st1 _ ?_
  show Steps p.tables e below (T1.setTop { method := m, pc := pc + 3, locals := ls, stack := .ref T.heap.size :: rest, locked := none }) _
  jvm_step X₁.here [X₁.here.top, hexec, d3', Value.category]
  exact X₁.ldcStringW hexec (own := own) (text := text) (index := is) (a := sa) hown' hstr'.1 hstr'.2
    (g := { method := m, pc := pc + 4, locals := ls, stack := .ref T.heap.size :: .ref T.heap.size :: rest, locked := none }) rfl d4' _ hsteps
end Ends
section Bodies
variable {l : Launch}
theorem vx_ofW {y : MethodName} {ws ws' : List Cond} {rm : Room} {Pc : Array Value → State → Prop} {Qc : Array Value → State → Outcome → State → Prop} {XC : String → State → State → Prop} {mc ms : Nat} {free : Addr → Prop} {cc : ByteArray} {maxL : Nat} {ret : Option FieldType}
    (hy : plainName y.cls = true) (hw : ws = Cond.code y cc maxL ret :: ws')
    (body : ∀ p e s m args below meth c s₁, BodyLoose p l y (headSpec ws rm) cc maxL ret e s m args below meth c s₁ → c.maxLocals = maxL → (∀ x ∈ c.exceptionTable.toList, False) → Pc args s →
      W p l e (headSpec ws rm).room s m args below meth c s.heap [] 0 0 (vx_MQ below Qc XC args s mc ms free) (entryFrame m args maxL)) : vx_Met l y ws rm Pc Qc XC mc ms free := by
  refine MetFree.of_bodyS (code := cc) (maxLocals := maxL) (ret := ret) hy ?_ ?_
  · intro args s m h hn
    obtain ⟨meth, c, h1, h2, h3, h4, h5, h6, -, -⟩ := Cond.code_spec hn (atoms_spec (ws := ws) h _ (by rw [hw]; exact List.mem_cons_self))
    exact ⟨meth, c, h1, h2, h3, h4, h5, h6⟩
  · intro p e s m args below meth c s₁ B hml hP _
    have hh0 : s₁.heap = s.heap := by rw [B.state]; rfl
    have ht : ∀ x ∈ c.exceptionTable.toList, False := by
      obtain ⟨meth9, c9, h1, h2, -, -, -, -, h7, -⟩ := Cond.code_spec B.named (atoms_spec (ws := ws) B.pre _ (by rw [hw]; exact List.mem_cons_self))
      cases Option.some.inj (h1.symm.trans B.method)
      cases Option.some.inj (h2.symm.trans (Stand.of_body B).code)
      intro x hx
      rw [Array.isEmpty_iff.mp h7] at hx
      cases hx
    obtain ⟨t, a1, o, b1, b2, b3⟩ := body p e s m args below meth c s₁ B hml ht hP s₁ hh0 (Stand.of_body B)
    exact ⟨t, o, a1, b1, b2, b3⟩
/-- the table of a body with handlers -/
theorem vx_table {p : Program} {x y : MethodName} {S : Spec} {cc bytes : ByteArray} {maxL maxL' : Nat} {ret ret' : Option FieldType} {e : Env} {s s₁ : State} {m : MethodId} {args : Array Value} {below : List Frame} {meth : Method} {c : Code} {hh : List (Nat × Nat × Nat × Nat)}
    (B : BodyLoose p l y S cc maxL ret e s m args below meth c s₁) (h : (Cond.codeWith y bytes maxL' ret' hh).before args s = true) : c.exceptionTable.toList = tableOf hh := by
  obtain ⟨m9, meth9, c9, hn9, h1, h2, -, -, h6, -⟩ := Cond.codeWith_spec h
  cases Option.some.inj (hn9.symm.trans B.named)
  cases Option.some.inj (h1.symm.trans B.method)
  cases Option.some.inj (h2.symm.trans (Stand.of_body B).code)
  rw [← h6, table_eq]
end Bodies
end VXA
/-! ===== END ===== -/
/-! ===== BEGIN a static call of a method with an exception table ===== -/
section VXS
variable {p : Program} {l : Launch} {e : Env} {R : Room} {s : State} {m : MethodId} {args : Array Value} {below : List Frame} {meth : Method} {c : Code} {T : State} {H : Heap} {locs : List Loc} {cells slots : Nat}
abbrev vx_CSW (R : Room) (s : State) (args : Array Value) (own : String) (index : Nat) (y : MethodName) (bytes : ByteArray) (maxL : Nat) (ret : Option FieldType) (hh : List (Nat × Nat × Nat × Nat)) (ws : List Cond) (rm : Room) (mc ms n : Nat) : Prop :=
  (rm.cells = mc ∧ rm.slots = ms ∧ rm.frames + 1 ≤ R.frames ∧ 8 + (maxL + 11) + rm.locals ≤ R.locals ∧ (∀ w ∈ ws, ∀ (a' : Array Value) (U : State), s.WarmedH U.vm → w.before a' U = true) ∧ Cond.codeWith y bytes maxL ret hh ∈ ws) ∧
  (Cond.codeWith y bytes maxL ret hh).before args s = true ∧ (Cond.initialized y.cls).before args s = true ∧ (y.cls ≠ "java/lang/invoke/MethodHandle" ∧ y.cls ≠ "java/lang/invoke/VarHandle") ∧
  (∀ sig, parseMethodDescriptor y.desc = some sig → n = sig.parameters.length) ∧ (Cond.methodLink own index y).before args s = true ∧ (Cond.static y).before args s = true
theorem vx_cwSW {own : String} {index maxL mc ms : Nat} {y : MethodName} {bytes : ByteArray} {ret : Option FieldType} {hh : List (Nat × Nat × Nat × Nat)} {Ts ws ws' : List Cond} {rm : Room} (n : Nat) (ht : ∀ w ∈ Ts, w.before args s = true) (hT : GoodIn Ts (va_wsS own index y ws)) (hw : ws = Cond.codeWith y bytes maxL ret hh :: ws') (hrc : rm.cells = mc) (hrs : rm.slots = ms)
    (hd : y.cls ≠ "java/lang/invoke/MethodHandle" ∧ y.cls ≠ "java/lang/invoke/VarHandle" ∧ (parseMethodDescriptor y.desc).map (fun d => d.parameters.length) = some n) (hR : rm.frames + 1 ≤ R.frames ∧ 8 + (maxL + 11) + rm.locals ≤ R.locals) :
    vx_CSW R s args own index y bytes maxL ret hh ws rm mc ms n := by
  have ok : ∀ w ∈ va_wsS own index y ws, w.before args s = true := fun w h => ht w (hT w h).1
  have hG : GoodIn Ts ws := fun w h => hT w (by unfold va_wsS; exact List.mem_append_right _ h)
  have hc : Cond.codeWith y bytes maxL ret hh ∈ ws := by rw [hw]; exact List.mem_cons_self
  refine ⟨⟨hrc, hrs, hR.1, hR.2, pay_in ht hG, hc⟩, ht _ (hG _ hc).1, ok _ (by simp [va_wsS]), ⟨hd.1, hd.2.1⟩, fun sig h => ?_, ok _ (by simp [va_wsS]), ok _ (by simp [va_wsS])⟩
  have h2 := hd.2.2
  rw [h] at h2
  exact (Option.some.inj h2).symm
theorem vx_callSW (X : Stand p l e R s m args below meth c T locs cells slots) (hexec : p.tables.exec = Jvm.exec) {own : String} {index : Nat} {y : MethodName} {bytes : ByteArray} {maxL : Nat} {ret : Option FieldType} {hh : List (Nat × Nat × Nat × Nat)}
    (hown : s.vm.findClass own = some m.cls) (hlink : (Cond.methodLink own index y).before args s = true) (hstat : (Cond.static y).before args s = true) (hinit : (Cond.initialized y.cls).before args s = true)
    (hcode : (Cond.codeWith y bytes maxL ret hh).before args s = true) (hy : y.cls ≠ "java/lang/invoke/MethodHandle" ∧ y.cls ≠ "java/lang/invoke/VarHandle")
    {W9 : Nat} {Pre : Pt → Array Value → Prop} {Post : Pt → Array Value → Option Value → Pt → Prop} (hK : Back l R p e below s args y 3 W9 Pre Post)
    {g : JFrame} (hg : g.method = m) (hsize : g.locals.size = c.maxLocals) {argsL rest : List Value} (hlen : ∀ sig, parseMethodDescriptor y.desc = some sig → argsL.length = sig.parameters.length)
    (hstack : g.stack = argsL.reverse ++ rest) (hW : 2 * g.monitorRoom + (rest.map fun v => v.category).sum ≤ W9) (hdg : decode c.code g.pc = .ok (.invokestatic index, 3))
    (hpre : ∀ vm₁, s.WarmedH vm₁ → Pre ⟨T.setVm vm₁, locs, cells, slots⟩ argsL.toArray) :
    ∃ (v : Option Value) (vm₁ : Vm) (B : Pt), s.WarmedH vm₁ ∧ Stand p l e R s m args below meth c B.U B.locs B.cells B.slots ∧ Post ⟨T.setVm vm₁, locs, cells, slots⟩ argsL.toArray v B ∧
      ∀ target, Steps p.tables e below (B.U.setTop { g with pc := g.pc + 3, stack := v.toList ++ rest }) target → Steps p.tables e below (T.setTop g) target := by
  obtain ⟨mk, methM, cM, hnamed, hmethM, -, -, -, -, -, -, hsigM⟩ := Cond.codeWith_spec hcode
  have hstatic : methM.isStatic = true := Cond.static_spec hnamed hmethM hstat
  obtain ⟨kP, hkP, -⟩ := className_of_methodNamed hnamed
  have hinitP : kP.init = .initialized := Cond.initialized_spec (findClass_of_methodNamed hnamed) hkP hinit
  obtain ⟨vm₁, X₁, hstep₁⟩ := X.invokestatic hexec hown hlink hnamed hmethM hstatic hkP hinitP hy (g := g) hg (argsL := argsL) (rest := rest) (hlen _ hsigM) hstack hdg
  obtain ⟨v, B, X', hpost, hsteps⟩ := hK m meth c ⟨T.setVm vm₁, locs, cells, slots⟩ { g with stack := rest } (.invokestatic index) mk argsL.toArray X₁ hg hsize hdg hW (X₁.named hnamed) (hpre vm₁ X₁.warmed)
  exact ⟨v, vm₁, B, X₁.warmed, X', hpost, fun target h => hstep₁ _ fun acts => by rw [doInvoke_state]; exact hsteps.trans h⟩
theorem vx_runSW {y : MethodName} {bytes cc : ByteArray} {maxL nL mc ms n index : Nat} {ret : Option FieldType} {hh : List (Nat × Nat × Nat × Nat)} {ws : List Cond} {rm : Room} {Pc : Array Value → State → Prop} {Qc : Array Value → State → Outcome → State → Prop} {free : Addr → Prop} {Ts : List Cond} {own : String} {As rest : List Value} {g : JFrame}
    (S : CallFix p m c cc nL s args Ts own) (hM : Met l y ws rm Pc Qc mc ms free) (cw : vx_CSW R s args own index y bytes maxL ret hh ws rm mc ms n) (hp : PreS s H Pc As)
    (hg : g.method = m) (hn : As.length = n) (hsize : g.locals.size = nL) (hstack : g.stack = As.reverse ++ rest) (hW : 2 * g.monitorRoom + (rest.map fun v => v.category).sum ≤ 8) (hdg : decode cc g.pc = .ok (.invokestatic index, 3)) (hf : cells + mc ≤ R.cells ∧ slots + ms ≤ R.slots) :
    va_Run p l e R s m args below meth c H locs cells slots mc ms g rest (Qc As.toArray) (free) := by
  obtain ⟨⟨hrc, hrs, hfr, hlo, hws, hcw⟩, hcode, hini, hy, hlen, hl, hstt⟩ := cw
  have hK : Back l R p e below s args y 3 8 (PreOf R mc ms Pc) (PostOf Qc mc ms free) := va_backW (hh := hh) (bytes := bytes) (maxL := maxL) (ret := ret) hM hp.1 hrc hrs hfr hlo hws hcw (fun a' U hW => word_at hW (Or.inl (by first | rfl | simp [Cond.onTables, Cond.keeps, Cond.steady])) hini)
  obtain ⟨hx, hb, hml, ho, -⟩ := S
  intro T hT X
  obtain ⟨v, vm₁, ⟨U', l2, c2, s2⟩, hW₁, X', ⟨g', mk, t, L, e1, e2, hq, h1, hL, h2, h3⟩, st⟩ := vx_callSW X hx (hh := hh) (bytes := bytes) (maxL := maxL) (ret := ret) ho hl hstt hini hcode hy hK hg (hsize.trans hml.symm) (argsL := As) (rest := rest) (fun sig h => hn.trans (hlen sig h)) hstack hW (by rw [hb]; exact hdg)
    (fun vm₁ hW₁ => ⟨hf.1, hf.2, hp.2 (T.setVm vm₁) hT hW₁⟩)
  dsimp only [Pt.U, Pt.locs, Pt.cells, Pt.slots] at X' e1 e2 h1 h2 h3 st
  subst h1; subst h2; subst h3
  exact ⟨v, (T.setVm vm₁).calling g' mk As.toArray, t, U', L, hT, X', hL, e1, e2, hq, st⟩
/-- not caught here, past rows that name other classes: it goes on to the caller -/
theorem vx_outP {p : Program} {l : Launch} {e : Env} {R : Room} {s : State} {m : MethodId} {args : Array Value} {below : List Frame} {meth : Method} {c : Code} {H : Heap} {locs : List Loc} {cells slots : Nat} {free : Addr → Prop} {ls : Array Slot} {rest : List Value} {Qc : Array Value → State → Outcome → State → Prop} {XC : String → State → State → Prop}
    {pc : Nat} {own E : String} {ce : Cell} {q : Addr} {mc ms : Nat} (hown : s.vm.findClass own = some m.cls) (hlocks : meth.locks = false)
    (hpass : ∀ z ∈ c.exceptionTable.toList, covers z pc = false ∨ (z.catchType ≠ 0 ∧ ∃ nm : String, (Cond.classLink own z.catchType nm).before args s = true ∧ va_Nc E nm s)) (hcell : H[q]? = some ce) (hv : ce.vm = .none) (hcl : s.vm.findClass E = some ce.cls)
    (hx : ∀ t : State, t.heap = H → s.vm.Alike t.vm → XC E s t) (hf : ∀ z ∈ locs, free z.base) (hc : cells ≤ mc) (hs : slots ≤ ms) :
    vx_W p l e R s m args below meth c H locs cells slots (vx_MQ below Qc XC args s mc ms free) (F0 m pc ls rest) q := by
  intro T hT X
  have hpl : e.platform.magicAccessors = ({} : Platform).magicAccessors := by rw [X.admits.platform]
  obtain ⟨vm', hW', X', st⟩ := X.outThrough hlocks q (g := F0 m pc ls rest) rfl rfl rfl (cell := ce) (by rw [hT]; exact hcell) (by rw [hv]; rfl)
    (by obtain ⟨k9, h9, -⟩ := Vm.findClass_spec hcl; exact ⟨k9, h9⟩) (fun z hz => by
      rcases hpass z hz with h | ⟨hz0, nm, hl1, hn1⟩
      · exact Or.inl h
      · obtain ⟨c6, hc6, hcl6⟩ := Cond.classLink_spec hown hl1 e.platform hpl
        obtain ⟨a8, b8, h1, h2, h3⟩ := hn1
        cases Option.some.inj (h1.symm.trans hcl)
        cases Option.some.inj (h2.symm.trans hc6)
        exact Or.inr ⟨hz0, _, hcl6, h3⟩)
  obtain ⟨g₀, hfr⟩ := X'.frames_eq
  have hcell9 : ((T.setVm vm').setFrames (.throwing q :: below)).heap[q]? = some ce := by
    show T.heap[q]? = some ce
    rw [hT]; exact hcell
  have hend : Ended ((T.setVm vm').setFrames (.throwing q :: below)) below (.threw q) := State.frames_setFrames _ (State.cur_lt_of_frames hfr)
  refine ⟨(T.setVm vm').setFrames (.throwing q :: below), ?_, .threw q, X'.here.running, hend, Or.inr ⟨q, rfl, E, ce, locs, hx _ hT (X'.ends _).1.alike, hcell9, hv, hcl, (X'.ends _).1, (X'.ends _).2.mono hc hs, hf⟩⟩
  rw [X.pushThrowing_eq]
  exact st
/-- a thing of a world lies in the heap -/
theorem vx_lt {D : va_G} {cl : List vw_C} {ws : va_W} {H1 : Heap} (h : va_P D cl ws H1) {k : Nat} {q : Nat × va_E} (hk : ws[k]? = some q) : q.1 < H1.size := (h k q hk).lt
end VXS
/-! ===== END ===== -/
/-! ===== BEGIN methods with a table of their own: called by a name, returning or throwing ===== -/
section VXH
/-! vx_backW, vx_callVX, vx_callSX, vx_callVW, vx_runVW, vx_runVX, vx_runSX, vx_ofWH follow the same proofs as their sisters above (Free/Laws.lean, Shelf42/LK1.lean); vx_outP calls Shelf42/NT130.lean (outThrough). -/
section
variable {l : Launch} {R : Room} {p : Program} {e : Env} {below : List Frame} {s : State} {sargs : Array Value} {y : MethodName} {len W9 : Nat}
theorem vx_backW {ws : List Cond} {rm : Room} {Pc : Array Value → State → Prop} {Qc : Array Value → State → Outcome → State → Prop} {XC : String → State → State → Prop} {mc ms : Nat} {free : Addr → Prop} {bytes : ByteArray} {maxL : Nat} {ret : Option FieldType} {hh : List (Nat × Nat × Nat × Nat)}
    (hM : vx_Met l y ws rm Pc Qc XC mc ms free) (hblind : FrameBlind Pc) (hrc : rm.cells = mc) (hrs : rm.slots = ms)
    (hframes : rm.frames + 1 ≤ R.frames) (hlocals : W9 + (maxL + 11) + rm.locals ≤ R.locals)
    (hws : ∀ w ∈ ws, ∀ a' U, s.WarmedH U.vm → w.before a' U = true) (hcode : Cond.codeWith y bytes maxL ret hh ∈ ws) (hinit : ∀ a' U, s.WarmedH U.vm → (Cond.initialized y.cls).before a' U = true) :
    vx_Back l R p e below s sargs y len W9 (PreOf R mc ms Pc) (PostOf Qc mc ms free) (vx_Post XC mc ms free) := by
  intro m meth c A g ig mk a X hg hsize hdg hW hn hp
  have h1 : (headSpec ws rm).pre.before a A.U = true := atoms_intro fun w hw => hws w hw _ _ X.warmed
  have h2 : (Cond.codeWith y bytes maxL ret hh).before a A.U = true := hws _ hcode _ _ X.warmed
  have h3 : (Cond.initialized y.cls).before a A.U = true := hinit _ _ X.warmed
  have h4 : A.cells + (headSpec ws rm).room.cells ≤ R.cells := by rw [show (headSpec ws rm).room.cells = mc from hrc]; exact hp.1
  have h5 : A.slots + (headSpec ws rm).room.slots ≤ R.slots := by rw [show (headSpec ws rm).room.slots = ms from hrs]; exact hp.2.1
  have hPc : Pc a (A.U.calling g mk a) := hblind _ _ _ _ hp.2.2
  obtain ⟨U, Ls, c0, s0⟩ := A
  dsimp only [Pt.U, Pt.locs, Pt.cells, Pt.slots] at h1 h2 h3 h4 h5 X hn hPc ⊢
  obtain ⟨m9, methY, cY, hn9, hmY, hcY, -, hlY, -⟩ := Cond.codeWith_spec h2
  cases Option.some.inj (hn9.symm.trans hn)
  obtain ⟨kY, hkY, -⟩ := className_of_methodNamed hn
  have hinitY : kY.init = .initialized := Cond.initialized_spec (findClass_of_methodNamed hn) hkY h3
  have h : At U g.method c below := by rw [hg]; exact X.here
  have hlocals9 : W9 + (maxL + 11) + (headSpec ws rm).room.locals ≤ R.locals := hlocals
  have happ : (headSpec ws rm).appliesLoose y e.platform (U.calling g mk a) = true :=
    Spec.appliesLoose_calling (g := g) h hdg hn hkY hinitY
      (X.room_calling (g := g) (R' := (headSpec ws rm).room) hsize hmY hcY hframes (by rw [hlY]; omega) h4 h5) h1
  obtain ⟨mid, hmid⟩ := h.above
  have hfr : (U.setTop g).frames = (.java g :: mid) ++ below := by rw [State.frames_setTop' g h.top, hmid]; rfl
  obtain ⟨o, s₂, hsteps, -, hend, hq⟩ := Steps.callFree hM p X.admits X.cas X.clock (acts := []) hfr happ hPc trivial
  have hq' : vx_Q Qc XC mc ms free a (U.calling g mk a) o s₂ := hq
  rw [State.frames_setTop' g h.top] at hend
  obtain ⟨g₀, hg0⟩ := Option.isSome_iff_exists.mp h.top
  obtain ⟨r, hr⟩ := State.topJava?_eq_some.mp hg0
  have hr' : (({ U with heap := s₂.heap, slotsUsed := s₂.slotsUsed } : State).setVm s₂.vm).frames = .java g₀ :: r := hr
  rcases hq' with ⟨hqc, L, hfe, hL⟩ | ⟨q, rfl, E, ce, L, hx, hce, hcv, hcl, hW₂, hsm, hL⟩
  · obtain ⟨⟨v, rfl⟩, hW₂, e2, q2, q3, q4, q5, q6⟩ := id hfe
    have e3 : s₂ = ({ (U.calling g mk a).setFrames s₂.frames with heap := s₂.heap, slotsUsed := s₂.slotsUsed } : State).setVm s₂.vm := by
      have : s₂ = ({ s₂ with vm := (U.calling g mk a).vm } : State).setVm s₂.vm := rfl
      rw [e2] at this
      exact this
    obtain ⟨c₂, i₂, len₂, hc₂, hd₂, hf₂⟩ := hend
    have hW' : U.WarmedH s₂.vm := hW₂
    have hcc : c₂ = c := by
      have h1 : s₂.code? g.method = U.code? g.method := by
        rw [State.code?_eq, State.code?_eq, hW'.alike.method?]
      exact Option.some.inj (hc₂.symm.trans (h1.trans h.code))
    subst hcc
    have hlen : len₂ = len := by rw [hdg] at hd₂; cases hd₂; rfl
    subst hlen
    have hs₂ : s₂ = (({ U with heap := s₂.heap, slotsUsed := s₂.slotsUsed } : State).setVm s₂.vm).setTop { g with pc := g.pc + len₂, stack := v.toList ++ g.stack } := by
      refine e3.trans ?_
      rw [hf₂, State.calling_eq h.top, State.setFrames_setFrames, State.setTop_of_frames _ hr', hr]
      rfl
    have hsame : U.sameButNew ({ U with heap := s₂.heap, slotsUsed := s₂.slotsUsed } : State) L mc ms := by
      refine ⟨?_, q2, q3, q4, q5, q6⟩
      obtain ⟨t, ht, -⟩ := State.frames_cons hr
      show ({ U with heap := s₂.heap, slotsUsed := s₂.slotsUsed } : State) = { U.setFrames U.frames with heap := s₂.heap, slotsUsed := s₂.slotsUsed }
      rw [State.setFrames_self ht]
    subst hg
    refine Or.inl ⟨v, ⟨(({ U with heap := s₂.heap, slotsUsed := s₂.slotsUsed } : State).setVm s₂.vm), Ls ++ L, c0 + mc, s0 + ms⟩,
      ⟨X.admits, X.cas, X.clock, X.frames, X.room, X.hears, X.method, X.code, (X.here.setHeapUsed s₂.heap s₂.slotsUsed).setVm hW'.alike, X.tail, State.WarmedH.trans X.warmed hW', X.limits, X.bytes, X.same.trans (hsame.setVm s.vm)⟩,
      ⟨g, mk, s₂, L, rfl, rfl, hqc, rfl, hL, rfl, rfl⟩, ?_⟩
    show Steps p.tables e below _ ((({ U with heap := s₂.heap, slotsUsed := s₂.slotsUsed } : State).setVm s₂.vm).setTop { g with pc := g.pc + len₂, stack := v.toList ++ g.stack })
    rw [← hs₂]
    exact hsteps
  · obtain ⟨e2, q2, q3, q4, q5, q6⟩ := id hsm
    have e3 : s₂ = ({ (U.calling g mk a).setFrames s₂.frames with heap := s₂.heap, slotsUsed := s₂.slotsUsed } : State).setVm s₂.vm := by
      have : s₂ = ({ s₂ with vm := (U.calling g mk a).vm } : State).setVm s₂.vm := rfl
      rw [e2] at this
      exact this
    have hf₂ : s₂.frames = .throwing q :: .java g :: U.frames.tail := hend
    have hW' : U.WarmedH s₂.vm := hW₂
    have hs₂ : s₂ = ((({ U with heap := s₂.heap, slotsUsed := s₂.slotsUsed } : State).setVm s₂.vm).setTop g).pushFrame (.throwing q) := by
      refine e3.trans ?_
      rw [hf₂, State.calling_eq h.top, State.setFrames_setFrames, State.pushFrame, State.frames_setTop _ hr', State.setTop_of_frames _ hr', State.setFrames_setFrames, hr]
      rfl
    have hsame : U.sameButNew ({ U with heap := s₂.heap, slotsUsed := s₂.slotsUsed } : State) L mc ms := by
      refine ⟨?_, q2, q3, q4, q5, q6⟩
      obtain ⟨t, ht, -⟩ := State.frames_cons hr
      show ({ U with heap := s₂.heap, slotsUsed := s₂.slotsUsed } : State) = { U.setFrames U.frames with heap := s₂.heap, slotsUsed := s₂.slotsUsed }
      rw [State.setFrames_self ht]
    subst hg
    refine Or.inr ⟨q, ⟨(({ U with heap := s₂.heap, slotsUsed := s₂.slotsUsed } : State).setVm s₂.vm), Ls ++ L, c0 + mc, s0 + ms⟩,
      ⟨X.admits, X.cas, X.clock, X.frames, X.room, X.hears, X.method, X.code, (X.here.setHeapUsed s₂.heap s₂.slotsUsed).setVm hW'.alike, X.tail, State.WarmedH.trans X.warmed hW', X.limits, X.bytes, X.same.trans (hsame.setVm s.vm)⟩,
      ⟨g, mk, s₂, L, E, ce, rfl, rfl, hx, hce, hcv, hcl, rfl, hL, rfl, rfl⟩, ?_⟩
    show Steps p.tables e below _ (((({ U with heap := s₂.heap, slotsUsed := s₂.slotsUsed } : State).setVm s₂.vm).setTop g).pushFrame (.throwing q))
    rw [← hs₂]
    exact hsteps
end
variable {p : Program} {l : Launch} {e : Env} {R : Room} {s : State} {m : MethodId} {args : Array Value} {below : List Frame} {meth : Method} {c : Code} {T : State} {H : Heap} {locs : List Loc} {cells slots : Nat}
theorem vx_callVX (X : Stand p l e R s m args below meth c T locs cells slots) (hexec : p.tables.exec = Jvm.exec) {own C : String} {index : Nat} {y : MethodName} {bytes : ByteArray} {maxL : Nat} {ret : Option FieldType} {hh : List (Nat × Nat × Nat × Nat)}
    (hown : s.vm.findClass own = some m.cls) (hlink : (Cond.methodLink own index y).before args s = true) (hinst : (Cond.instanceMethod y).before args s = true) (hsel : (Cond.selects C y y).before args s = true)
    (hcode : (Cond.codeWith y bytes maxL ret hh).before args s = true) (hy : y.cls ≠ "java/lang/invoke/MethodHandle" ∧ y.cls ≠ "java/lang/invoke/VarHandle")
    {W9 : Nat} {Pre : Pt → Array Value → Prop} {Post : Pt → Array Value → Option Value → Pt → Prop} {PostX : Pt → Array Value → Addr → Pt → Prop} (hK : vx_Back l R p e below s args y 3 W9 Pre Post PostX)
    {b : Addr} {cellB : Cell} (hcell : T.heap[b]? = some cellB) (hobj : cellB.vm.isStatics = false) (hcls : s.vm.findClass C = some cellB.cls)
    {g : JFrame} (hg : g.method = m) (hsize : g.locals.size = c.maxLocals) {argsL rest : List Value} (hlen : ∀ sig, parseMethodDescriptor y.desc = some sig → argsL.length = sig.parameters.length)
    (hstack : g.stack = argsL.reverse ++ .ref b :: rest) (hW : 2 * g.monitorRoom + (rest.map fun v => v.category).sum ≤ W9) (hdg : decode c.code g.pc = .ok (.invokevirtual index, 3))
    (hpre : ∀ vm₁, s.WarmedH vm₁ → Pre ⟨T.setVm vm₁, locs, cells, slots⟩ (Value.ref b :: argsL).toArray) :
    (∃ (v : Option Value) (vm₁ : Vm) (B : Pt), s.WarmedH vm₁ ∧ Stand p l e R s m args below meth c B.U B.locs B.cells B.slots ∧ Post ⟨T.setVm vm₁, locs, cells, slots⟩ (Value.ref b :: argsL).toArray v B ∧
      ∀ target, Steps p.tables e below (B.U.setTop { g with pc := g.pc + 3, stack := v.toList ++ rest }) target → Steps p.tables e below (T.setTop g) target) ∨
    (∃ (q : Addr) (vm₁ : Vm) (B : Pt), s.WarmedH vm₁ ∧ Stand p l e R s m args below meth c B.U B.locs B.cells B.slots ∧ PostX ⟨T.setVm vm₁, locs, cells, slots⟩ (Value.ref b :: argsL).toArray q B ∧
      Steps p.tables e below (T.setTop g) ((B.U.setTop { g with stack := rest }).pushFrame (.throwing q))) := by
  obtain ⟨mk, methM, hnamed, hmethM, hstM, habM⟩ := Cond.instanceMethod_spec hinst
  obtain ⟨m8, methM', cM, hn8, hmethM', -, -, -, -, -, -, hsigM⟩ := Cond.codeWith_spec hcode
  cases Option.some.inj (hn8.symm.trans hnamed)
  cases hmethM.symm.trans hmethM'
  obtain ⟨c2, r2, m2, q1, q2, q3, q4, kP, hkP, hkPi⟩ := Cond.selects_spec hsel
  cases hcls.symm.trans q1
  cases (State.methodFound?_of_named hnamed hy).symm.trans q2
  cases hnamed.symm.trans q3
  have hselP : selectMethod e.platform s.vm cellB.cls mk = .method mk := by rw [Launch.admits_selectMethod X.admits]; exact q4
  obtain ⟨vm₁, X₁, hstep₁⟩ := X.invokevirtual hexec hown hlink hnamed hmethM hstM hkP hkPi hy (a := b) (cell := cellB) hcell
    (fun z h => by rw [h] at hobj; cases hobj) hselP hmethM habM hkP hkPi (g := g) hg (argsL := argsL) (rest := rest) (hlen _ hsigM) hstack hdg
  rcases hK m meth c ⟨T.setVm vm₁, locs, cells, slots⟩ { g with stack := rest } (.invokevirtual index) mk (Value.ref b :: argsL).toArray X₁ hg hsize hdg hW (X₁.named hnamed) (hpre vm₁ X₁.warmed) with ⟨v, B, X', hpost, hsteps⟩ | ⟨q, B, X', hpost, hsteps⟩
  · exact Or.inl ⟨v, vm₁, B, X₁.warmed, X', hpost, fun target h => hstep₁ _ fun acts => by rw [doInvoke_state]; exact hsteps.trans h⟩
  · exact Or.inr ⟨q, vm₁, B, X₁.warmed, X', hpost, hstep₁ _ fun acts => by rw [doInvoke_state]; exact hsteps⟩
theorem vx_callSX (X : Stand p l e R s m args below meth c T locs cells slots) (hexec : p.tables.exec = Jvm.exec) {own : String} {index : Nat} {y : MethodName} {bytes : ByteArray} {maxL : Nat} {ret : Option FieldType} {hh : List (Nat × Nat × Nat × Nat)}
    (hown : s.vm.findClass own = some m.cls) (hlink : (Cond.methodLink own index y).before args s = true) (hstat : (Cond.static y).before args s = true) (hinit : (Cond.initialized y.cls).before args s = true)
    (hcode : (Cond.codeWith y bytes maxL ret hh).before args s = true) (hy : y.cls ≠ "java/lang/invoke/MethodHandle" ∧ y.cls ≠ "java/lang/invoke/VarHandle")
    {W9 : Nat} {Pre : Pt → Array Value → Prop} {Post : Pt → Array Value → Option Value → Pt → Prop} {PostX : Pt → Array Value → Addr → Pt → Prop} (hK : vx_Back l R p e below s args y 3 W9 Pre Post PostX)
    {g : JFrame} (hg : g.method = m) (hsize : g.locals.size = c.maxLocals) {argsL rest : List Value} (hlen : ∀ sig, parseMethodDescriptor y.desc = some sig → argsL.length = sig.parameters.length)
    (hstack : g.stack = argsL.reverse ++ rest) (hW : 2 * g.monitorRoom + (rest.map fun v => v.category).sum ≤ W9) (hdg : decode c.code g.pc = .ok (.invokestatic index, 3))
    (hpre : ∀ vm₁, s.WarmedH vm₁ → Pre ⟨T.setVm vm₁, locs, cells, slots⟩ argsL.toArray) :
    (∃ (v : Option Value) (vm₁ : Vm) (B : Pt), s.WarmedH vm₁ ∧ Stand p l e R s m args below meth c B.U B.locs B.cells B.slots ∧ Post ⟨T.setVm vm₁, locs, cells, slots⟩ argsL.toArray v B ∧
      ∀ target, Steps p.tables e below (B.U.setTop { g with pc := g.pc + 3, stack := v.toList ++ rest }) target → Steps p.tables e below (T.setTop g) target) ∨
    (∃ (q : Addr) (vm₁ : Vm) (B : Pt), s.WarmedH vm₁ ∧ Stand p l e R s m args below meth c B.U B.locs B.cells B.slots ∧ PostX ⟨T.setVm vm₁, locs, cells, slots⟩ argsL.toArray q B ∧
      Steps p.tables e below (T.setTop g) ((B.U.setTop { g with stack := rest }).pushFrame (.throwing q))) := by
  obtain ⟨mk, methM, cM, hnamed, hmethM, -, -, -, -, -, -, hsigM⟩ := Cond.codeWith_spec hcode
  have hstatic : methM.isStatic = true := Cond.static_spec hnamed hmethM hstat
  obtain ⟨kP, hkP, -⟩ := className_of_methodNamed hnamed
  have hinitP : kP.init = .initialized := Cond.initialized_spec (findClass_of_methodNamed hnamed) hkP hinit
  obtain ⟨vm₁, X₁, hstep₁⟩ := X.invokestatic hexec hown hlink hnamed hmethM hstatic hkP hinitP hy (g := g) hg (argsL := argsL) (rest := rest) (hlen _ hsigM) hstack hdg
  rcases hK m meth c ⟨T.setVm vm₁, locs, cells, slots⟩ { g with stack := rest } (.invokestatic index) mk argsL.toArray X₁ hg hsize hdg hW (X₁.named hnamed) (hpre vm₁ X₁.warmed) with ⟨v, B, X', hpost, hsteps⟩ | ⟨q, B, X', hpost, hsteps⟩
  · exact Or.inl ⟨v, vm₁, B, X₁.warmed, X', hpost, fun target h => hstep₁ _ fun acts => by rw [doInvoke_state]; exact hsteps.trans h⟩
  · exact Or.inr ⟨q, vm₁, B, X₁.warmed, X', hpost, hstep₁ _ fun acts => by rw [doInvoke_state]; exact hsteps⟩
theorem vx_callVW (X : Stand p l e R s m args below meth c T locs cells slots) (hexec : p.tables.exec = Jvm.exec) {own C : String} {index : Nat} {y : MethodName} {bytes : ByteArray} {maxL : Nat} {ret : Option FieldType} {hh : List (Nat × Nat × Nat × Nat)}
    (hown : s.vm.findClass own = some m.cls) (hlink : (Cond.methodLink own index y).before args s = true) (hinst : (Cond.instanceMethod y).before args s = true) (hsel : (Cond.selects C y y).before args s = true)
    (hcode : (Cond.codeWith y bytes maxL ret hh).before args s = true) (hy : y.cls ≠ "java/lang/invoke/MethodHandle" ∧ y.cls ≠ "java/lang/invoke/VarHandle")
    {W9 : Nat} {Pre : Pt → Array Value → Prop} {Post : Pt → Array Value → Option Value → Pt → Prop} (hK : Back l R p e below s args y 3 W9 Pre Post)
    {b : Addr} {cellB : Cell} (hcell : T.heap[b]? = some cellB) (hobj : cellB.vm.isStatics = false) (hcls : s.vm.findClass C = some cellB.cls)
    {g : JFrame} (hg : g.method = m) (hsize : g.locals.size = c.maxLocals) {argsL rest : List Value} (hlen : ∀ sig, parseMethodDescriptor y.desc = some sig → argsL.length = sig.parameters.length)
    (hstack : g.stack = argsL.reverse ++ .ref b :: rest) (hW : 2 * g.monitorRoom + (rest.map fun v => v.category).sum ≤ W9) (hdg : decode c.code g.pc = .ok (.invokevirtual index, 3))
    (hpre : ∀ vm₁, s.WarmedH vm₁ → Pre ⟨T.setVm vm₁, locs, cells, slots⟩ (Value.ref b :: argsL).toArray) :
    ∃ (v : Option Value) (vm₁ : Vm) (B : Pt), s.WarmedH vm₁ ∧ Stand p l e R s m args below meth c B.U B.locs B.cells B.slots ∧ Post ⟨T.setVm vm₁, locs, cells, slots⟩ (Value.ref b :: argsL).toArray v B ∧
      ∀ target, Steps p.tables e below (B.U.setTop { g with pc := g.pc + 3, stack := v.toList ++ rest }) target → Steps p.tables e below (T.setTop g) target := by
  obtain ⟨mk, methM, hnamed, hmethM, hstM, habM⟩ := Cond.instanceMethod_spec hinst
  obtain ⟨m8, methM', cM, hn8, hmethM', -, -, -, -, -, -, hsigM⟩ := Cond.codeWith_spec hcode
  cases Option.some.inj (hn8.symm.trans hnamed)
  cases hmethM.symm.trans hmethM'
  obtain ⟨c2, r2, m2, q1, q2, q3, q4, kP, hkP, hkPi⟩ := Cond.selects_spec hsel
  cases hcls.symm.trans q1
  cases (State.methodFound?_of_named hnamed hy).symm.trans q2
  cases hnamed.symm.trans q3
  have hselP : selectMethod e.platform s.vm cellB.cls mk = .method mk := by rw [Launch.admits_selectMethod X.admits]; exact q4
  obtain ⟨vm₁, X₁, hstep₁⟩ := X.invokevirtual hexec hown hlink hnamed hmethM hstM hkP hkPi hy (a := b) (cell := cellB) hcell
    (fun z h => by rw [h] at hobj; cases hobj) hselP hmethM habM hkP hkPi (g := g) hg (argsL := argsL) (rest := rest) (hlen _ hsigM) hstack hdg
  obtain ⟨v, B, X', hpost, hsteps⟩ := hK m meth c ⟨T.setVm vm₁, locs, cells, slots⟩ { g with stack := rest } (.invokevirtual index) mk (Value.ref b :: argsL).toArray X₁ hg hsize hdg hW (X₁.named hnamed) (hpre vm₁ X₁.warmed)
  exact ⟨v, vm₁, B, X₁.warmed, X', hpost, fun target h => hstep₁ _ fun acts => by rw [doInvoke_state]; exact hsteps.trans h⟩
abbrev vx_CVW (R : Room) (s : State) (args : Array Value) (own C : String) (index : Nat) (y : MethodName) (bytes : ByteArray) (maxL : Nat) (ret : Option FieldType) (hh : List (Nat × Nat × Nat × Nat)) (ws : List Cond) (rm : Room) (mc ms n : Nat) : Prop :=
  (rm.cells = mc ∧ rm.slots = ms ∧ rm.frames + 1 ≤ R.frames ∧ 8 + (maxL + 11) + rm.locals ≤ R.locals ∧ (∀ w ∈ ws, ∀ (a' : Array Value) (U : State), s.WarmedH U.vm → w.before a' U = true) ∧ Cond.codeWith y bytes maxL ret hh ∈ ws) ∧
  (Cond.codeWith y bytes maxL ret hh).before args s = true ∧ (Cond.initialized y.cls).before args s = true ∧ (y.cls ≠ "java/lang/invoke/MethodHandle" ∧ y.cls ≠ "java/lang/invoke/VarHandle") ∧
  (∀ sig, parseMethodDescriptor y.desc = some sig → n = sig.parameters.length) ∧ (Cond.methodLink own index y).before args s = true ∧ (Cond.instanceMethod y).before args s = true ∧ (Cond.selects C y y).before args s = true
theorem vx_cwVW {own C : String} {index maxL mc ms : Nat} {y : MethodName} {bytes : ByteArray} {ret : Option FieldType} {hh : List (Nat × Nat × Nat × Nat)} {Ts ws ws' : List Cond} {rm : Room} (n : Nat) (ht : ∀ w ∈ Ts, w.before args s = true) (hT : GoodIn Ts (wsV own index C y ws)) (hw : ws = Cond.codeWith y bytes maxL ret hh :: ws') (hrc : rm.cells = mc) (hrs : rm.slots = ms)
    (hd : y.cls = C ∧ y.cls ≠ "java/lang/invoke/MethodHandle" ∧ y.cls ≠ "java/lang/invoke/VarHandle" ∧ (parseMethodDescriptor y.desc).map (fun d => d.parameters.length) = some n) (hR : rm.frames + 1 ≤ R.frames ∧ 8 + (maxL + 11) + rm.locals ≤ R.locals) :
    vx_CVW R s args own C index y bytes maxL ret hh ws rm mc ms n := by
  obtain ⟨hC, hd⟩ := hd
  subst hC
  have ok : ∀ w ∈ wsV own index y.cls y ws, w.before args s = true := fun w h => ht w (hT w h).1
  have hG : GoodIn Ts ws := fun w h => hT w (by unfold wsV; exact List.mem_append_right _ h)
  have hc : Cond.codeWith y bytes maxL ret hh ∈ ws := by rw [hw]; exact List.mem_cons_self
  refine ⟨⟨hrc, hrs, hR.1, hR.2, pay_in ht hG, hc⟩, ht _ (hG _ hc).1, ok _ (by simp [wsV]), ⟨hd.1, hd.2.1⟩, fun sig h => ?_, ok _ (by simp [wsV]), ok _ (by simp [wsV]), ok _ (by simp [wsV])⟩
  have h2 := hd.2.2
  rw [h] at h2
  exact (Option.some.inj h2).symm
theorem vx_runVW {y : MethodName} {bytes cc : ByteArray} {maxL nL mc ms n index : Nat} {ret : Option FieldType} {hh : List (Nat × Nat × Nat × Nat)} {ws : List Cond} {rm : Room} {Pc : Array Value → State → Prop} {Qc : Array Value → State → Outcome → State → Prop} {free : Addr → Prop} {Ts : List Cond} {own C : String} {b : Addr} {As rest : List Value} {g : JFrame}
    (S : CallFix p m c cc nL s args Ts own) (hM : Met l y ws rm Pc Qc mc ms free) (cw : vx_CVW R s args own C index y bytes maxL ret hh ws rm mc ms n) (hp : PreV s H C b Pc As)
    (hg : g.method = m) (hn : As.length = n) (hsize : g.locals.size = nL) (hstack : g.stack = As.reverse ++ .ref b :: rest) (hW : 2 * g.monitorRoom + (rest.map fun v => v.category).sum ≤ 8) (hdg : decode cc g.pc = .ok (.invokevirtual index, 3)) (hf : cells + mc ≤ R.cells ∧ slots + ms ≤ R.slots) :
    va_Run p l e R s m args below meth c H locs cells slots mc ms g rest (Qc (Value.ref b :: As).toArray) free := by
  obtain ⟨⟨hrc, hrs, hfr, hlo, hws, hcw⟩, hcode, hini, hy, hlen, hl, hin, hse⟩ := cw
  have hK : Back l R p e below s args y 3 8 (PreOf R mc ms Pc) (PostOf Qc mc ms free) := va_backW (hh := hh) (bytes := bytes) (maxL := maxL) (ret := ret) hM hp.1 hrc hrs hfr hlo hws hcw (fun a' U hW => word_at hW (Or.inl (by first | rfl | simp [Cond.onTables, Cond.keeps, Cond.steady])) hini)
  obtain ⟨hx, hb, hml, ho, -⟩ := S
  obtain ⟨-, ⟨cellB, hcB, hoB, hclB⟩, hPc⟩ := hp
  intro T hT X
  obtain ⟨v, vm₁, ⟨U', l2, c2, s2⟩, hW₁, X', ⟨g', mk, t, L, e1, e2, hq, h1, hL, h2, h3⟩, st⟩ := vx_callVW X hx (C := C) (hh := hh) (bytes := bytes) (maxL := maxL) (ret := ret) ho hl hin hse hcode hy hK (by rw [hT]; exact hcB) hoB hclB hg (hsize.trans hml.symm) (argsL := As) (rest := rest) (fun sig h => hn.trans (hlen sig h)) hstack hW (by rw [hb]; exact hdg)
    (fun vm₁ hW₁ => ⟨hf.1, hf.2, hPc (T.setVm vm₁) hT hW₁⟩)
  dsimp only [Pt.U, Pt.locs, Pt.cells, Pt.slots] at X' e1 e2 h1 h2 h3 st
  subst h1; subst h2; subst h3
  exact ⟨v, (T.setVm vm₁).calling g' mk (Value.ref b :: As).toArray, t, U', L, hT, X', hL, e1, e2, hq, st⟩
section
variable {y : MethodName} {bytes cc : ByteArray} {maxL nL mc ms n index : Nat} {ret : Option FieldType} {ws : List Cond} {rm : Room} {Pc : Array Value → State → Prop} {Qc : Array Value → State → Outcome → State → Prop} {XC : String → State → State → Prop} {free : Addr → Prop} {Ts : List Cond} {own C : String} {b : Addr} {As rest : List Value} {g : JFrame}
theorem vx_runVX {hh : List (Nat × Nat × Nat × Nat)} (S : CallFix p m c cc nL s args Ts own) (hM : vx_Met l y ws rm Pc Qc XC mc ms free) (cw : vx_CVW R s args own C index y bytes maxL ret hh ws rm mc ms n) (hp : PreV s H C b Pc As)
    (hg : g.method = m) (hn : As.length = n) (hsize : g.locals.size = nL) (hstack : g.stack = As.reverse ++ .ref b :: rest) (hW : 2 * g.monitorRoom + (rest.map fun v => v.category).sum ≤ 8) (hdg : decode cc g.pc = .ok (.invokevirtual index, 3)) (hf : cells + mc ≤ R.cells ∧ slots + ms ≤ R.slots) :
    vx_Run p l e R s m args below meth c H locs cells slots mc ms g rest (Qc (Value.ref b :: As).toArray) XC free := by
  obtain ⟨⟨hrc, hrs, hfr, hlo, hws, hcw⟩, hcode, hini, hy, hlen, hl, hin, hse⟩ := cw
  have hK : vx_Back l R p e below s args y 3 8 (PreOf R mc ms Pc) (PostOf Qc mc ms free) (vx_Post XC mc ms free) := vx_backW (hh := hh) (bytes := bytes) (maxL := maxL) (ret := ret) hM hp.1 hrc hrs hfr hlo hws hcw (fun a' U hW => word_at hW (Or.inl (by first | rfl | simp [Cond.onTables, Cond.keeps, Cond.steady])) hini)
  obtain ⟨hx, hb, hml, ho, -⟩ := S
  obtain ⟨-, ⟨cellB, hcB, hoB, hclB⟩, hPc⟩ := hp
  intro T hT X
  rcases vx_callVX X hx (C := C) (hh := hh) (bytes := bytes) (maxL := maxL) (ret := ret) ho hl hin hse hcode hy hK (by rw [hT]; exact hcB) hoB hclB hg (hsize.trans hml.symm) (argsL := As) (rest := rest) (fun sig h => hn.trans (hlen sig h)) hstack hW (by rw [hb]; exact hdg)
    (fun vm₁ hW₁ => ⟨hf.1, hf.2, hPc (T.setVm vm₁) hT hW₁⟩) with ⟨v, vm₁, ⟨U', l2, c2, s2⟩, hW₁, X', ⟨g', mk, t, L, e1, e2, hq, h1, hL, h2, h3⟩, st⟩ | ⟨q, vm₁, ⟨U', l2, c2, s2⟩, hW₁, X', ⟨g', mk, t, L, E, ce, e1, e2, hq, hce, hcv, hcl, h1, hL, h2, h3⟩, st⟩
  · dsimp only [Pt.U, Pt.locs, Pt.cells, Pt.slots] at X' e1 e2 h1 h2 h3 st
    subst h1; subst h2; subst h3
    exact Or.inl ⟨v, (T.setVm vm₁).calling g' mk (Value.ref b :: As).toArray, t, U', L, hT, X', hL, e1, e2, hq, st⟩
  · dsimp only [Pt.U, Pt.locs, Pt.cells, Pt.slots] at X' e1 e2 h1 h2 h3 st hcl
    subst h1; subst h2; subst h3
    exact Or.inr ⟨q, (T.setVm vm₁).calling g' mk (Value.ref b :: As).toArray, t, U', L, E, ce, hT, X', hL, e1, e2, hq, hce, hcv, vx_cls hW₁ hcl, st⟩
theorem vx_runSX {hh : List (Nat × Nat × Nat × Nat)} (S : CallFix p m c cc nL s args Ts own) (hM : vx_Met l y ws rm Pc Qc XC mc ms free) (cw : vx_CSW R s args own index y bytes maxL ret hh ws rm mc ms n) (hp : PreS s H Pc As)
    (hg : g.method = m) (hn : As.length = n) (hsize : g.locals.size = nL) (hstack : g.stack = As.reverse ++ rest) (hW : 2 * g.monitorRoom + (rest.map fun v => v.category).sum ≤ 8) (hdg : decode cc g.pc = .ok (.invokestatic index, 3)) (hf : cells + mc ≤ R.cells ∧ slots + ms ≤ R.slots) :
    vx_Run p l e R s m args below meth c H locs cells slots mc ms g rest (Qc As.toArray) XC free := by
  obtain ⟨⟨hrc, hrs, hfr, hlo, hws, hcw⟩, hcode, hini, hy, hlen, hl, hstt⟩ := cw
  have hK : vx_Back l R p e below s args y 3 8 (PreOf R mc ms Pc) (PostOf Qc mc ms free) (vx_Post XC mc ms free) := vx_backW (hh := hh) (bytes := bytes) (maxL := maxL) (ret := ret) hM hp.1 hrc hrs hfr hlo hws hcw (fun a' U hW => word_at hW (Or.inl (by first | rfl | simp [Cond.onTables, Cond.keeps, Cond.steady])) hini)
  obtain ⟨hx, hb, hml, ho, -⟩ := S
  intro T hT X
  rcases vx_callSX X hx (hh := hh) (bytes := bytes) (maxL := maxL) (ret := ret) ho hl hstt hini hcode hy hK hg (hsize.trans hml.symm) (argsL := As) (rest := rest) (fun sig h => hn.trans (hlen sig h)) hstack hW (by rw [hb]; exact hdg)
    (fun vm₁ hW₁ => ⟨hf.1, hf.2, hp.2 (T.setVm vm₁) hT hW₁⟩) with ⟨v, vm₁, ⟨U', l2, c2, s2⟩, hW₁, X', ⟨g', mk, t, L, e1, e2, hq, h1, hL, h2, h3⟩, st⟩ | ⟨q, vm₁, ⟨U', l2, c2, s2⟩, hW₁, X', ⟨g', mk, t, L, E, ce, e1, e2, hq, hce, hcv, hcl, h1, hL, h2, h3⟩, st⟩
  · dsimp only [Pt.U, Pt.locs, Pt.cells, Pt.slots] at X' e1 e2 h1 h2 h3 st
    subst h1; subst h2; subst h3
    exact Or.inl ⟨v, (T.setVm vm₁).calling g' mk As.toArray, t, U', L, hT, X', hL, e1, e2, hq, st⟩
  · dsimp only [Pt.U, Pt.locs, Pt.cells, Pt.slots] at X' e1 e2 h1 h2 h3 st hcl
    subst h1; subst h2; subst h3
    exact Or.inr ⟨q, (T.setVm vm₁).calling g' mk As.toArray, t, U', L, E, ce, hT, X', hL, e1, e2, hq, hce, hcv, vx_cls hW₁ hcl, st⟩
end
end VXH
theorem vx_ofWH {l : Launch} {y : MethodName} {ws ws' : List Cond} {rm : Room} {Pc : Array Value → State → Prop} {Qc : Array Value → State → Outcome → State → Prop} {XC : String → State → State → Prop} {mc ms : Nat} {free : Addr → Prop} {cc : ByteArray} {maxL : Nat} {ret : Option FieldType} {hh : List (Nat × Nat × Nat × Nat)}
    (hy : plainName y.cls = true) (hw : ws = Cond.codeWith y cc maxL ret hh :: ws')
    (body : ∀ p e s m args below meth c s₁, BodyLoose p l y (headSpec ws rm) cc maxL ret e s m args below meth c s₁ → c.maxLocals = maxL → Pc args s →
      W p l e (headSpec ws rm).room s m args below meth c s.heap [] 0 0 (vx_MQ below Qc XC args s mc ms free) (entryFrame m args maxL)) : vx_Met l y ws rm Pc Qc XC mc ms free := by
  refine MetFree.of_bodyS (code := cc) (maxLocals := maxL) (ret := ret) hy ?_ ?_
  · intro args s m h hn
    obtain ⟨m9, meth, c, hn9, h1, h2, h3, h4, -, h5, h6, -⟩ := Cond.codeWith_spec (atoms_spec (ws := ws) h _ (by rw [hw]; exact List.mem_cons_self))
    cases hn.symm.trans hn9
    exact ⟨meth, c, h1, h2, h3, h4, h5, h6⟩
  · intro p e s m args below meth c s₁ B hml hP _
    have hh0 : s₁.heap = s.heap := by rw [B.state]; rfl
    obtain ⟨t, a1, o, b1, b2, b3⟩ := body p e s m args below meth c s₁ B hml hP s₁ hh0 (Stand.of_body B)
    exact ⟨t, o, a1, b1, b2, b3⟩
/-! ===== END ===== -/
end
section
/-! ===== BEGIN printed: names, fields, word lists, decode rows ===== -/
def RX0 : String := "SharedForks$Fold"
def TX0 : u_T := fun k => match k with
  | 0 => ("SharedForks$Fold", "isKept", "Z", false)
  | 1 => ("SharedForks$Fold", "yes", "[Z", true)
  | 2 => ("SharedForks$Fold", "size", "I", false)
  | 3 => ("SharedForks$Fold", "forkAt", "[I", true)
  | 4 => ("SharedForks$Fold", "lowAt", "[I", true)
  | 5 => ("SharedForks$Fold", "highAt", "[I", true)
  | _ => ("SharedForks$Fold", "aheadAt", "[I", true)
def tyX0 : Nat → FieldType := fun k => match k with
  | 0 => .boolean
  | 1 => .array .boolean
  | 2 => .int
  | 3 => .array .int
  | 4 => .array .int
  | 5 => .array .int
  | _ => .array .int
abbrev wsX00 : List Cond := u_ws RX0 TX0 7
theorem nmX0 : ∀ a, a < 7 → ∀ b, b < 7 → a ≠ b → (TX0 a).2.1 ≠ (TX0 b).2.1 := by decide +kernel
theorem tyX0_ok : ∀ k, k < 7 → parseFieldDescriptor (TX0 k).2.2.1 = some (tyX0 k) := by decide +kernel
abbrev cX0_init : ByteArray := prog_2_method_1_code
def yX0_init : MethodName := ⟨RX0, "<init>", "()V"⟩
def RX1 : String := "SharedForks$Forks"
def TX1 : u_T := fun k => match k with
  | 0 => ("SharedForks$Forks", "size", "I", false)
  | 1 => ("SharedForks$Forks", "question", "[I", true)
  | 2 => ("SharedForks$Forks", "low", "[I", true)
  | 3 => ("SharedForks$Forks", "high", "[I", true)
  | 4 => ("SharedForks$Forks", "owners", "[I", true)
  | 5 => ("SharedForks$Forks", "slots", "[I", true)
  | 6 => ("SharedForks$Forks", "questionAt", "[I", true)
  | 7 => ("SharedForks$Forks", "answersOfWay", "[I", true)
  | 8 => ("SharedForks$Forks", "partOfWay", "[I", true)
  | _ => ("SharedForks$Forks", "placeOf", "[I", true)
def tyX1 : Nat → FieldType := fun k => match k with
  | 0 => .int
  | 1 => .array .int
  | 2 => .array .int
  | 3 => .array .int
  | 4 => .array .int
  | 5 => .array .int
  | 6 => .array .int
  | 7 => .array .int
  | 8 => .array .int
  | _ => .array .int
abbrev wsX10 : List Cond := u_ws RX1 TX1 10
theorem nmX1 : ∀ a, a < 10 → ∀ b, b < 10 → a ≠ b → (TX1 a).2.1 ≠ (TX1 b).2.1 := by decide +kernel
theorem tyX1_ok : ∀ k, k < 10 → parseFieldDescriptor (TX1 k).2.2.1 = some (tyX1 k) := by decide +kernel
abbrev cX1_init : ByteArray := prog_3_method_1_code
def yX1_init : MethodName := ⟨RX1, "<init>", "()V"⟩
abbrev cX1_startOver : ByteArray := prog_3_method_2_code
def yX1_startOver : MethodName := ⟨RX1, "startOver", "([I)V"⟩
abbrev cX1_answersOf : ByteArray := prog_3_method_3_code
def yX1_answersOf : MethodName := ⟨RX1, "answersOf", "(I)I"⟩
abbrev cX1_lay : ByteArray := prog_3_method_4_code
def yX1_lay : MethodName := ⟨RX1, "lay", "([Z)I"⟩
abbrev cX1_part : ByteArray := prog_3_method_5_code
def yX1_part : MethodName := ⟨RX1, "part", "(III)I"⟩
abbrev cX1_make : ByteArray := prog_3_method_6_code
def yX1_make : MethodName := ⟨RX1, "make", "(IIII)I"⟩
abbrev cX1_putInRow : ByteArray := prog_3_method_7_code
def yX1_putInRow : MethodName := ⟨RX1, "putInRow", "(LSharedForks$Fold;I)V"⟩
abbrev cX1_placeOrLeaf : ByteArray := prog_3_method_8_code
def yX1_placeOrLeaf : MethodName := ⟨RX1, "placeOrLeaf", "(I)I"⟩
abbrev cX1_walk : ByteArray := prog_3_method_9_code
def yX1_walk : MethodName := ⟨RX1, "walk", "(LSharedForks$Forks;LSharedForks$Fold;II)V"⟩
abbrev cX1_putLast : ByteArray := prog_3_method_10_code
def yX1_putLast : MethodName := ⟨RX1, "putLast", "(LSharedForks$Fold;I)I"⟩
def RX2 : String := "SharedForks"
def TX2 : u_T := fun k => match k with
  | 0 => ("SharedForks", "folds", "[LSharedForks$Fold;", true)
  | 1 => ("SharedForks", "questionAt", "[I", true)
  | 2 => ("SharedForks", "forks", "LSharedForks$Forks;", true)
  | 3 => ("SharedForks", "triedYes", "[Z", true)
  | 4 => ("SharedForks", "triedOrder", "[I", true)
  | _ => ("SharedForks", "triedForks", "LSharedForks$Forks;", true)
def tyX2 : Nat → FieldType := fun k => match k with
  | 0 => .array (.object "SharedForks$Fold")
  | 1 => .array .int
  | 2 => .object "SharedForks$Forks"
  | 3 => .array .boolean
  | 4 => .array .int
  | _ => .object "SharedForks$Forks"
abbrev wsX20 : List Cond := u_ws RX2 TX2 6
theorem nmX2 : ∀ a, a < 6 → ∀ b, b < 6 → a ≠ b → (TX2 a).2.1 ≠ (TX2 b).2.1 := by decide +kernel
theorem tyX2_ok : ∀ k, k < 6 → parseFieldDescriptor (TX2 k).2.2.1 = some (tyX2 k) := by decide +kernel
abbrev cX2_init : ByteArray := prog_1_method_1_code
def yX2_init : MethodName := ⟨RX2, "<init>", "()V"⟩
abbrev cX2_leaf : ByteArray := prog_1_method_2_code
def yX2_leaf : MethodName := ⟨RX2, "leaf", "(Z)I"⟩
abbrev cX2_ask : ByteArray := prog_1_method_3_code
def yX2_ask : MethodName := ⟨RX2, "ask", "(I)I"⟩
abbrev cX2_join : ByteArray := prog_1_method_4_code
def yX2_join : MethodName := ⟨RX2, "join", "(III)I"⟩
abbrev cX2_choose : ByteArray := prog_1_method_5_code
def yX2_choose : MethodName := ⟨RX2, "choose", "(III)I"⟩
abbrev cX2_given : ByteArray := prog_1_method_6_code
def yX2_given : MethodName := ⟨RX2, "given", "(IIZ)I"⟩
abbrev cX2_without : ByteArray := prog_1_method_7_code
def yX2_without : MethodName := ⟨RX2, "without", "(IIZ)I"⟩
abbrev cX2_drop : ByteArray := prog_1_method_8_code
def yX2_drop : MethodName := ⟨RX2, "drop", "(I)I"⟩
abbrev cX2_swap : ByteArray := prog_1_method_9_code
def yX2_swap : MethodName := ⟨RX2, "swap", "(I)I"⟩
abbrev cX2_order : ByteArray := prog_1_method_10_code
def yX2_order : MethodName := ⟨RX2, "order", "(I)I"⟩
abbrev cX2_says : ByteArray := prog_1_method_11_code
def yX2_says : MethodName := ⟨RX2, "says", "(II)Z"⟩
abbrev cX2_fork : ByteArray := prog_1_method_12_code
def yX2_fork : MethodName := ⟨RX2, "fork", "(III)I"⟩
abbrev cX2_about : ByteArray := prog_1_method_13_code
def yX2_about : MethodName := ⟨RX2, "about", "(II)I"⟩
abbrev cX2_asked : ByteArray := prog_1_method_14_code
def yX2_asked : MethodName := ⟨RX2, "asked", "(I)D"⟩
abbrev cX2_compare : ByteArray := prog_1_method_15_code
def yX2_compare : MethodName := ⟨RX2, "compare", "(II)I"⟩
abbrev cX2_count : ByteArray := prog_1_method_16_code
def yX2_count : MethodName := ⟨RX2, "count", "(I)I"⟩
abbrev cX2_has : ByteArray := prog_1_method_17_code
def yX2_has : MethodName := ⟨RX2, "has", "(I)Z"⟩
abbrev cX2_advise : ByteArray := prog_1_method_18_code
def yX2_advise : MethodName := ⟨RX2, "advise", "()I"⟩
abbrev cX2_would : ByteArray := prog_1_method_19_code
def yX2_would : MethodName := ⟨RX2, "would", "(III)I"⟩
abbrev cX2_mean : ByteArray := prog_1_method_20_code
def yX2_mean : MethodName := ⟨RX2, "mean", "()D"⟩
abbrev cX2_digest : ByteArray := prog_1_method_21_code
def yX2_digest : MethodName := ⟨RX2, "digest", "()J"⟩
abbrev cX2_digestFold : ByteArray := prog_1_method_22_code
def yX2_digestFold : MethodName := ⟨RX2, "digestFold", "(JLSharedForks$Fold;)J"⟩
abbrev cX2_checkBelow : ByteArray := prog_1_method_23_code
def yX2_checkBelow : MethodName := ⟨RX2, "checkBelow", "(II)V"⟩
abbrev cX2_foldAt : ByteArray := prog_1_method_24_code
def yX2_foldAt : MethodName := ⟨RX2, "foldAt", "(I)LSharedForks$Fold;"⟩
abbrev cX2_freeNumber : ByteArray := prog_1_method_25_code
def yX2_freeNumber : MethodName := ⟨RX2, "freeNumber", "()I"⟩
abbrev cX2_keep : ByteArray := prog_1_method_26_code
def yX2_keep : MethodName := ⟨RX2, "keep", "(I)I"⟩
abbrev cX2_layAll : ByteArray := prog_1_method_27_code
def yX2_layAll : MethodName := ⟨RX2, "layAll", "()V"⟩
abbrev cX2_countForksAfterSwap : ByteArray := prog_1_method_28_code
def yX2_countForksAfterSwap : MethodName := ⟨RX2, "countForksAfterSwap", "(I)I"⟩
abbrev cX2_exchange : ByteArray := prog_1_method_29_code
def yX2_exchange : MethodName := ⟨RX2, "exchange", "([II)V"⟩
abbrev cX2_isYes : ByteArray := prog_1_method_30_code
def yX2_isYes : MethodName := ⟨RX2, "isYes", "(II)Z"⟩
abbrev cX2_withAnswer : ByteArray := prog_1_method_31_code
def yX2_withAnswer : MethodName := ⟨RX2, "withAnswer", "(IIZ)I"⟩
abbrev cX2_sayJoined : ByteArray := prog_1_method_32_code
def yX2_sayJoined : MethodName := ⟨RX2, "sayJoined", "(LSharedForks$Fold;LSharedForks$Fold;I[Z)V"⟩
abbrev cX2_joined : ByteArray := prog_1_method_33_code
def yX2_joined : MethodName := ⟨RX2, "joined", "(ZZI)Z"⟩
abbrev cX2_tellFork : ByteArray := prog_1_method_34_code
def yX2_tellFork : MethodName := ⟨RX2, "tellFork", "(LSharedForks$Fold;II)I"⟩
abbrev cX2_tellFold : ByteArray := prog_1_method_35_code
def yX2_tellFold : MethodName := ⟨RX2, "tellFold", "(LSharedForks$Fold;I)I"⟩
abbrev cX2_tellCount : ByteArray := prog_1_method_36_code
def yX2_tellCount : MethodName := ⟨RX2, "tellCount", "(I)I"⟩
abbrev cX2_countYes : ByteArray := prog_1_method_37_code
def yX2_countYes : MethodName := ⟨RX2, "countYes", "(LSharedForks$Fold;)I"⟩
abbrev cX2_questionsThatMatter : ByteArray := prog_1_method_38_code
def yX2_questionsThatMatter : MethodName := ⟨RX2, "questionsThatMatter", "(LSharedForks$Fold;)I"⟩
abbrev cX2_leastAsked : ByteArray := prog_1_method_39_code
def yX2_leastAsked : MethodName := ⟨RX2, "leastAsked", "(LSharedForks$Fold;)I"⟩
abbrev cX2_mostAsked : ByteArray := prog_1_method_40_code
def yX2_mostAsked : MethodName := ⟨RX2, "mostAsked", "(LSharedForks$Fold;)I"⟩
abbrev cX2_countAsked : ByteArray := prog_1_method_41_code
def yX2_countAsked : MethodName := ⟨RX2, "countAsked", "(LSharedForks$Fold;I)I"⟩
abbrev cX2_smallestYes : ByteArray := prog_1_method_42_code
def yX2_smallestYes : MethodName := ⟨RX2, "smallestYes", "(LSharedForks$Fold;)I"⟩
abbrev cX2_greatestYes : ByteArray := prog_1_method_43_code
def yX2_greatestYes : MethodName := ⟨RX2, "greatestYes", "(LSharedForks$Fold;)I"⟩
abbrev cX2_countOwnForks : ByteArray := prog_1_method_44_code
def yX2_countOwnForks : MethodName := ⟨RX2, "countOwnForks", "(LSharedForks$Fold;)I"⟩
abbrev cX2_countKept : ByteArray := prog_1_method_45_code
def yX2_countKept : MethodName := ⟨RX2, "countKept", "()I"⟩
abbrev cX2_addForks : ByteArray := prog_1_method_46_code
def yX2_addForks : MethodName := ⟨RX2, "addForks", "()I"⟩
abbrev cX2_countForksAtFirstPlace : ByteArray := prog_1_method_47_code
def yX2_countForksAtFirstPlace : MethodName := ⟨RX2, "countForksAtFirstPlace", "()I"⟩
abbrev cX2_countLeaves : ByteArray := prog_1_method_48_code
def yX2_countLeaves : MethodName := ⟨RX2, "countLeaves", "()I"⟩
def RX3 : String := "SharedForksModel"
def TX3 : u_T := fun k => match k with
  | 0 => ("SharedForksModel", "thrown", "I", false)
  | 1 => ("SharedForksModel", "is", "[Z", true)
  | 2 => ("SharedForksModel", "said", "[J", true)
  | 3 => ("SharedForksModel", "order", "[I", true)
  | 4 => ("SharedForksModel", "forks", "I", false)
  | 5 => ("SharedForksModel", "bits", "[J", true)
  | 6 => ("SharedForksModel", "asks", "[I", true)
  | 7 => ("SharedForksModel", "lows", "[I", true)
  | 8 => ("SharedForksModel", "highs", "[I", true)
  | 9 => ("SharedForksModel", "owners", "[I", true)
  | 10 => ("SharedForksModel", "roots", "[I", true)
  | 11 => ("SharedForksModel", "work", "[J", true)
  | 12 => ("SharedForksModel", "row", "[I", true)
  | 13 => ("SharedForksModel", "places", "[I", true)
  | _ => ("SharedForksModel", "rowSize", "I", false)
def tyX3 : Nat → FieldType := fun k => match k with
  | 0 => .int
  | 1 => .array .boolean
  | 2 => .array .long
  | 3 => .array .int
  | 4 => .int
  | 5 => .array .long
  | 6 => .array .int
  | 7 => .array .int
  | 8 => .array .int
  | 9 => .array .int
  | 10 => .array .int
  | 11 => .array .long
  | 12 => .array .int
  | 13 => .array .int
  | _ => .int
abbrev wsX30 : List Cond := u_ws RX3 TX3 15
theorem nmX3 : ∀ a, a < 15 → ∀ b, b < 15 → a ≠ b → (TX3 a).2.1 ≠ (TX3 b).2.1 := by decide +kernel
theorem tyX3_ok : ∀ k, k < 15 → parseFieldDescriptor (TX3 k).2.2.1 = some (tyX3 k) := by decide +kernel
abbrev cX3_init : ByteArray := prog_5_method_1_code
def yX3_init : MethodName := ⟨RX3, "<init>", "()V"⟩
abbrev cX3_thrown : ByteArray := prog_5_method_2_code
def yX3_thrown : MethodName := ⟨RX3, "thrown", "()I"⟩
abbrev cX3_fail : ByteArray := prog_5_method_3_code
def yX3_fail : MethodName := ⟨RX3, "fail", "(I)I"⟩
abbrev cX3_isIn : ByteArray := prog_5_method_4_code
def yX3_isIn : MethodName := ⟨RX3, "isIn", "(III)Z"⟩
abbrev cX3_isFold : ByteArray := prog_5_method_5_code
def yX3_isFold : MethodName := ⟨RX3, "isFold", "(I)Z"⟩
abbrev cX3_isQuestion : ByteArray := prog_5_method_6_code
def yX3_isQuestion : MethodName := ⟨RX3, "isQuestion", "(I)Z"⟩
abbrev cX3_yes : ByteArray := prog_5_method_7_code
def yX3_yes : MethodName := ⟨RX3, "yes", "(II)J"⟩
abbrev cX3_give : ByteArray := prog_5_method_8_code
def yX3_give : MethodName := ⟨RX3, "give", "([JI[JIIZ)V"⟩
abbrev cX3_isAll : ByteArray := prog_5_method_9_code
def yX3_isAll : MethodName := ⟨RX3, "isAll", "([JIJ)Z"⟩
abbrev cX3_isSame : ByteArray := prog_5_method_10_code
def yX3_isSame : MethodName := ⟨RX3, "isSame", "([JI[JI)Z"⟩
abbrev cX3_matters : ByteArray := prog_5_method_11_code
def yX3_matters : MethodName := ⟨RX3, "matters", "([JII)Z"⟩
abbrev cX3_fork : ByteArray := prog_5_method_12_code
def yX3_fork : MethodName := ⟨RX3, "fork", "(I)I"⟩
abbrev cX3_own : ByteArray := prog_5_method_13_code
def yX3_own : MethodName := ⟨RX3, "own", "(II)V"⟩
abbrev cX3_make : ByteArray := prog_5_method_14_code
def yX3_make : MethodName := ⟨RX3, "make", "()V"⟩
abbrev cX3_stand : ByteArray := prog_5_method_15_code
def yX3_stand : MethodName := ⟨RX3, "stand", "(I)V"⟩
abbrev cX3_line : ByteArray := prog_5_method_16_code
def yX3_line : MethodName := ⟨RX3, "line", "(I)V"⟩
abbrev cX3_placeOf : ByteArray := prog_5_method_17_code
def yX3_placeOf : MethodName := ⟨RX3, "placeOf", "(I)I"⟩
abbrev cX3_far : ByteArray := prog_5_method_18_code
def yX3_far : MethodName := ⟨RX3, "far", "(IZ)I"⟩
abbrev cX3_ahead : ByteArray := prog_5_method_19_code
def yX3_ahead : MethodName := ⟨RX3, "ahead", "(I)I"⟩
abbrev cX3_all : ByteArray := prog_5_method_20_code
def yX3_all : MethodName := ⟨RX3, "all", "(I)I"⟩
abbrev cX3_free : ByteArray := prog_5_method_21_code
def yX3_free : MethodName := ⟨RX3, "free", "()I"⟩
abbrev cX3_kept : ByteArray := prog_5_method_22_code
def yX3_kept : MethodName := ⟨RX3, "kept", "(I)I"⟩
abbrev cX3_leaf : ByteArray := prog_5_method_23_code
def yX3_leaf : MethodName := ⟨RX3, "leaf", "(Z)I"⟩
abbrev cX3_ask : ByteArray := prog_5_method_24_code
def yX3_ask : MethodName := ⟨RX3, "ask", "(I)I"⟩
abbrev cX3_joined : ByteArray := prog_5_method_25_code
def yX3_joined : MethodName := ⟨RX3, "joined", "(JJI)J"⟩
abbrev cX3_join : ByteArray := prog_5_method_26_code
def yX3_join : MethodName := ⟨RX3, "join", "(III)I"⟩
abbrev cX3_choose : ByteArray := prog_5_method_27_code
def yX3_choose : MethodName := ⟨RX3, "choose", "(III)I"⟩
abbrev cX3_given : ByteArray := prog_5_method_28_code
def yX3_given : MethodName := ⟨RX3, "given", "(IIZ)I"⟩
abbrev cX3_without : ByteArray := prog_5_method_29_code
def yX3_without : MethodName := ⟨RX3, "without", "(IIZ)I"⟩
abbrev cX3_folds : ByteArray := prog_5_method_30_code
def yX3_folds : MethodName := ⟨RX3, "folds", "()I"⟩
abbrev cX3_drop : ByteArray := prog_5_method_31_code
def yX3_drop : MethodName := ⟨RX3, "drop", "(I)I"⟩
abbrev cX3_exchange : ByteArray := prog_5_method_32_code
def yX3_exchange : MethodName := ⟨RX3, "exchange", "(I)V"⟩
abbrev cX3_swap : ByteArray := prog_5_method_33_code
def yX3_swap : MethodName := ⟨RX3, "swap", "(I)I"⟩
abbrev cX3_order : ByteArray := prog_5_method_34_code
def yX3_order : MethodName := ⟨RX3, "order", "(I)I"⟩
abbrev cX3_saysSo : ByteArray := prog_5_method_35_code
def yX3_saysSo : MethodName := ⟨RX3, "saysSo", "(II)Z"⟩
abbrev cX3_says : ByteArray := prog_5_method_36_code
def yX3_says : MethodName := ⟨RX3, "says", "(II)Z"⟩
abbrev cX3_many : ByteArray := prog_5_method_37_code
def yX3_many : MethodName := ⟨RX3, "many", "(I)I"⟩
abbrev cX3_forkTold : ByteArray := prog_5_method_38_code
def yX3_forkTold : MethodName := ⟨RX3, "forkTold", "(II)I"⟩
abbrev cX3_fork_ : ByteArray := prog_5_method_39_code
def yX3_fork_ : MethodName := ⟨RX3, "fork", "(III)I"⟩
abbrev cX3_aboutOf : ByteArray := prog_5_method_40_code
def yX3_aboutOf : MethodName := ⟨RX3, "aboutOf", "(II)I"⟩
abbrev cX3_about : ByteArray := prog_5_method_41_code
def yX3_about : MethodName := ⟨RX3, "about", "(II)I"⟩
abbrev cX3_asked : ByteArray := prog_5_method_42_code
def yX3_asked : MethodName := ⟨RX3, "asked", "(I)D"⟩
abbrev cX3_compare : ByteArray := prog_5_method_43_code
def yX3_compare : MethodName := ⟨RX3, "compare", "(II)I"⟩
abbrev cX3_counted : ByteArray := prog_5_method_44_code
def yX3_counted : MethodName := ⟨RX3, "counted", "(I)I"⟩
abbrev cX3_count : ByteArray := prog_5_method_45_code
def yX3_count : MethodName := ⟨RX3, "count", "(I)I"⟩
abbrev cX3_has : ByteArray := prog_5_method_46_code
def yX3_has : MethodName := ⟨RX3, "has", "(I)Z"⟩
abbrev cX3_advise : ByteArray := prog_5_method_47_code
def yX3_advise : MethodName := ⟨RX3, "advise", "()I"⟩
abbrev cX3_would : ByteArray := prog_5_method_48_code
def yX3_would : MethodName := ⟨RX3, "would", "(III)I"⟩
abbrev cX3_mean : ByteArray := prog_5_method_49_code
def yX3_mean : MethodName := ⟨RX3, "mean", "()D"⟩
abbrev cX3_digest : ByteArray := prog_5_method_50_code
def yX3_digest : MethodName := ⟨RX3, "digest", "()J"⟩
def RJx145de : String := "java/io/Serializable"
def TJx145de : u_T := fun k => match k with
  | _ => ("", "", "", false)
def tyJx145de : Nat → FieldType := fun k => match k with
  | _ => .int
abbrev wsJx145de0 : List Cond := u_ws RJx145de TJx145de 0
theorem nmJx145de : ∀ a, a < 0 → ∀ b, b < 0 → a ≠ b → (TJx145de a).2.1 ≠ (TJx145de b).2.1 := by decide +kernel
theorem tyJx145de_ok : ∀ k, k < 0 → parseFieldDescriptor (TJx145de k).2.2.1 = some (tyJx145de k) := by decide +kernel
def RJ9 : String := "java/lang/Math"
def TJ9 : u_T := fun k => match k with
  | _ => ("", "", "", false)
def tyJ9 : Nat → FieldType := fun k => match k with
  | _ => .int
abbrev wsJ90 : List Cond := u_ws RJ9 TJ9 0
theorem nmJ9 : ∀ a, a < 0 → ∀ b, b < 0 → a ≠ b → (TJ9 a).2.1 ≠ (TJ9 b).2.1 := by decide +kernel
theorem tyJ9_ok : ∀ k, k < 0 → parseFieldDescriptor (TJ9 k).2.2.1 = some (tyJ9 k) := by decide +kernel
abbrev cJ9_max_7cf53 : ByteArray := prog_10_method_65_code
def yJ9_max_7cf53 : MethodName := ⟨RJ9, "max", "(II)I"⟩
abbrev cJ9_min_7cf53 : ByteArray := prog_10_method_69_code
def yJ9_min_7cf53 : MethodName := ⟨RJ9, "min", "(II)I"⟩
def RJ0 : String := "java/lang/String"
def TJ0 : u_T := fun k => match k with
  | _ => ("", "", "", false)
def tyJ0 : Nat → FieldType := fun k => match k with
  | _ => .int
abbrev wsJ00 : List Cond := u_ws RJ0 TJ0 0
theorem nmJ0 : ∀ a, a < 0 → ∀ b, b < 0 → a ≠ b → (TJ0 a).2.1 ≠ (TJ0 b).2.1 := by decide +kernel
theorem tyJ0_ok : ∀ k, k < 0 → parseFieldDescriptor (TJ0 k).2.2.1 = some (tyJ0 k) := by decide +kernel
def RJ10 : String := "java/lang/System"
def TJ10 : u_T := fun k => match k with
  | _ => ("", "", "", false)
def tyJ10 : Nat → FieldType := fun k => match k with
  | _ => .int
abbrev wsJ100 : List Cond := u_ws RJ10 TJ10 0
theorem nmJ10 : ∀ a, a < 0 → ∀ b, b < 0 → a ≠ b → (TJ10 a).2.1 ≠ (TJ10 b).2.1 := by decide +kernel
theorem tyJ10_ok : ∀ k, k < 0 → parseFieldDescriptor (TJ10 k).2.2.1 = some (tyJ10 k) := by decide +kernel
def RJ7 : String := "java/util/Arrays"
def TJ7 : u_T := fun k => match k with
  | _ => ("", "", "", false)
def tyJ7 : Nat → FieldType := fun k => match k with
  | _ => .int
abbrev wsJ70 : List Cond := u_ws RJ7 TJ7 0
theorem nmJ7 : ∀ a, a < 0 → ∀ b, b < 0 → a ≠ b → (TJ7 a).2.1 ≠ (TJ7 b).2.1 := by decide +kernel
theorem tyJ7_ok : ∀ k, k < 0 → parseFieldDescriptor (TJ7 k).2.2.1 = some (tyJ7 k) := by decide +kernel
abbrev cJ7_fill_53178 : ByteArray := prog_15_method_103_code
def yJ7_fill_53178 : MethodName := ⟨RJ7, "fill", "([II)V"⟩
def RL : String := "SharedForksLaw"
abbrev cL_leaf : ByteArray := method_3_code
def yL_leaf : MethodName := ⟨RL, "leaf", "(LSharedForks;Z[J)I"⟩
abbrev cL_ask : ByteArray := method_4_code
def yL_ask : MethodName := ⟨RL, "ask", "(LSharedForks;I[J)I"⟩
abbrev cL_join : ByteArray := method_5_code
def yL_join : MethodName := ⟨RL, "join", "(LSharedForks;III[J)I"⟩
abbrev cL_choose : ByteArray := method_6_code
def yL_choose : MethodName := ⟨RL, "choose", "(LSharedForks;III[J)I"⟩
abbrev cL_given : ByteArray := method_7_code
def yL_given : MethodName := ⟨RL, "given", "(LSharedForks;IIZ[J)I"⟩
abbrev cL_without : ByteArray := method_8_code
def yL_without : MethodName := ⟨RL, "without", "(LSharedForks;IIZ[J)I"⟩
abbrev cL_drop : ByteArray := method_9_code
def yL_drop : MethodName := ⟨RL, "drop", "(LSharedForks;I[J)I"⟩
abbrev cL_swap : ByteArray := method_10_code
def yL_swap : MethodName := ⟨RL, "swap", "(LSharedForks;I[J)I"⟩
abbrev cL_order : ByteArray := method_11_code
def yL_order : MethodName := ⟨RL, "order", "(LSharedForks;I[J)I"⟩
abbrev cL_says : ByteArray := method_12_code
def yL_says : MethodName := ⟨RL, "says", "(LSharedForks;II[J)I"⟩
abbrev cL_fork : ByteArray := method_13_code
def yL_fork : MethodName := ⟨RL, "fork", "(LSharedForks;III[J)I"⟩
abbrev cL_about : ByteArray := method_14_code
def yL_about : MethodName := ⟨RL, "about", "(LSharedForks;II[J)I"⟩
abbrev cL_asked : ByteArray := method_15_code
def yL_asked : MethodName := ⟨RL, "asked", "(LSharedForks;I[D)I"⟩
abbrev cL_compare : ByteArray := method_16_code
def yL_compare : MethodName := ⟨RL, "compare", "(LSharedForks;II[J)I"⟩
abbrev cL_count : ByteArray := method_17_code
def yL_count : MethodName := ⟨RL, "count", "(LSharedForks;I[J)I"⟩
abbrev cL_has : ByteArray := method_18_code
def yL_has : MethodName := ⟨RL, "has", "(LSharedForks;I[J)I"⟩
abbrev cL_would : ByteArray := method_19_code
def yL_would : MethodName := ⟨RL, "would", "(LSharedForks;III[J)I"⟩
abbrev cL_law : ByteArray := code
def yL_law : MethodName := ⟨RL, "law", "([I)Z"⟩
def wsX0_init : List Cond := .code yX0_init cX0_init 1 none :: ([.methodLink RX0 3 objectInit, .instanceMethod objectInit, .code objectInit ⟨#[0xb1]⟩ 1 none, .arrayClass .boolean, .fieldLink RX0 9 "SharedForks$Fold" "yes" "[Z", .arrayClass .int, .fieldLink RX0 15 "SharedForks$Fold" "forkAt" "[I", .fieldLink RX0 19 "SharedForks$Fold" "lowAt" "[I", .fieldLink RX0 22 "SharedForks$Fold" "highAt" "[I", .fieldLink RX0 25 "SharedForks$Fold" "aheadAt" "[I"] ++ wsX00)
def wsX1_init : List Cond := .code yX1_init cX1_init 1 none :: ([.methodLink RX1 3 objectInit, .instanceMethod objectInit, .code objectInit ⟨#[0xb1]⟩ 1 none, .arrayClass .int, .fieldLink RX1 9 "SharedForks$Forks" "question" "[I", .fieldLink RX1 15 "SharedForks$Forks" "low" "[I", .fieldLink RX1 18 "SharedForks$Forks" "high" "[I", .fieldLink RX1 21 "SharedForks$Forks" "owners" "[I", .fieldLink RX1 24 "SharedForks$Forks" "slots" "[I", .fieldLink RX1 27 "SharedForks$Forks" "questionAt" "[I", .fieldLink RX1 30 "SharedForks$Forks" "answersOfWay" "[I", .fieldLink RX1 33 "SharedForks$Forks" "partOfWay" "[I", .fieldLink RX1 36 "SharedForks$Forks" "placeOf" "[I"] ++ wsX10)
def wsJ7_fill_53178 : List Cond := .code yJ7_fill_53178 cJ7_fill_53178 4 none :: ([])
def wsX1_answersOf : List Cond := .code yX1_answersOf cX1_answersOf 5 (some .int) :: ([.fieldLink RX1 27 "SharedForks$Forks" "questionAt" "[I"] ++ wsX10)
def wsX1_startOver : List Cond := .code yX1_startOver cX1_startOver 3 none :: ([.fieldLink RX1 39 "SharedForks$Forks" "size" "I", .fieldLink RX1 24 "SharedForks$Forks" "slots" "[I", .fieldLink RX1 27 "SharedForks$Forks" "questionAt" "[I", .methodLink RX1 49 arraycopyName, .native arraycopyName, .static arraycopyName, .initialized "java/lang/System", .fieldLink RX1 30 "SharedForks$Forks" "answersOfWay" "[I", .methodLink RX1 43 yJ7_fill_53178, .static yJ7_fill_53178, .initialized RJ7, .code yJ7_fill_53178 cJ7_fill_53178 4 none, .methodLink RX1 55 yX1_answersOf, .instanceMethod yX1_answersOf, .selects RX1 yX1_answersOf yX1_answersOf, .initialized RX1, .code yX1_answersOf cX1_answersOf 5 (some .int)] ++ wsX10)
def wsX1_make : List Cond := .code yX1_make cX1_make 6 (some .int) :: ([.fieldLink RX1 39 "SharedForks$Forks" "size" "I", .fieldLink RX1 24 "SharedForks$Forks" "slots" "[I", .fieldLink RX1 9 "SharedForks$Forks" "question" "[I", .fieldLink RX1 15 "SharedForks$Forks" "low" "[I", .fieldLink RX1 18 "SharedForks$Forks" "high" "[I", .fieldLink RX1 21 "SharedForks$Forks" "owners" "[I"] ++ wsX10)
def wsX1_part : List Cond := .code yX1_part cX1_part 8 (some .int) :: ([.fieldLink RX1 24 "SharedForks$Forks" "slots" "[I", .fieldLink RX1 9 "SharedForks$Forks" "question" "[I", .fieldLink RX1 15 "SharedForks$Forks" "low" "[I", .fieldLink RX1 18 "SharedForks$Forks" "high" "[I", .methodLink RX1 63 yX1_make, .instanceMethod yX1_make, .selects RX1 yX1_make yX1_make, .initialized RX1, .code yX1_make cX1_make 6 (some .int), .fieldLink RX1 39 "SharedForks$Forks" "size" "I", .fieldLink RX1 21 "SharedForks$Forks" "owners" "[I"] ++ wsX10)
def wsX1_lay : List Cond := .code yX1_lay cX1_lay 4 (some .int) :: ([.fieldLink RX1 33 "SharedForks$Forks" "partOfWay" "[I", .fieldLink RX1 30 "SharedForks$Forks" "answersOfWay" "[I", .fieldLink RX1 27 "SharedForks$Forks" "questionAt" "[I", .methodLink RX1 59 yX1_part, .instanceMethod yX1_part, .selects RX1 yX1_part yX1_part, .initialized RX1, .code yX1_part cX1_part 8 (some .int), .fieldLink RX1 24 "SharedForks$Forks" "slots" "[I", .fieldLink RX1 9 "SharedForks$Forks" "question" "[I", .fieldLink RX1 15 "SharedForks$Forks" "low" "[I", .fieldLink RX1 18 "SharedForks$Forks" "high" "[I", .methodLink RX1 63 yX1_make, .instanceMethod yX1_make, .selects RX1 yX1_make yX1_make, .code yX1_make cX1_make 6 (some .int), .fieldLink RX1 39 "SharedForks$Forks" "size" "I", .fieldLink RX1 21 "SharedForks$Forks" "owners" "[I"] ++ wsX10)
def wsX1_putLast : List Cond := .code yX1_putLast cX1_putLast 4 (some .int) :: ([.fieldLink RX1 36 "SharedForks$Forks" "placeOf" "[I"] ++ wsX00 ++ wsX10)
def wsX1_walk : List Cond := .code yX1_walk cX1_walk 6 none :: ([.fieldLink RX1 39 "SharedForks$Forks" "size" "I", .fieldLink RX1 36 "SharedForks$Forks" "placeOf" "[I", .fieldLink RX1 15 "SharedForks$Forks" "low" "[I", .fieldLink RX1 18 "SharedForks$Forks" "high" "[I", .methodLink RX1 89 yX1_putLast, .instanceMethod yX1_putLast, .selects RX1 yX1_putLast yX1_putLast, .initialized RX1, .code yX1_putLast cX1_putLast 4 (some .int), .methodLink RX1 70 yX1_walk, .static yX1_walk] ++ wsX10 ++ wsX00)
def wsX1_placeOrLeaf : List Cond := .code yX1_placeOrLeaf cX1_placeOrLeaf 2 (some .int) :: ([.fieldLink RX1 36 "SharedForks$Forks" "placeOf" "[I"] ++ wsX10)
def wsX1_putInRow : List Cond := .code yX1_putInRow cX1_putInRow 5 none :: ([.fieldLink RX1 36 "SharedForks$Forks" "placeOf" "[I", .fieldLink RX1 21 "SharedForks$Forks" "owners" "[I", .fieldLink RX1 15 "SharedForks$Forks" "low" "[I", .fieldLink RX1 18 "SharedForks$Forks" "high" "[I", .methodLink RX1 43 yJ7_fill_53178, .static yJ7_fill_53178, .initialized RJ7, .code yJ7_fill_53178 cJ7_fill_53178 4 none, .methodLink RX1 70 yX1_walk, .static yX1_walk, .initialized RX1, .code yX1_walk cX1_walk 6 none, .fieldLink RX1 39 "SharedForks$Forks" "size" "I", .methodLink RX1 89 yX1_putLast, .instanceMethod yX1_putLast, .selects RX1 yX1_putLast yX1_putLast, .code yX1_putLast cX1_putLast 4 (some .int), .methodLink RX1 80 yX1_placeOrLeaf, .instanceMethod yX1_placeOrLeaf, .selects RX1 yX1_placeOrLeaf yX1_placeOrLeaf, .code yX1_placeOrLeaf cX1_placeOrLeaf 2 (some .int)] ++ wsX00 ++ wsX10)
def wsX2_init_r1 : List Cond := [Cond.methodLink RX2 1 objectInit, Cond.instanceMethod objectInit, Cond.code objectInit ⟨#[0xb1]⟩ 1 none, Cond.classLink RX2 9 RX0, Cond.fieldLink RX2 11 "SharedForks" "folds" "[LSharedForks$Fold;", Cond.arrayClass .int, Cond.fieldLink RX2 15 "SharedForks" "questionAt" "[I", Cond.classLink RX2 19 RX1, Cond.instantiable RX1 10, Cond.initialized RX1, Cond.fieldLink RX2 22 "SharedForks" "forks" "LSharedForks$Forks;", Cond.arrayClass .boolean, Cond.fieldLink RX2 26 "SharedForks" "triedYes" "[Z", Cond.fieldLink RX2 30 "SharedForks" "triedOrder" "[I", Cond.fieldLink RX2 33 "SharedForks" "triedForks" "LSharedForks$Forks;", Cond.instantiable RX0 7, Cond.initialized RX0, Cond.instanceMethod yX1_init, Cond.code yX1_init cX1_init 1 none, Cond.methodLink RX1 3 objectInit, Cond.fieldLink RX1 9 "SharedForks$Forks" "question" "[I", Cond.fieldLink RX1 15 "SharedForks$Forks" "low" "[I", Cond.fieldLink RX1 18 "SharedForks$Forks" "high" "[I", Cond.fieldLink RX1 21 "SharedForks$Forks" "owners" "[I"]
def wsX2_init_r2 : List Cond := [Cond.fieldLink RX1 24 "SharedForks$Forks" "slots" "[I", Cond.fieldLink RX1 27 "SharedForks$Forks" "questionAt" "[I", Cond.fieldLink RX1 30 "SharedForks$Forks" "answersOfWay" "[I", Cond.fieldLink RX1 33 "SharedForks$Forks" "partOfWay" "[I", Cond.fieldLink RX1 36 "SharedForks$Forks" "placeOf" "[I", Cond.instanceMethod yX0_init, Cond.code yX0_init cX0_init 1 none, Cond.methodLink RX0 3 objectInit, Cond.fieldLink RX0 9 "SharedForks$Fold" "yes" "[Z", Cond.fieldLink RX0 15 "SharedForks$Fold" "forkAt" "[I", Cond.fieldLink RX0 19 "SharedForks$Fold" "lowAt" "[I", Cond.fieldLink RX0 22 "SharedForks$Fold" "highAt" "[I", Cond.fieldLink RX0 25 "SharedForks$Fold" "aheadAt" "[I"]
def wsX2_init : List Cond := .code yX2_init cX2_init 2 none :: ((wsX2_init_r1 ++ wsX2_init_r2) ++ wsX20 ++ wsX10 ++ wsX00)
def wsX2_freeNumber : List Cond := .code yX2_freeNumber cX2_freeNumber 2 (some .int) :: ([.classLink RX2 139 "java/lang/IllegalStateException", .initialized "java/lang/IllegalStateException", .fieldLink RX2 11 "SharedForks" "folds" "[LSharedForks$Fold;"] ++ wsX20 ++ wsX00 ++ (vx_atS RX2 143 "java/lang/IllegalStateException" ["java/lang/RuntimeException", "java/lang/Exception"]).filter goodWord)
def wsX2_layAll_r1 : List Cond := [Cond.fieldLink RX2 22 "SharedForks" "forks" "LSharedForks$Forks;", Cond.fieldLink RX2 15 "SharedForks" "questionAt" "[I", Cond.fieldLink RX2 11 "SharedForks" "folds" "[LSharedForks$Fold;", Cond.instanceMethod yX1_startOver, Cond.initialized RX1, Cond.selects RX1 yX1_startOver yX1_startOver, Cond.code yX1_startOver cX1_startOver 3 none, Cond.fieldLink RX1 39 "SharedForks$Forks" "size" "I", Cond.fieldLink RX1 24 "SharedForks$Forks" "slots" "[I", Cond.fieldLink RX1 27 "SharedForks$Forks" "questionAt" "[I", Cond.methodLink RX1 49 arraycopyName, Cond.native arraycopyName, Cond.static arraycopyName, Cond.initialized "java/lang/System", Cond.fieldLink RX1 30 "SharedForks$Forks" "answersOfWay" "[I", Cond.methodLink RX1 43 yJ7_fill_53178, Cond.static yJ7_fill_53178, Cond.initialized RJ7, Cond.code yJ7_fill_53178 cJ7_fill_53178 4 none, Cond.methodLink RX1 55 yX1_answersOf, Cond.instanceMethod yX1_answersOf, Cond.selects RX1 yX1_answersOf yX1_answersOf, Cond.code yX1_answersOf cX1_answersOf 5 (some .int), Cond.instanceMethod yX1_lay]
def wsX2_layAll_r2 : List Cond := [Cond.selects RX1 yX1_lay yX1_lay, Cond.code yX1_lay cX1_lay 4 (some .int), Cond.fieldLink RX1 33 "SharedForks$Forks" "partOfWay" "[I", Cond.methodLink RX1 59 yX1_part, Cond.instanceMethod yX1_part, Cond.selects RX1 yX1_part yX1_part, Cond.code yX1_part cX1_part 8 (some .int), Cond.fieldLink RX1 9 "SharedForks$Forks" "question" "[I", Cond.fieldLink RX1 15 "SharedForks$Forks" "low" "[I", Cond.fieldLink RX1 18 "SharedForks$Forks" "high" "[I", Cond.methodLink RX1 63 yX1_make, Cond.instanceMethod yX1_make, Cond.selects RX1 yX1_make yX1_make, Cond.code yX1_make cX1_make 6 (some .int), Cond.fieldLink RX1 21 "SharedForks$Forks" "owners" "[I", Cond.instanceMethod yX1_putInRow, Cond.selects RX1 yX1_putInRow yX1_putInRow, Cond.code yX1_putInRow cX1_putInRow 5 none, Cond.fieldLink RX1 36 "SharedForks$Forks" "placeOf" "[I", Cond.methodLink RX1 70 yX1_walk, Cond.static yX1_walk, Cond.code yX1_walk cX1_walk 6 none, Cond.methodLink RX1 89 yX1_putLast, Cond.instanceMethod yX1_putLast]
def wsX2_layAll_r3 : List Cond := [Cond.selects RX1 yX1_putLast yX1_putLast, Cond.code yX1_putLast cX1_putLast 4 (some .int), Cond.methodLink RX1 80 yX1_placeOrLeaf, Cond.instanceMethod yX1_placeOrLeaf, Cond.selects RX1 yX1_placeOrLeaf yX1_placeOrLeaf, Cond.code yX1_placeOrLeaf cX1_placeOrLeaf 2 (some .int)]
def wsX2_layAll : List Cond := .code yX2_layAll cX2_layAll 3 none :: ((wsX2_layAll_r1 ++ (wsX2_layAll_r2 ++ wsX2_layAll_r3)) ++ wsX20 ++ wsX00 ++ wsX10)
def wsX2_keep_r1 : List Cond := [Cond.fieldLink RX2 11 "SharedForks" "folds" "[LSharedForks$Fold;", Cond.methodLink RX2 72 yX2_layAll, Cond.instanceMethod yX2_layAll, Cond.selects RX2 yX2_layAll yX2_layAll, Cond.initialized RX2, Cond.code yX2_layAll cX2_layAll 3 none, Cond.fieldLink RX2 22 "SharedForks" "forks" "LSharedForks$Forks;", Cond.fieldLink RX2 15 "SharedForks" "questionAt" "[I", Cond.instanceMethod yX1_startOver, Cond.initialized RX1, Cond.selects RX1 yX1_startOver yX1_startOver, Cond.code yX1_startOver cX1_startOver 3 none, Cond.fieldLink RX1 39 "SharedForks$Forks" "size" "I", Cond.fieldLink RX1 24 "SharedForks$Forks" "slots" "[I", Cond.fieldLink RX1 27 "SharedForks$Forks" "questionAt" "[I", Cond.methodLink RX1 49 arraycopyName, Cond.native arraycopyName, Cond.static arraycopyName, Cond.initialized "java/lang/System", Cond.fieldLink RX1 30 "SharedForks$Forks" "answersOfWay" "[I", Cond.methodLink RX1 43 yJ7_fill_53178, Cond.static yJ7_fill_53178, Cond.initialized RJ7, Cond.code yJ7_fill_53178 cJ7_fill_53178 4 none]
def wsX2_keep_r2 : List Cond := [Cond.methodLink RX1 55 yX1_answersOf, Cond.instanceMethod yX1_answersOf, Cond.selects RX1 yX1_answersOf yX1_answersOf, Cond.code yX1_answersOf cX1_answersOf 5 (some .int), Cond.instanceMethod yX1_lay, Cond.selects RX1 yX1_lay yX1_lay, Cond.code yX1_lay cX1_lay 4 (some .int), Cond.fieldLink RX1 33 "SharedForks$Forks" "partOfWay" "[I", Cond.methodLink RX1 59 yX1_part, Cond.instanceMethod yX1_part, Cond.selects RX1 yX1_part yX1_part, Cond.code yX1_part cX1_part 8 (some .int), Cond.fieldLink RX1 9 "SharedForks$Forks" "question" "[I", Cond.fieldLink RX1 15 "SharedForks$Forks" "low" "[I", Cond.fieldLink RX1 18 "SharedForks$Forks" "high" "[I", Cond.methodLink RX1 63 yX1_make, Cond.instanceMethod yX1_make, Cond.selects RX1 yX1_make yX1_make, Cond.code yX1_make cX1_make 6 (some .int), Cond.fieldLink RX1 21 "SharedForks$Forks" "owners" "[I", Cond.instanceMethod yX1_putInRow, Cond.selects RX1 yX1_putInRow yX1_putInRow, Cond.code yX1_putInRow cX1_putInRow 5 none, Cond.fieldLink RX1 36 "SharedForks$Forks" "placeOf" "[I"]
def wsX2_keep_r3 : List Cond := [Cond.methodLink RX1 70 yX1_walk, Cond.static yX1_walk, Cond.code yX1_walk cX1_walk 6 none, Cond.methodLink RX1 89 yX1_putLast, Cond.instanceMethod yX1_putLast, Cond.selects RX1 yX1_putLast yX1_putLast, Cond.code yX1_putLast cX1_putLast 4 (some .int), Cond.methodLink RX1 80 yX1_placeOrLeaf, Cond.instanceMethod yX1_placeOrLeaf, Cond.selects RX1 yX1_placeOrLeaf yX1_placeOrLeaf, Cond.code yX1_placeOrLeaf cX1_placeOrLeaf 2 (some .int)]
def wsX2_keep : List Cond := .code yX2_keep cX2_keep 2 (some .int) :: ((wsX2_keep_r1 ++ (wsX2_keep_r2 ++ wsX2_keep_r3)) ++ wsX20 ++ wsX00 ++ wsX10)
def wsX2_leaf_r1 : List Cond := [Cond.fieldLink RX2 11 "SharedForks" "folds" "[LSharedForks$Fold;", Cond.methodLink RX2 37 yX2_freeNumber, Cond.instanceMethod yX2_freeNumber, Cond.selects RX2 yX2_freeNumber yX2_freeNumber, Cond.initialized RX2, Cond.code yX2_freeNumber cX2_freeNumber 2 (some .int), Cond.classLink RX2 139 "java/lang/IllegalStateException", Cond.initialized "java/lang/IllegalStateException", Cond.methodLink RX2 44 yX2_keep, Cond.instanceMethod yX2_keep, Cond.selects RX2 yX2_keep yX2_keep, Cond.code yX2_keep cX2_keep 2 (some .int), Cond.methodLink RX2 72 yX2_layAll, Cond.instanceMethod yX2_layAll, Cond.selects RX2 yX2_layAll yX2_layAll, Cond.code yX2_layAll cX2_layAll 3 none, Cond.fieldLink RX2 22 "SharedForks" "forks" "LSharedForks$Forks;", Cond.fieldLink RX2 15 "SharedForks" "questionAt" "[I", Cond.instanceMethod yX1_startOver, Cond.initialized RX1, Cond.selects RX1 yX1_startOver yX1_startOver, Cond.code yX1_startOver cX1_startOver 3 none, Cond.fieldLink RX1 39 "SharedForks$Forks" "size" "I", Cond.fieldLink RX1 24 "SharedForks$Forks" "slots" "[I"]
def wsX2_leaf_r2 : List Cond := [Cond.fieldLink RX1 27 "SharedForks$Forks" "questionAt" "[I", Cond.methodLink RX1 49 arraycopyName, Cond.native arraycopyName, Cond.static arraycopyName, Cond.initialized "java/lang/System", Cond.fieldLink RX1 30 "SharedForks$Forks" "answersOfWay" "[I", Cond.methodLink RX1 43 yJ7_fill_53178, Cond.static yJ7_fill_53178, Cond.initialized RJ7, Cond.code yJ7_fill_53178 cJ7_fill_53178 4 none, Cond.methodLink RX1 55 yX1_answersOf, Cond.instanceMethod yX1_answersOf, Cond.selects RX1 yX1_answersOf yX1_answersOf, Cond.code yX1_answersOf cX1_answersOf 5 (some .int), Cond.instanceMethod yX1_lay, Cond.selects RX1 yX1_lay yX1_lay, Cond.code yX1_lay cX1_lay 4 (some .int), Cond.fieldLink RX1 33 "SharedForks$Forks" "partOfWay" "[I", Cond.methodLink RX1 59 yX1_part, Cond.instanceMethod yX1_part, Cond.selects RX1 yX1_part yX1_part, Cond.code yX1_part cX1_part 8 (some .int), Cond.fieldLink RX1 9 "SharedForks$Forks" "question" "[I", Cond.fieldLink RX1 15 "SharedForks$Forks" "low" "[I"]
def wsX2_leaf_r3 : List Cond := [Cond.fieldLink RX1 18 "SharedForks$Forks" "high" "[I", Cond.methodLink RX1 63 yX1_make, Cond.instanceMethod yX1_make, Cond.selects RX1 yX1_make yX1_make, Cond.code yX1_make cX1_make 6 (some .int), Cond.fieldLink RX1 21 "SharedForks$Forks" "owners" "[I", Cond.instanceMethod yX1_putInRow, Cond.selects RX1 yX1_putInRow yX1_putInRow, Cond.code yX1_putInRow cX1_putInRow 5 none, Cond.fieldLink RX1 36 "SharedForks$Forks" "placeOf" "[I", Cond.methodLink RX1 70 yX1_walk, Cond.static yX1_walk, Cond.code yX1_walk cX1_walk 6 none, Cond.methodLink RX1 89 yX1_putLast, Cond.instanceMethod yX1_putLast, Cond.selects RX1 yX1_putLast yX1_putLast, Cond.code yX1_putLast cX1_putLast 4 (some .int), Cond.methodLink RX1 80 yX1_placeOrLeaf, Cond.instanceMethod yX1_placeOrLeaf, Cond.selects RX1 yX1_placeOrLeaf yX1_placeOrLeaf, Cond.code yX1_placeOrLeaf cX1_placeOrLeaf 2 (some .int)]
def wsX2_leaf : List Cond := .code yX2_leaf cX2_leaf 5 (some .int) :: ((wsX2_leaf_r1 ++ (wsX2_leaf_r2 ++ wsX2_leaf_r3)) ++ wsX20 ++ wsX00 ++ wsX10 ++ (vx_atS RX2 143 "java/lang/IllegalStateException" ["java/lang/RuntimeException", "java/lang/Exception"]).filter goodWord)
def wsX2_checkBelow : List Cond := .code yX2_checkBelow cX2_checkBelow 2 none :: ([.classLink RX2 132 "java/lang/IndexOutOfBoundsException", .initialized "java/lang/IndexOutOfBoundsException"] ++ (vx_atS RX2 136 "java/lang/IndexOutOfBoundsException" ["java/lang/RuntimeException", "java/lang/Exception"]).filter goodWord)
def wsX2_isYes : List Cond := .code yX2_isYes cX2_isYes 2 (some .boolean) :: ([])
def wsX2_ask_r1 : List Cond := [Cond.fieldLink RX2 11 "SharedForks" "folds" "[LSharedForks$Fold;", Cond.methodLink RX2 48 yX2_checkBelow, Cond.static yX2_checkBelow, Cond.initialized RX2, Cond.code yX2_checkBelow cX2_checkBelow 2 none, Cond.classLink RX2 132 "java/lang/IndexOutOfBoundsException", Cond.initialized "java/lang/IndexOutOfBoundsException", Cond.methodLink RX2 37 yX2_freeNumber, Cond.instanceMethod yX2_freeNumber, Cond.selects RX2 yX2_freeNumber yX2_freeNumber, Cond.code yX2_freeNumber cX2_freeNumber 2 (some .int), Cond.classLink RX2 139 "java/lang/IllegalStateException", Cond.initialized "java/lang/IllegalStateException", Cond.methodLink RX2 52 yX2_isYes, Cond.static yX2_isYes, Cond.code yX2_isYes cX2_isYes 2 (some .boolean), Cond.methodLink RX2 44 yX2_keep, Cond.instanceMethod yX2_keep, Cond.selects RX2 yX2_keep yX2_keep, Cond.code yX2_keep cX2_keep 2 (some .int), Cond.methodLink RX2 72 yX2_layAll, Cond.instanceMethod yX2_layAll, Cond.selects RX2 yX2_layAll yX2_layAll, Cond.code yX2_layAll cX2_layAll 3 none]
def wsX2_ask_r2 : List Cond := [Cond.fieldLink RX2 22 "SharedForks" "forks" "LSharedForks$Forks;", Cond.fieldLink RX2 15 "SharedForks" "questionAt" "[I", Cond.instanceMethod yX1_startOver, Cond.initialized RX1, Cond.selects RX1 yX1_startOver yX1_startOver, Cond.code yX1_startOver cX1_startOver 3 none, Cond.fieldLink RX1 39 "SharedForks$Forks" "size" "I", Cond.fieldLink RX1 24 "SharedForks$Forks" "slots" "[I", Cond.fieldLink RX1 27 "SharedForks$Forks" "questionAt" "[I", Cond.methodLink RX1 49 arraycopyName, Cond.native arraycopyName, Cond.static arraycopyName, Cond.initialized "java/lang/System", Cond.fieldLink RX1 30 "SharedForks$Forks" "answersOfWay" "[I", Cond.methodLink RX1 43 yJ7_fill_53178, Cond.static yJ7_fill_53178, Cond.initialized RJ7, Cond.code yJ7_fill_53178 cJ7_fill_53178 4 none, Cond.methodLink RX1 55 yX1_answersOf, Cond.instanceMethod yX1_answersOf, Cond.selects RX1 yX1_answersOf yX1_answersOf, Cond.code yX1_answersOf cX1_answersOf 5 (some .int), Cond.instanceMethod yX1_lay, Cond.selects RX1 yX1_lay yX1_lay]
def wsX2_ask_r3 : List Cond := [Cond.code yX1_lay cX1_lay 4 (some .int), Cond.fieldLink RX1 33 "SharedForks$Forks" "partOfWay" "[I", Cond.methodLink RX1 59 yX1_part, Cond.instanceMethod yX1_part, Cond.selects RX1 yX1_part yX1_part, Cond.code yX1_part cX1_part 8 (some .int), Cond.fieldLink RX1 9 "SharedForks$Forks" "question" "[I", Cond.fieldLink RX1 15 "SharedForks$Forks" "low" "[I", Cond.fieldLink RX1 18 "SharedForks$Forks" "high" "[I", Cond.methodLink RX1 63 yX1_make, Cond.instanceMethod yX1_make, Cond.selects RX1 yX1_make yX1_make, Cond.code yX1_make cX1_make 6 (some .int), Cond.fieldLink RX1 21 "SharedForks$Forks" "owners" "[I", Cond.instanceMethod yX1_putInRow, Cond.selects RX1 yX1_putInRow yX1_putInRow, Cond.code yX1_putInRow cX1_putInRow 5 none, Cond.fieldLink RX1 36 "SharedForks$Forks" "placeOf" "[I", Cond.methodLink RX1 70 yX1_walk, Cond.static yX1_walk, Cond.code yX1_walk cX1_walk 6 none, Cond.methodLink RX1 89 yX1_putLast, Cond.instanceMethod yX1_putLast, Cond.selects RX1 yX1_putLast yX1_putLast]
def wsX2_ask_r4 : List Cond := [Cond.code yX1_putLast cX1_putLast 4 (some .int), Cond.methodLink RX1 80 yX1_placeOrLeaf, Cond.instanceMethod yX1_placeOrLeaf, Cond.selects RX1 yX1_placeOrLeaf yX1_placeOrLeaf, Cond.code yX1_placeOrLeaf cX1_placeOrLeaf 2 (some .int)]
def wsX2_ask : List Cond := .code yX2_ask cX2_ask 5 (some .int) :: ((wsX2_ask_r1 ++ (wsX2_ask_r2 ++ (wsX2_ask_r3 ++ wsX2_ask_r4))) ++ wsX20 ++ wsX00 ++ wsX10 ++ (vx_atS RX2 136 "java/lang/IndexOutOfBoundsException" ["java/lang/RuntimeException", "java/lang/Exception"]).filter goodWord ++ (vx_atS RX2 143 "java/lang/IllegalStateException" ["java/lang/RuntimeException", "java/lang/Exception"]).filter goodWord)
def wsX2_foldAt : List Cond := .code yX2_foldAt cX2_foldAt 2 (some (.object "SharedForks$Fold")) :: ([.classLink RX2 132 "java/lang/IndexOutOfBoundsException", .initialized "java/lang/IndexOutOfBoundsException", .fieldLink RX2 11 "SharedForks" "folds" "[LSharedForks$Fold;"] ++ wsX20 ++ wsX00 ++ (vx_atS RX2 136 "java/lang/IndexOutOfBoundsException" ["java/lang/RuntimeException", "java/lang/Exception"]).filter goodWord)
def wsX2_joined : List Cond := .code yX2_joined cX2_joined 3 (some .boolean) :: ([])
def wsX2_sayJoined : List Cond := .code yX2_sayJoined cX2_sayJoined 5 none :: ([.methodLink RX2 154 yX2_joined, .static yX2_joined, .initialized RX2, .code yX2_joined cX2_joined 3 (some .boolean)] ++ wsX00)
def wsX2_join_r1 : List Cond := [Cond.fieldLink RX2 11 "SharedForks" "folds" "[LSharedForks$Fold;", Cond.methodLink RX2 56 yX2_foldAt, Cond.instanceMethod yX2_foldAt, Cond.selects RX2 yX2_foldAt yX2_foldAt, Cond.initialized RX2, Cond.code yX2_foldAt cX2_foldAt 2 (some (.object "SharedForks$Fold")), Cond.classLink RX2 132 "java/lang/IndexOutOfBoundsException", Cond.initialized "java/lang/IndexOutOfBoundsException", Cond.methodLink RX2 48 yX2_checkBelow, Cond.static yX2_checkBelow, Cond.code yX2_checkBelow cX2_checkBelow 2 none, Cond.methodLink RX2 37 yX2_freeNumber, Cond.instanceMethod yX2_freeNumber, Cond.selects RX2 yX2_freeNumber yX2_freeNumber, Cond.code yX2_freeNumber cX2_freeNumber 2 (some .int), Cond.classLink RX2 139 "java/lang/IllegalStateException", Cond.initialized "java/lang/IllegalStateException", Cond.methodLink RX2 60 yX2_sayJoined, Cond.static yX2_sayJoined, Cond.code yX2_sayJoined cX2_sayJoined 5 none, Cond.methodLink RX2 154 yX2_joined, Cond.static yX2_joined, Cond.code yX2_joined cX2_joined 3 (some .boolean), Cond.methodLink RX2 44 yX2_keep]
def wsX2_join_r2 : List Cond := [Cond.instanceMethod yX2_keep, Cond.selects RX2 yX2_keep yX2_keep, Cond.code yX2_keep cX2_keep 2 (some .int), Cond.methodLink RX2 72 yX2_layAll, Cond.instanceMethod yX2_layAll, Cond.selects RX2 yX2_layAll yX2_layAll, Cond.code yX2_layAll cX2_layAll 3 none, Cond.fieldLink RX2 22 "SharedForks" "forks" "LSharedForks$Forks;", Cond.fieldLink RX2 15 "SharedForks" "questionAt" "[I", Cond.instanceMethod yX1_startOver, Cond.initialized RX1, Cond.selects RX1 yX1_startOver yX1_startOver, Cond.code yX1_startOver cX1_startOver 3 none, Cond.fieldLink RX1 39 "SharedForks$Forks" "size" "I", Cond.fieldLink RX1 24 "SharedForks$Forks" "slots" "[I", Cond.fieldLink RX1 27 "SharedForks$Forks" "questionAt" "[I", Cond.methodLink RX1 49 arraycopyName, Cond.native arraycopyName, Cond.static arraycopyName, Cond.initialized "java/lang/System", Cond.fieldLink RX1 30 "SharedForks$Forks" "answersOfWay" "[I", Cond.methodLink RX1 43 yJ7_fill_53178, Cond.static yJ7_fill_53178, Cond.initialized RJ7]
def wsX2_join_r3 : List Cond := [Cond.code yJ7_fill_53178 cJ7_fill_53178 4 none, Cond.methodLink RX1 55 yX1_answersOf, Cond.instanceMethod yX1_answersOf, Cond.selects RX1 yX1_answersOf yX1_answersOf, Cond.code yX1_answersOf cX1_answersOf 5 (some .int), Cond.instanceMethod yX1_lay, Cond.selects RX1 yX1_lay yX1_lay, Cond.code yX1_lay cX1_lay 4 (some .int), Cond.fieldLink RX1 33 "SharedForks$Forks" "partOfWay" "[I", Cond.methodLink RX1 59 yX1_part, Cond.instanceMethod yX1_part, Cond.selects RX1 yX1_part yX1_part, Cond.code yX1_part cX1_part 8 (some .int), Cond.fieldLink RX1 9 "SharedForks$Forks" "question" "[I", Cond.fieldLink RX1 15 "SharedForks$Forks" "low" "[I", Cond.fieldLink RX1 18 "SharedForks$Forks" "high" "[I", Cond.methodLink RX1 63 yX1_make, Cond.instanceMethod yX1_make, Cond.selects RX1 yX1_make yX1_make, Cond.code yX1_make cX1_make 6 (some .int), Cond.fieldLink RX1 21 "SharedForks$Forks" "owners" "[I", Cond.instanceMethod yX1_putInRow, Cond.selects RX1 yX1_putInRow yX1_putInRow, Cond.code yX1_putInRow cX1_putInRow 5 none]
def wsX2_join_r4 : List Cond := [Cond.fieldLink RX1 36 "SharedForks$Forks" "placeOf" "[I", Cond.methodLink RX1 70 yX1_walk, Cond.static yX1_walk, Cond.code yX1_walk cX1_walk 6 none, Cond.methodLink RX1 89 yX1_putLast, Cond.instanceMethod yX1_putLast, Cond.selects RX1 yX1_putLast yX1_putLast, Cond.code yX1_putLast cX1_putLast 4 (some .int), Cond.methodLink RX1 80 yX1_placeOrLeaf, Cond.instanceMethod yX1_placeOrLeaf, Cond.selects RX1 yX1_placeOrLeaf yX1_placeOrLeaf, Cond.code yX1_placeOrLeaf cX1_placeOrLeaf 2 (some .int)]
def wsX2_join : List Cond := .code yX2_join cX2_join 7 (some .int) :: ((wsX2_join_r1 ++ (wsX2_join_r2 ++ (wsX2_join_r3 ++ wsX2_join_r4))) ++ wsX20 ++ wsX00 ++ wsX10 ++ (vx_atS RX2 136 "java/lang/IndexOutOfBoundsException" ["java/lang/RuntimeException", "java/lang/Exception"]).filter goodWord ++ (vx_atS RX2 143 "java/lang/IllegalStateException" ["java/lang/RuntimeException", "java/lang/Exception"]).filter goodWord)
def wsX2_choose_r1 : List Cond := [Cond.fieldLink RX2 11 "SharedForks" "folds" "[LSharedForks$Fold;", Cond.methodLink RX2 56 yX2_foldAt, Cond.instanceMethod yX2_foldAt, Cond.selects RX2 yX2_foldAt yX2_foldAt, Cond.initialized RX2, Cond.code yX2_foldAt cX2_foldAt 2 (some (.object "SharedForks$Fold")), Cond.classLink RX2 132 "java/lang/IndexOutOfBoundsException", Cond.initialized "java/lang/IndexOutOfBoundsException", Cond.methodLink RX2 37 yX2_freeNumber, Cond.instanceMethod yX2_freeNumber, Cond.selects RX2 yX2_freeNumber yX2_freeNumber, Cond.code yX2_freeNumber cX2_freeNumber 2 (some .int), Cond.classLink RX2 139 "java/lang/IllegalStateException", Cond.initialized "java/lang/IllegalStateException", Cond.methodLink RX2 44 yX2_keep, Cond.instanceMethod yX2_keep, Cond.selects RX2 yX2_keep yX2_keep, Cond.code yX2_keep cX2_keep 2 (some .int), Cond.methodLink RX2 72 yX2_layAll, Cond.instanceMethod yX2_layAll, Cond.selects RX2 yX2_layAll yX2_layAll, Cond.code yX2_layAll cX2_layAll 3 none, Cond.fieldLink RX2 22 "SharedForks" "forks" "LSharedForks$Forks;", Cond.fieldLink RX2 15 "SharedForks" "questionAt" "[I"]
def wsX2_choose_r2 : List Cond := [Cond.instanceMethod yX1_startOver, Cond.initialized RX1, Cond.selects RX1 yX1_startOver yX1_startOver, Cond.code yX1_startOver cX1_startOver 3 none, Cond.fieldLink RX1 39 "SharedForks$Forks" "size" "I", Cond.fieldLink RX1 24 "SharedForks$Forks" "slots" "[I", Cond.fieldLink RX1 27 "SharedForks$Forks" "questionAt" "[I", Cond.methodLink RX1 49 arraycopyName, Cond.native arraycopyName, Cond.static arraycopyName, Cond.initialized "java/lang/System", Cond.fieldLink RX1 30 "SharedForks$Forks" "answersOfWay" "[I", Cond.methodLink RX1 43 yJ7_fill_53178, Cond.static yJ7_fill_53178, Cond.initialized RJ7, Cond.code yJ7_fill_53178 cJ7_fill_53178 4 none, Cond.methodLink RX1 55 yX1_answersOf, Cond.instanceMethod yX1_answersOf, Cond.selects RX1 yX1_answersOf yX1_answersOf, Cond.code yX1_answersOf cX1_answersOf 5 (some .int), Cond.instanceMethod yX1_lay, Cond.selects RX1 yX1_lay yX1_lay, Cond.code yX1_lay cX1_lay 4 (some .int), Cond.fieldLink RX1 33 "SharedForks$Forks" "partOfWay" "[I"]
def wsX2_choose_r3 : List Cond := [Cond.methodLink RX1 59 yX1_part, Cond.instanceMethod yX1_part, Cond.selects RX1 yX1_part yX1_part, Cond.code yX1_part cX1_part 8 (some .int), Cond.fieldLink RX1 9 "SharedForks$Forks" "question" "[I", Cond.fieldLink RX1 15 "SharedForks$Forks" "low" "[I", Cond.fieldLink RX1 18 "SharedForks$Forks" "high" "[I", Cond.methodLink RX1 63 yX1_make, Cond.instanceMethod yX1_make, Cond.selects RX1 yX1_make yX1_make, Cond.code yX1_make cX1_make 6 (some .int), Cond.fieldLink RX1 21 "SharedForks$Forks" "owners" "[I", Cond.instanceMethod yX1_putInRow, Cond.selects RX1 yX1_putInRow yX1_putInRow, Cond.code yX1_putInRow cX1_putInRow 5 none, Cond.fieldLink RX1 36 "SharedForks$Forks" "placeOf" "[I", Cond.methodLink RX1 70 yX1_walk, Cond.static yX1_walk, Cond.code yX1_walk cX1_walk 6 none, Cond.methodLink RX1 89 yX1_putLast, Cond.instanceMethod yX1_putLast, Cond.selects RX1 yX1_putLast yX1_putLast, Cond.code yX1_putLast cX1_putLast 4 (some .int), Cond.methodLink RX1 80 yX1_placeOrLeaf]
def wsX2_choose_r4 : List Cond := [Cond.instanceMethod yX1_placeOrLeaf, Cond.selects RX1 yX1_placeOrLeaf yX1_placeOrLeaf, Cond.code yX1_placeOrLeaf cX1_placeOrLeaf 2 (some .int)]
def wsX2_choose : List Cond := .code yX2_choose cX2_choose 10 (some .int) :: ((wsX2_choose_r1 ++ (wsX2_choose_r2 ++ (wsX2_choose_r3 ++ wsX2_choose_r4))) ++ wsX20 ++ wsX00 ++ wsX10 ++ (vx_atS RX2 136 "java/lang/IndexOutOfBoundsException" ["java/lang/RuntimeException", "java/lang/Exception"]).filter goodWord ++ (vx_atS RX2 143 "java/lang/IllegalStateException" ["java/lang/RuntimeException", "java/lang/Exception"]).filter goodWord)
def wsX2_withAnswer : List Cond := .code yX2_withAnswer cX2_withAnswer 4 (some .int) :: ([])
def wsX2_given_r1 : List Cond := [Cond.fieldLink RX2 11 "SharedForks" "folds" "[LSharedForks$Fold;", Cond.methodLink RX2 56 yX2_foldAt, Cond.instanceMethod yX2_foldAt, Cond.selects RX2 yX2_foldAt yX2_foldAt, Cond.initialized RX2, Cond.code yX2_foldAt cX2_foldAt 2 (some (.object "SharedForks$Fold")), Cond.classLink RX2 132 "java/lang/IndexOutOfBoundsException", Cond.initialized "java/lang/IndexOutOfBoundsException", Cond.methodLink RX2 48 yX2_checkBelow, Cond.static yX2_checkBelow, Cond.code yX2_checkBelow cX2_checkBelow 2 none, Cond.methodLink RX2 37 yX2_freeNumber, Cond.instanceMethod yX2_freeNumber, Cond.selects RX2 yX2_freeNumber yX2_freeNumber, Cond.code yX2_freeNumber cX2_freeNumber 2 (some .int), Cond.classLink RX2 139 "java/lang/IllegalStateException", Cond.initialized "java/lang/IllegalStateException", Cond.methodLink RX2 64 yX2_withAnswer, Cond.static yX2_withAnswer, Cond.code yX2_withAnswer cX2_withAnswer 4 (some .int), Cond.methodLink RX2 44 yX2_keep, Cond.instanceMethod yX2_keep, Cond.selects RX2 yX2_keep yX2_keep, Cond.code yX2_keep cX2_keep 2 (some .int)]
def wsX2_given_r2 : List Cond := [Cond.methodLink RX2 72 yX2_layAll, Cond.instanceMethod yX2_layAll, Cond.selects RX2 yX2_layAll yX2_layAll, Cond.code yX2_layAll cX2_layAll 3 none, Cond.fieldLink RX2 22 "SharedForks" "forks" "LSharedForks$Forks;", Cond.fieldLink RX2 15 "SharedForks" "questionAt" "[I", Cond.instanceMethod yX1_startOver, Cond.initialized RX1, Cond.selects RX1 yX1_startOver yX1_startOver, Cond.code yX1_startOver cX1_startOver 3 none, Cond.fieldLink RX1 39 "SharedForks$Forks" "size" "I", Cond.fieldLink RX1 24 "SharedForks$Forks" "slots" "[I", Cond.fieldLink RX1 27 "SharedForks$Forks" "questionAt" "[I", Cond.methodLink RX1 49 arraycopyName, Cond.native arraycopyName, Cond.static arraycopyName, Cond.initialized "java/lang/System", Cond.fieldLink RX1 30 "SharedForks$Forks" "answersOfWay" "[I", Cond.methodLink RX1 43 yJ7_fill_53178, Cond.static yJ7_fill_53178, Cond.initialized RJ7, Cond.code yJ7_fill_53178 cJ7_fill_53178 4 none, Cond.methodLink RX1 55 yX1_answersOf, Cond.instanceMethod yX1_answersOf]
def wsX2_given_r3 : List Cond := [Cond.selects RX1 yX1_answersOf yX1_answersOf, Cond.code yX1_answersOf cX1_answersOf 5 (some .int), Cond.instanceMethod yX1_lay, Cond.selects RX1 yX1_lay yX1_lay, Cond.code yX1_lay cX1_lay 4 (some .int), Cond.fieldLink RX1 33 "SharedForks$Forks" "partOfWay" "[I", Cond.methodLink RX1 59 yX1_part, Cond.instanceMethod yX1_part, Cond.selects RX1 yX1_part yX1_part, Cond.code yX1_part cX1_part 8 (some .int), Cond.fieldLink RX1 9 "SharedForks$Forks" "question" "[I", Cond.fieldLink RX1 15 "SharedForks$Forks" "low" "[I", Cond.fieldLink RX1 18 "SharedForks$Forks" "high" "[I", Cond.methodLink RX1 63 yX1_make, Cond.instanceMethod yX1_make, Cond.selects RX1 yX1_make yX1_make, Cond.code yX1_make cX1_make 6 (some .int), Cond.fieldLink RX1 21 "SharedForks$Forks" "owners" "[I", Cond.instanceMethod yX1_putInRow, Cond.selects RX1 yX1_putInRow yX1_putInRow, Cond.code yX1_putInRow cX1_putInRow 5 none, Cond.fieldLink RX1 36 "SharedForks$Forks" "placeOf" "[I", Cond.methodLink RX1 70 yX1_walk, Cond.static yX1_walk]
def wsX2_given_r4 : List Cond := [Cond.code yX1_walk cX1_walk 6 none, Cond.methodLink RX1 89 yX1_putLast, Cond.instanceMethod yX1_putLast, Cond.selects RX1 yX1_putLast yX1_putLast, Cond.code yX1_putLast cX1_putLast 4 (some .int), Cond.methodLink RX1 80 yX1_placeOrLeaf, Cond.instanceMethod yX1_placeOrLeaf, Cond.selects RX1 yX1_placeOrLeaf yX1_placeOrLeaf, Cond.code yX1_placeOrLeaf cX1_placeOrLeaf 2 (some .int)]
def wsX2_given : List Cond := .code yX2_given cX2_given 8 (some .int) :: ((wsX2_given_r1 ++ (wsX2_given_r2 ++ (wsX2_given_r3 ++ wsX2_given_r4))) ++ wsX20 ++ wsX00 ++ wsX10 ++ (vx_atS RX2 136 "java/lang/IndexOutOfBoundsException" ["java/lang/RuntimeException", "java/lang/Exception"]).filter goodWord ++ (vx_atS RX2 143 "java/lang/IllegalStateException" ["java/lang/RuntimeException", "java/lang/Exception"]).filter goodWord)
def wsX2_without_r1 : List Cond := [Cond.fieldLink RX2 11 "SharedForks" "folds" "[LSharedForks$Fold;", Cond.methodLink RX2 56 yX2_foldAt, Cond.instanceMethod yX2_foldAt, Cond.selects RX2 yX2_foldAt yX2_foldAt, Cond.initialized RX2, Cond.code yX2_foldAt cX2_foldAt 2 (some (.object "SharedForks$Fold")), Cond.classLink RX2 132 "java/lang/IndexOutOfBoundsException", Cond.initialized "java/lang/IndexOutOfBoundsException", Cond.methodLink RX2 48 yX2_checkBelow, Cond.static yX2_checkBelow, Cond.code yX2_checkBelow cX2_checkBelow 2 none, Cond.methodLink RX2 37 yX2_freeNumber, Cond.instanceMethod yX2_freeNumber, Cond.selects RX2 yX2_freeNumber yX2_freeNumber, Cond.code yX2_freeNumber cX2_freeNumber 2 (some .int), Cond.classLink RX2 139 "java/lang/IllegalStateException", Cond.initialized "java/lang/IllegalStateException", Cond.methodLink RX2 64 yX2_withAnswer, Cond.static yX2_withAnswer, Cond.code yX2_withAnswer cX2_withAnswer 4 (some .int), Cond.methodLink RX2 44 yX2_keep, Cond.instanceMethod yX2_keep, Cond.selects RX2 yX2_keep yX2_keep, Cond.code yX2_keep cX2_keep 2 (some .int)]
def wsX2_without_r2 : List Cond := [Cond.methodLink RX2 72 yX2_layAll, Cond.instanceMethod yX2_layAll, Cond.selects RX2 yX2_layAll yX2_layAll, Cond.code yX2_layAll cX2_layAll 3 none, Cond.fieldLink RX2 22 "SharedForks" "forks" "LSharedForks$Forks;", Cond.fieldLink RX2 15 "SharedForks" "questionAt" "[I", Cond.instanceMethod yX1_startOver, Cond.initialized RX1, Cond.selects RX1 yX1_startOver yX1_startOver, Cond.code yX1_startOver cX1_startOver 3 none, Cond.fieldLink RX1 39 "SharedForks$Forks" "size" "I", Cond.fieldLink RX1 24 "SharedForks$Forks" "slots" "[I", Cond.fieldLink RX1 27 "SharedForks$Forks" "questionAt" "[I", Cond.methodLink RX1 49 arraycopyName, Cond.native arraycopyName, Cond.static arraycopyName, Cond.initialized "java/lang/System", Cond.fieldLink RX1 30 "SharedForks$Forks" "answersOfWay" "[I", Cond.methodLink RX1 43 yJ7_fill_53178, Cond.static yJ7_fill_53178, Cond.initialized RJ7, Cond.code yJ7_fill_53178 cJ7_fill_53178 4 none, Cond.methodLink RX1 55 yX1_answersOf, Cond.instanceMethod yX1_answersOf]
def wsX2_without_r3 : List Cond := [Cond.selects RX1 yX1_answersOf yX1_answersOf, Cond.code yX1_answersOf cX1_answersOf 5 (some .int), Cond.instanceMethod yX1_lay, Cond.selects RX1 yX1_lay yX1_lay, Cond.code yX1_lay cX1_lay 4 (some .int), Cond.fieldLink RX1 33 "SharedForks$Forks" "partOfWay" "[I", Cond.methodLink RX1 59 yX1_part, Cond.instanceMethod yX1_part, Cond.selects RX1 yX1_part yX1_part, Cond.code yX1_part cX1_part 8 (some .int), Cond.fieldLink RX1 9 "SharedForks$Forks" "question" "[I", Cond.fieldLink RX1 15 "SharedForks$Forks" "low" "[I", Cond.fieldLink RX1 18 "SharedForks$Forks" "high" "[I", Cond.methodLink RX1 63 yX1_make, Cond.instanceMethod yX1_make, Cond.selects RX1 yX1_make yX1_make, Cond.code yX1_make cX1_make 6 (some .int), Cond.fieldLink RX1 21 "SharedForks$Forks" "owners" "[I", Cond.instanceMethod yX1_putInRow, Cond.selects RX1 yX1_putInRow yX1_putInRow, Cond.code yX1_putInRow cX1_putInRow 5 none, Cond.fieldLink RX1 36 "SharedForks$Forks" "placeOf" "[I", Cond.methodLink RX1 70 yX1_walk, Cond.static yX1_walk]
def wsX2_without_r4 : List Cond := [Cond.code yX1_walk cX1_walk 6 none, Cond.methodLink RX1 89 yX1_putLast, Cond.instanceMethod yX1_putLast, Cond.selects RX1 yX1_putLast yX1_putLast, Cond.code yX1_putLast cX1_putLast 4 (some .int), Cond.methodLink RX1 80 yX1_placeOrLeaf, Cond.instanceMethod yX1_placeOrLeaf, Cond.selects RX1 yX1_placeOrLeaf yX1_placeOrLeaf, Cond.code yX1_placeOrLeaf cX1_placeOrLeaf 2 (some .int)]
def wsX2_without : List Cond := .code yX2_without cX2_without 10 (some .int) :: ((wsX2_without_r1 ++ (wsX2_without_r2 ++ (wsX2_without_r3 ++ wsX2_without_r4))) ++ wsX20 ++ wsX00 ++ wsX10 ++ (vx_atS RX2 136 "java/lang/IndexOutOfBoundsException" ["java/lang/RuntimeException", "java/lang/Exception"]).filter goodWord ++ (vx_atS RX2 143 "java/lang/IllegalStateException" ["java/lang/RuntimeException", "java/lang/Exception"]).filter goodWord)
def wsX2_countKept : List Cond := .code yX2_countKept cX2_countKept 3 (some .int) :: ([.fieldLink RX2 11 "SharedForks" "folds" "[LSharedForks$Fold;"] ++ wsX20 ++ wsX00)
def wsX2_drop_r1 : List Cond := [Cond.methodLink RX2 56 yX2_foldAt, Cond.instanceMethod yX2_foldAt, Cond.selects RX2 yX2_foldAt yX2_foldAt, Cond.initialized RX2, Cond.code yX2_foldAt cX2_foldAt 2 (some (.object "SharedForks$Fold")), Cond.classLink RX2 132 "java/lang/IndexOutOfBoundsException", Cond.initialized "java/lang/IndexOutOfBoundsException", Cond.fieldLink RX2 11 "SharedForks" "folds" "[LSharedForks$Fold;", Cond.methodLink RX2 72 yX2_layAll, Cond.instanceMethod yX2_layAll, Cond.selects RX2 yX2_layAll yX2_layAll, Cond.code yX2_layAll cX2_layAll 3 none, Cond.fieldLink RX2 22 "SharedForks" "forks" "LSharedForks$Forks;", Cond.fieldLink RX2 15 "SharedForks" "questionAt" "[I", Cond.instanceMethod yX1_startOver, Cond.initialized RX1, Cond.selects RX1 yX1_startOver yX1_startOver, Cond.code yX1_startOver cX1_startOver 3 none, Cond.fieldLink RX1 39 "SharedForks$Forks" "size" "I", Cond.fieldLink RX1 24 "SharedForks$Forks" "slots" "[I", Cond.fieldLink RX1 27 "SharedForks$Forks" "questionAt" "[I", Cond.methodLink RX1 49 arraycopyName, Cond.native arraycopyName, Cond.static arraycopyName]
def wsX2_drop_r2 : List Cond := [Cond.initialized "java/lang/System", Cond.fieldLink RX1 30 "SharedForks$Forks" "answersOfWay" "[I", Cond.methodLink RX1 43 yJ7_fill_53178, Cond.static yJ7_fill_53178, Cond.initialized RJ7, Cond.code yJ7_fill_53178 cJ7_fill_53178 4 none, Cond.methodLink RX1 55 yX1_answersOf, Cond.instanceMethod yX1_answersOf, Cond.selects RX1 yX1_answersOf yX1_answersOf, Cond.code yX1_answersOf cX1_answersOf 5 (some .int), Cond.instanceMethod yX1_lay, Cond.selects RX1 yX1_lay yX1_lay, Cond.code yX1_lay cX1_lay 4 (some .int), Cond.fieldLink RX1 33 "SharedForks$Forks" "partOfWay" "[I", Cond.methodLink RX1 59 yX1_part, Cond.instanceMethod yX1_part, Cond.selects RX1 yX1_part yX1_part, Cond.code yX1_part cX1_part 8 (some .int), Cond.fieldLink RX1 9 "SharedForks$Forks" "question" "[I", Cond.fieldLink RX1 15 "SharedForks$Forks" "low" "[I", Cond.fieldLink RX1 18 "SharedForks$Forks" "high" "[I", Cond.methodLink RX1 63 yX1_make, Cond.instanceMethod yX1_make, Cond.selects RX1 yX1_make yX1_make]
def wsX2_drop_r3 : List Cond := [Cond.code yX1_make cX1_make 6 (some .int), Cond.fieldLink RX1 21 "SharedForks$Forks" "owners" "[I", Cond.instanceMethod yX1_putInRow, Cond.selects RX1 yX1_putInRow yX1_putInRow, Cond.code yX1_putInRow cX1_putInRow 5 none, Cond.fieldLink RX1 36 "SharedForks$Forks" "placeOf" "[I", Cond.methodLink RX1 70 yX1_walk, Cond.static yX1_walk, Cond.code yX1_walk cX1_walk 6 none, Cond.methodLink RX1 89 yX1_putLast, Cond.instanceMethod yX1_putLast, Cond.selects RX1 yX1_putLast yX1_putLast, Cond.code yX1_putLast cX1_putLast 4 (some .int), Cond.methodLink RX1 80 yX1_placeOrLeaf, Cond.instanceMethod yX1_placeOrLeaf, Cond.selects RX1 yX1_placeOrLeaf yX1_placeOrLeaf, Cond.code yX1_placeOrLeaf cX1_placeOrLeaf 2 (some .int), Cond.methodLink RX2 75 yX2_countKept, Cond.instanceMethod yX2_countKept, Cond.selects RX2 yX2_countKept yX2_countKept, Cond.code yX2_countKept cX2_countKept 3 (some .int)]
def wsX2_drop : List Cond := .code yX2_drop cX2_drop 2 (some .int) :: ((wsX2_drop_r1 ++ (wsX2_drop_r2 ++ wsX2_drop_r3)) ++ wsX00 ++ wsX20 ++ wsX10 ++ (vx_atS RX2 136 "java/lang/IndexOutOfBoundsException" ["java/lang/RuntimeException", "java/lang/Exception"]).filter goodWord)
def wsX2_exchange : List Cond := .code yX2_exchange cX2_exchange 3 none :: ([])
def wsX2_swap_r1 : List Cond := [Cond.fieldLink RX2 15 "SharedForks" "questionAt" "[I", Cond.fieldLink RX2 22 "SharedForks" "forks" "LSharedForks$Forks;", Cond.methodLink RX2 48 yX2_checkBelow, Cond.static yX2_checkBelow, Cond.initialized RX2, Cond.code yX2_checkBelow cX2_checkBelow 2 none, Cond.classLink RX2 132 "java/lang/IndexOutOfBoundsException", Cond.initialized "java/lang/IndexOutOfBoundsException", Cond.methodLink RX2 78 yX2_exchange, Cond.static yX2_exchange, Cond.code yX2_exchange cX2_exchange 3 none, Cond.methodLink RX2 72 yX2_layAll, Cond.instanceMethod yX2_layAll, Cond.selects RX2 yX2_layAll yX2_layAll, Cond.code yX2_layAll cX2_layAll 3 none, Cond.fieldLink RX2 11 "SharedForks" "folds" "[LSharedForks$Fold;", Cond.instanceMethod yX1_startOver, Cond.initialized RX1, Cond.selects RX1 yX1_startOver yX1_startOver, Cond.code yX1_startOver cX1_startOver 3 none, Cond.fieldLink RX1 39 "SharedForks$Forks" "size" "I", Cond.fieldLink RX1 24 "SharedForks$Forks" "slots" "[I", Cond.fieldLink RX1 27 "SharedForks$Forks" "questionAt" "[I", Cond.methodLink RX1 49 arraycopyName]
def wsX2_swap_r2 : List Cond := [Cond.native arraycopyName, Cond.static arraycopyName, Cond.initialized "java/lang/System", Cond.fieldLink RX1 30 "SharedForks$Forks" "answersOfWay" "[I", Cond.methodLink RX1 43 yJ7_fill_53178, Cond.static yJ7_fill_53178, Cond.initialized RJ7, Cond.code yJ7_fill_53178 cJ7_fill_53178 4 none, Cond.methodLink RX1 55 yX1_answersOf, Cond.instanceMethod yX1_answersOf, Cond.selects RX1 yX1_answersOf yX1_answersOf, Cond.code yX1_answersOf cX1_answersOf 5 (some .int), Cond.instanceMethod yX1_lay, Cond.selects RX1 yX1_lay yX1_lay, Cond.code yX1_lay cX1_lay 4 (some .int), Cond.fieldLink RX1 33 "SharedForks$Forks" "partOfWay" "[I", Cond.methodLink RX1 59 yX1_part, Cond.instanceMethod yX1_part, Cond.selects RX1 yX1_part yX1_part, Cond.code yX1_part cX1_part 8 (some .int), Cond.fieldLink RX1 9 "SharedForks$Forks" "question" "[I", Cond.fieldLink RX1 15 "SharedForks$Forks" "low" "[I", Cond.fieldLink RX1 18 "SharedForks$Forks" "high" "[I", Cond.methodLink RX1 63 yX1_make]
def wsX2_swap_r3 : List Cond := [Cond.instanceMethod yX1_make, Cond.selects RX1 yX1_make yX1_make, Cond.code yX1_make cX1_make 6 (some .int), Cond.fieldLink RX1 21 "SharedForks$Forks" "owners" "[I", Cond.instanceMethod yX1_putInRow, Cond.selects RX1 yX1_putInRow yX1_putInRow, Cond.code yX1_putInRow cX1_putInRow 5 none, Cond.fieldLink RX1 36 "SharedForks$Forks" "placeOf" "[I", Cond.methodLink RX1 70 yX1_walk, Cond.static yX1_walk, Cond.code yX1_walk cX1_walk 6 none, Cond.methodLink RX1 89 yX1_putLast, Cond.instanceMethod yX1_putLast, Cond.selects RX1 yX1_putLast yX1_putLast, Cond.code yX1_putLast cX1_putLast 4 (some .int), Cond.methodLink RX1 80 yX1_placeOrLeaf, Cond.instanceMethod yX1_placeOrLeaf, Cond.selects RX1 yX1_placeOrLeaf yX1_placeOrLeaf, Cond.code yX1_placeOrLeaf cX1_placeOrLeaf 2 (some .int)]
def wsX2_swap : List Cond := .code yX2_swap cX2_swap 2 (some .int) :: ((wsX2_swap_r1 ++ (wsX2_swap_r2 ++ wsX2_swap_r3)) ++ wsX20 ++ wsX10 ++ wsX00 ++ (vx_atS RX2 136 "java/lang/IndexOutOfBoundsException" ["java/lang/RuntimeException", "java/lang/Exception"]).filter goodWord)
def wsX2_order : List Cond := .code yX2_order cX2_order 2 (some .int) :: ([.fieldLink RX2 15 "SharedForks" "questionAt" "[I", .methodLink RX2 48 yX2_checkBelow, .static yX2_checkBelow, .initialized RX2, .code yX2_checkBelow cX2_checkBelow 2 none, .classLink RX2 132 "java/lang/IndexOutOfBoundsException", .initialized "java/lang/IndexOutOfBoundsException"] ++ wsX20 ++ (vx_atS RX2 136 "java/lang/IndexOutOfBoundsException" ["java/lang/RuntimeException", "java/lang/Exception"]).filter goodWord)
def wsX2_says : List Cond := .code yX2_says cX2_says 4 (some .boolean) :: ([.classLink RX2 86 "java/lang/IllegalArgumentException", .initialized "java/lang/IllegalArgumentException", .methodLink RX2 56 yX2_foldAt, .instanceMethod yX2_foldAt, .selects RX2 yX2_foldAt yX2_foldAt, .initialized RX2, .code yX2_foldAt cX2_foldAt 2 (some (.object "SharedForks$Fold")), .classLink RX2 132 "java/lang/IndexOutOfBoundsException", .initialized "java/lang/IndexOutOfBoundsException", .fieldLink RX2 11 "SharedForks" "folds" "[LSharedForks$Fold;"] ++ wsX00 ++ wsX20 ++ (vx_atS RX2 90 "java/lang/IllegalArgumentException" ["java/lang/RuntimeException", "java/lang/Exception"]).filter goodWord ++ (vx_atS RX2 136 "java/lang/IndexOutOfBoundsException" ["java/lang/RuntimeException", "java/lang/Exception"]).filter goodWord)
def wsX2_tellFork : List Cond := .code yX2_tellFork cX2_tellFork 5 (some .int) :: ([.fieldLink RX2 22 "SharedForks" "forks" "LSharedForks$Forks;"] ++ wsX00 ++ wsX20 ++ wsX10)
def wsX2_fork : List Cond := .code yX2_fork cX2_fork 5 (some .int) :: ([.methodLink RX2 56 yX2_foldAt, .instanceMethod yX2_foldAt, .selects RX2 yX2_foldAt yX2_foldAt, .initialized RX2, .code yX2_foldAt cX2_foldAt 2 (some (.object "SharedForks$Fold")), .classLink RX2 132 "java/lang/IndexOutOfBoundsException", .initialized "java/lang/IndexOutOfBoundsException", .fieldLink RX2 11 "SharedForks" "folds" "[LSharedForks$Fold;", .methodLink RX2 48 yX2_checkBelow, .static yX2_checkBelow, .code yX2_checkBelow cX2_checkBelow 2 none, .methodLink RX2 94 yX2_tellFork, .instanceMethod yX2_tellFork, .selects RX2 yX2_tellFork yX2_tellFork, .code yX2_tellFork cX2_tellFork 5 (some .int), .fieldLink RX2 22 "SharedForks" "forks" "LSharedForks$Forks;"] ++ wsX00 ++ wsX20 ++ wsX10 ++ (vx_atS RX2 136 "java/lang/IndexOutOfBoundsException" ["java/lang/RuntimeException", "java/lang/Exception"]).filter goodWord)
def wsX2_countYes : List Cond := .code yX2_countYes cX2_countYes 3 (some .int) :: ([] ++ wsX00)
def wsX2_questionsThatMatter : List Cond := .code yX2_questionsThatMatter cX2_questionsThatMatter 4 (some .int) :: ([.fieldLink RX2 22 "SharedForks" "forks" "LSharedForks$Forks;"] ++ wsX00 ++ wsX20 ++ wsX10)
def wsX2_countAsked : List Cond := .code yX2_countAsked cX2_countAsked 6 (some .int) :: ([.fieldLink RX2 22 "SharedForks" "forks" "LSharedForks$Forks;", .methodLink RX2 52 yX2_isYes, .static yX2_isYes, .initialized RX2, .code yX2_isYes cX2_isYes 2 (some .boolean)] ++ wsX00 ++ wsX20 ++ wsX10)
def wsX2_leastAsked : List Cond := .code yX2_leastAsked cX2_leastAsked 4 (some .int) :: ([.methodLink RX2 204 Lib.Math.min.name, .static Lib.Math.min.name, .initialized "java/lang/Math", .code Lib.Math.min.name Lib.Math.min.code 2 (some .int), .methodLink RX2 102 yX2_countAsked, .instanceMethod yX2_countAsked, .selects RX2 yX2_countAsked yX2_countAsked, .initialized RX2, .code yX2_countAsked cX2_countAsked 6 (some .int), .fieldLink RX2 22 "SharedForks" "forks" "LSharedForks$Forks;", .methodLink RX2 52 yX2_isYes, .static yX2_isYes, .code yX2_isYes cX2_isYes 2 (some .boolean)] ++ wsX00 ++ wsX20 ++ wsX10)
def wsX2_mostAsked : List Cond := .code yX2_mostAsked cX2_mostAsked 4 (some .int) :: ([.methodLink RX2 210 Lib.Math.max.name, .static Lib.Math.max.name, .initialized "java/lang/Math", .code Lib.Math.max.name Lib.Math.max.code 2 (some .int), .methodLink RX2 102 yX2_countAsked, .instanceMethod yX2_countAsked, .selects RX2 yX2_countAsked yX2_countAsked, .initialized RX2, .code yX2_countAsked cX2_countAsked 6 (some .int), .fieldLink RX2 22 "SharedForks" "forks" "LSharedForks$Forks;", .methodLink RX2 52 yX2_isYes, .static yX2_isYes, .code yX2_isYes cX2_isYes 2 (some .boolean)] ++ wsX00 ++ wsX20 ++ wsX10)
def wsX2_smallestYes : List Cond := .code yX2_smallestYes cX2_smallestYes 2 (some .int) :: ([] ++ wsX00)
def wsX2_greatestYes : List Cond := .code yX2_greatestYes cX2_greatestYes 2 (some .int) :: ([] ++ wsX00)
def wsX2_countOwnForks : List Cond := .code yX2_countOwnForks cX2_countOwnForks 4 (some .int) :: ([.fieldLink RX2 22 "SharedForks" "forks" "LSharedForks$Forks;"] ++ wsX00 ++ wsX20 ++ wsX10)
def wsX2_tellFold_r1 : List Cond := [Cond.methodLink RX2 176 yX2_countYes, Cond.static yX2_countYes, Cond.initialized RX2, Cond.code yX2_countYes cX2_countYes 3 (some .int), Cond.methodLink RX2 180 yX2_questionsThatMatter, Cond.instanceMethod yX2_questionsThatMatter, Cond.selects RX2 yX2_questionsThatMatter yX2_questionsThatMatter, Cond.code yX2_questionsThatMatter cX2_questionsThatMatter 4 (some .int), Cond.fieldLink RX2 22 "SharedForks" "forks" "LSharedForks$Forks;", Cond.methodLink RX2 183 yX2_leastAsked, Cond.instanceMethod yX2_leastAsked, Cond.selects RX2 yX2_leastAsked yX2_leastAsked, Cond.code yX2_leastAsked cX2_leastAsked 4 (some .int), Cond.methodLink RX2 204 Lib.Math.min.name, Cond.static Lib.Math.min.name, Cond.initialized "java/lang/Math", Cond.code Lib.Math.min.name Lib.Math.min.code 2 (some .int), Cond.methodLink RX2 102 yX2_countAsked, Cond.instanceMethod yX2_countAsked, Cond.selects RX2 yX2_countAsked yX2_countAsked, Cond.code yX2_countAsked cX2_countAsked 6 (some .int), Cond.methodLink RX2 52 yX2_isYes, Cond.static yX2_isYes, Cond.code yX2_isYes cX2_isYes 2 (some .boolean)]
def wsX2_tellFold_r2 : List Cond := [Cond.methodLink RX2 186 yX2_mostAsked, Cond.instanceMethod yX2_mostAsked, Cond.selects RX2 yX2_mostAsked yX2_mostAsked, Cond.code yX2_mostAsked cX2_mostAsked 4 (some .int), Cond.methodLink RX2 210 Lib.Math.max.name, Cond.static Lib.Math.max.name, Cond.code Lib.Math.max.name Lib.Math.max.code 2 (some .int), Cond.methodLink RX2 189 yX2_smallestYes, Cond.static yX2_smallestYes, Cond.code yX2_smallestYes cX2_smallestYes 2 (some .int), Cond.methodLink RX2 192 yX2_greatestYes, Cond.static yX2_greatestYes, Cond.code yX2_greatestYes cX2_greatestYes 2 (some .int), Cond.methodLink RX2 195 yX2_countOwnForks, Cond.instanceMethod yX2_countOwnForks, Cond.selects RX2 yX2_countOwnForks yX2_countOwnForks, Cond.code yX2_countOwnForks cX2_countOwnForks 4 (some .int)]
def wsX2_tellFold : List Cond := .code yX2_tellFold cX2_tellFold 3 (some .int) :: ((wsX2_tellFold_r1 ++ wsX2_tellFold_r2) ++ wsX00 ++ wsX20 ++ wsX10)
def wsX2_about_r1 : List Cond := [Cond.methodLink RX2 56 yX2_foldAt, Cond.instanceMethod yX2_foldAt, Cond.selects RX2 yX2_foldAt yX2_foldAt, Cond.initialized RX2, Cond.code yX2_foldAt cX2_foldAt 2 (some (.object "SharedForks$Fold")), Cond.classLink RX2 132 "java/lang/IndexOutOfBoundsException", Cond.initialized "java/lang/IndexOutOfBoundsException", Cond.fieldLink RX2 11 "SharedForks" "folds" "[LSharedForks$Fold;", Cond.methodLink RX2 48 yX2_checkBelow, Cond.static yX2_checkBelow, Cond.code yX2_checkBelow cX2_checkBelow 2 none, Cond.methodLink RX2 98 yX2_tellFold, Cond.instanceMethod yX2_tellFold, Cond.selects RX2 yX2_tellFold yX2_tellFold, Cond.code yX2_tellFold cX2_tellFold 3 (some .int), Cond.methodLink RX2 176 yX2_countYes, Cond.static yX2_countYes, Cond.code yX2_countYes cX2_countYes 3 (some .int), Cond.methodLink RX2 180 yX2_questionsThatMatter, Cond.instanceMethod yX2_questionsThatMatter, Cond.selects RX2 yX2_questionsThatMatter yX2_questionsThatMatter, Cond.code yX2_questionsThatMatter cX2_questionsThatMatter 4 (some .int), Cond.fieldLink RX2 22 "SharedForks" "forks" "LSharedForks$Forks;", Cond.methodLink RX2 183 yX2_leastAsked]
def wsX2_about_r2 : List Cond := [Cond.instanceMethod yX2_leastAsked, Cond.selects RX2 yX2_leastAsked yX2_leastAsked, Cond.code yX2_leastAsked cX2_leastAsked 4 (some .int), Cond.methodLink RX2 204 Lib.Math.min.name, Cond.static Lib.Math.min.name, Cond.initialized "java/lang/Math", Cond.code Lib.Math.min.name Lib.Math.min.code 2 (some .int), Cond.methodLink RX2 102 yX2_countAsked, Cond.instanceMethod yX2_countAsked, Cond.selects RX2 yX2_countAsked yX2_countAsked, Cond.code yX2_countAsked cX2_countAsked 6 (some .int), Cond.methodLink RX2 52 yX2_isYes, Cond.static yX2_isYes, Cond.code yX2_isYes cX2_isYes 2 (some .boolean), Cond.methodLink RX2 186 yX2_mostAsked, Cond.instanceMethod yX2_mostAsked, Cond.selects RX2 yX2_mostAsked yX2_mostAsked, Cond.code yX2_mostAsked cX2_mostAsked 4 (some .int), Cond.methodLink RX2 210 Lib.Math.max.name, Cond.static Lib.Math.max.name, Cond.code Lib.Math.max.name Lib.Math.max.code 2 (some .int), Cond.methodLink RX2 189 yX2_smallestYes, Cond.static yX2_smallestYes, Cond.code yX2_smallestYes cX2_smallestYes 2 (some .int)]
def wsX2_about_r3 : List Cond := [Cond.methodLink RX2 192 yX2_greatestYes, Cond.static yX2_greatestYes, Cond.code yX2_greatestYes cX2_greatestYes 2 (some .int), Cond.methodLink RX2 195 yX2_countOwnForks, Cond.instanceMethod yX2_countOwnForks, Cond.selects RX2 yX2_countOwnForks yX2_countOwnForks, Cond.code yX2_countOwnForks cX2_countOwnForks 4 (some .int)]
def wsX2_about : List Cond := .code yX2_about cX2_about 4 (some .int) :: ((wsX2_about_r1 ++ (wsX2_about_r2 ++ wsX2_about_r3)) ++ wsX20 ++ wsX00 ++ wsX10 ++ (vx_atS RX2 136 "java/lang/IndexOutOfBoundsException" ["java/lang/RuntimeException", "java/lang/Exception"]).filter goodWord)
def wsX2_asked : List Cond := .code yX2_asked cX2_asked 5 (some .double) :: ([.constantDouble RX2 105 (4643211215818981376), .methodLink RX2 56 yX2_foldAt, .instanceMethod yX2_foldAt, .selects RX2 yX2_foldAt yX2_foldAt, .initialized RX2, .code yX2_foldAt cX2_foldAt 2 (some (.object "SharedForks$Fold")), .classLink RX2 132 "java/lang/IndexOutOfBoundsException", .initialized "java/lang/IndexOutOfBoundsException", .fieldLink RX2 11 "SharedForks" "folds" "[LSharedForks$Fold;", .methodLink RX2 102 yX2_countAsked, .instanceMethod yX2_countAsked, .selects RX2 yX2_countAsked yX2_countAsked, .code yX2_countAsked cX2_countAsked 6 (some .int), .fieldLink RX2 22 "SharedForks" "forks" "LSharedForks$Forks;", .methodLink RX2 52 yX2_isYes, .static yX2_isYes, .code yX2_isYes cX2_isYes 2 (some .boolean)] ++ wsX20 ++ wsX00 ++ wsX10 ++ (vx_atS RX2 136 "java/lang/IndexOutOfBoundsException" ["java/lang/RuntimeException", "java/lang/Exception"]).filter goodWord)
def wsX2_compare : List Cond := .code yX2_compare cX2_compare 11 (some .int) :: ([.methodLink RX2 56 yX2_foldAt, .instanceMethod yX2_foldAt, .selects RX2 yX2_foldAt yX2_foldAt, .initialized RX2, .code yX2_foldAt cX2_foldAt 2 (some (.object "SharedForks$Fold")), .classLink RX2 132 "java/lang/IndexOutOfBoundsException", .initialized "java/lang/IndexOutOfBoundsException", .fieldLink RX2 11 "SharedForks" "folds" "[LSharedForks$Fold;"] ++ wsX00 ++ wsX20 ++ (vx_atS RX2 136 "java/lang/IndexOutOfBoundsException" ["java/lang/RuntimeException", "java/lang/Exception"]).filter goodWord)
def wsX2_addForks : List Cond := .code yX2_addForks cX2_addForks 3 (some .int) :: ([.fieldLink RX2 11 "SharedForks" "folds" "[LSharedForks$Fold;"] ++ wsX20 ++ wsX00)
def wsX2_countForksAtFirstPlace : List Cond := .code yX2_countForksAtFirstPlace cX2_countForksAtFirstPlace 3 (some .int) :: ([.fieldLink RX2 22 "SharedForks" "forks" "LSharedForks$Forks;", .fieldLink RX2 15 "SharedForks" "questionAt" "[I"] ++ wsX20 ++ wsX10)
def wsX2_countLeaves : List Cond := .code yX2_countLeaves cX2_countLeaves 3 (some .int) :: ([.fieldLink RX2 11 "SharedForks" "folds" "[LSharedForks$Fold;"] ++ wsX20 ++ wsX00)
def wsX2_tellCount : List Cond := .code yX2_tellCount cX2_tellCount 2 (some .int) :: ([.fieldLink RX2 22 "SharedForks" "forks" "LSharedForks$Forks;", .methodLink RX2 75 yX2_countKept, .instanceMethod yX2_countKept, .selects RX2 yX2_countKept yX2_countKept, .initialized RX2, .code yX2_countKept cX2_countKept 3 (some .int), .fieldLink RX2 11 "SharedForks" "folds" "[LSharedForks$Fold;", .methodLink RX2 121 yX2_addForks, .instanceMethod yX2_addForks, .selects RX2 yX2_addForks yX2_addForks, .code yX2_addForks cX2_addForks 3 (some .int), .methodLink RX2 198 yX2_countForksAtFirstPlace, .instanceMethod yX2_countForksAtFirstPlace, .selects RX2 yX2_countForksAtFirstPlace yX2_countForksAtFirstPlace, .code yX2_countForksAtFirstPlace cX2_countForksAtFirstPlace 3 (some .int), .fieldLink RX2 15 "SharedForks" "questionAt" "[I", .methodLink RX2 201 yX2_countLeaves, .instanceMethod yX2_countLeaves, .selects RX2 yX2_countLeaves yX2_countLeaves, .code yX2_countLeaves cX2_countLeaves 3 (some .int)] ++ wsX20 ++ wsX10 ++ wsX00)
def wsX2_count_r1 : List Cond := [Cond.methodLink RX2 48 yX2_checkBelow, Cond.static yX2_checkBelow, Cond.initialized RX2, Cond.code yX2_checkBelow cX2_checkBelow 2 none, Cond.classLink RX2 132 "java/lang/IndexOutOfBoundsException", Cond.initialized "java/lang/IndexOutOfBoundsException", Cond.methodLink RX2 107 yX2_tellCount, Cond.instanceMethod yX2_tellCount, Cond.selects RX2 yX2_tellCount yX2_tellCount, Cond.code yX2_tellCount cX2_tellCount 2 (some .int), Cond.fieldLink RX2 22 "SharedForks" "forks" "LSharedForks$Forks;", Cond.methodLink RX2 75 yX2_countKept, Cond.instanceMethod yX2_countKept, Cond.selects RX2 yX2_countKept yX2_countKept, Cond.code yX2_countKept cX2_countKept 3 (some .int), Cond.fieldLink RX2 11 "SharedForks" "folds" "[LSharedForks$Fold;", Cond.methodLink RX2 121 yX2_addForks, Cond.instanceMethod yX2_addForks, Cond.selects RX2 yX2_addForks yX2_addForks, Cond.code yX2_addForks cX2_addForks 3 (some .int), Cond.methodLink RX2 198 yX2_countForksAtFirstPlace, Cond.instanceMethod yX2_countForksAtFirstPlace, Cond.selects RX2 yX2_countForksAtFirstPlace yX2_countForksAtFirstPlace, Cond.code yX2_countForksAtFirstPlace cX2_countForksAtFirstPlace 3 (some .int)]
def wsX2_count_r2 : List Cond := [Cond.fieldLink RX2 15 "SharedForks" "questionAt" "[I", Cond.methodLink RX2 201 yX2_countLeaves, Cond.instanceMethod yX2_countLeaves, Cond.selects RX2 yX2_countLeaves yX2_countLeaves, Cond.code yX2_countLeaves cX2_countLeaves 3 (some .int)]
def wsX2_count : List Cond := .code yX2_count cX2_count 2 (some .int) :: ((wsX2_count_r1 ++ wsX2_count_r2) ++ wsX20 ++ wsX10 ++ wsX00 ++ (vx_atS RX2 136 "java/lang/IndexOutOfBoundsException" ["java/lang/RuntimeException", "java/lang/Exception"]).filter goodWord)
def wsX2_has : List Cond := .code yX2_has cX2_has 2 (some .boolean) :: ([.fieldLink RX2 11 "SharedForks" "folds" "[LSharedForks$Fold;", .methodLink RX2 48 yX2_checkBelow, .static yX2_checkBelow, .initialized RX2, .code yX2_checkBelow cX2_checkBelow 2 none, .classLink RX2 132 "java/lang/IndexOutOfBoundsException", .initialized "java/lang/IndexOutOfBoundsException"] ++ wsX20 ++ wsX00 ++ (vx_atS RX2 136 "java/lang/IndexOutOfBoundsException" ["java/lang/RuntimeException", "java/lang/Exception"]).filter goodWord)
def wsX2_countForksAfterSwap_r1 : List Cond := [Cond.fieldLink RX2 15 "SharedForks" "questionAt" "[I", Cond.fieldLink RX2 30 "SharedForks" "triedOrder" "[I", Cond.methodLink RX2 148 arraycopyName, Cond.native arraycopyName, Cond.static arraycopyName, Cond.initialized "java/lang/System", Cond.fieldLink RX2 33 "SharedForks" "triedForks" "LSharedForks$Forks;", Cond.fieldLink RX2 11 "SharedForks" "folds" "[LSharedForks$Fold;", Cond.methodLink RX2 78 yX2_exchange, Cond.static yX2_exchange, Cond.initialized RX2, Cond.code yX2_exchange cX2_exchange 3 none, Cond.instanceMethod yX1_startOver, Cond.initialized RX1, Cond.selects RX1 yX1_startOver yX1_startOver, Cond.code yX1_startOver cX1_startOver 3 none, Cond.fieldLink RX1 39 "SharedForks$Forks" "size" "I", Cond.fieldLink RX1 24 "SharedForks$Forks" "slots" "[I", Cond.fieldLink RX1 27 "SharedForks$Forks" "questionAt" "[I", Cond.methodLink RX1 49 arraycopyName, Cond.fieldLink RX1 30 "SharedForks$Forks" "answersOfWay" "[I", Cond.methodLink RX1 43 yJ7_fill_53178, Cond.static yJ7_fill_53178, Cond.initialized RJ7]
def wsX2_countForksAfterSwap_r2 : List Cond := [Cond.code yJ7_fill_53178 cJ7_fill_53178 4 none, Cond.methodLink RX1 55 yX1_answersOf, Cond.instanceMethod yX1_answersOf, Cond.selects RX1 yX1_answersOf yX1_answersOf, Cond.code yX1_answersOf cX1_answersOf 5 (some .int), Cond.instanceMethod yX1_lay, Cond.selects RX1 yX1_lay yX1_lay, Cond.code yX1_lay cX1_lay 4 (some .int), Cond.fieldLink RX1 33 "SharedForks$Forks" "partOfWay" "[I", Cond.methodLink RX1 59 yX1_part, Cond.instanceMethod yX1_part, Cond.selects RX1 yX1_part yX1_part, Cond.code yX1_part cX1_part 8 (some .int), Cond.fieldLink RX1 9 "SharedForks$Forks" "question" "[I", Cond.fieldLink RX1 15 "SharedForks$Forks" "low" "[I", Cond.fieldLink RX1 18 "SharedForks$Forks" "high" "[I", Cond.methodLink RX1 63 yX1_make, Cond.instanceMethod yX1_make, Cond.selects RX1 yX1_make yX1_make, Cond.code yX1_make cX1_make 6 (some .int), Cond.fieldLink RX1 21 "SharedForks$Forks" "owners" "[I"]
def wsX2_countForksAfterSwap : List Cond := .code yX2_countForksAfterSwap cX2_countForksAfterSwap 3 (some .int) :: ((wsX2_countForksAfterSwap_r1 ++ wsX2_countForksAfterSwap_r2) ++ wsX20 ++ wsX00 ++ wsX10)
def wsX2_advise_r1 : List Cond := [Cond.fieldLink RX2 22 "SharedForks" "forks" "LSharedForks$Forks;", Cond.methodLink RX2 110 yX2_countForksAfterSwap, Cond.instanceMethod yX2_countForksAfterSwap, Cond.selects RX2 yX2_countForksAfterSwap yX2_countForksAfterSwap, Cond.initialized RX2, Cond.code yX2_countForksAfterSwap cX2_countForksAfterSwap 3 (some .int), Cond.fieldLink RX2 15 "SharedForks" "questionAt" "[I", Cond.fieldLink RX2 30 "SharedForks" "triedOrder" "[I", Cond.methodLink RX2 148 arraycopyName, Cond.native arraycopyName, Cond.static arraycopyName, Cond.initialized "java/lang/System", Cond.fieldLink RX2 33 "SharedForks" "triedForks" "LSharedForks$Forks;", Cond.fieldLink RX2 11 "SharedForks" "folds" "[LSharedForks$Fold;", Cond.methodLink RX2 78 yX2_exchange, Cond.static yX2_exchange, Cond.code yX2_exchange cX2_exchange 3 none, Cond.instanceMethod yX1_startOver, Cond.initialized RX1, Cond.selects RX1 yX1_startOver yX1_startOver, Cond.code yX1_startOver cX1_startOver 3 none, Cond.fieldLink RX1 39 "SharedForks$Forks" "size" "I", Cond.fieldLink RX1 24 "SharedForks$Forks" "slots" "[I", Cond.fieldLink RX1 27 "SharedForks$Forks" "questionAt" "[I"]
def wsX2_advise_r2 : List Cond := [Cond.methodLink RX1 49 arraycopyName, Cond.fieldLink RX1 30 "SharedForks$Forks" "answersOfWay" "[I", Cond.methodLink RX1 43 yJ7_fill_53178, Cond.static yJ7_fill_53178, Cond.initialized RJ7, Cond.code yJ7_fill_53178 cJ7_fill_53178 4 none, Cond.methodLink RX1 55 yX1_answersOf, Cond.instanceMethod yX1_answersOf, Cond.selects RX1 yX1_answersOf yX1_answersOf, Cond.code yX1_answersOf cX1_answersOf 5 (some .int), Cond.instanceMethod yX1_lay, Cond.selects RX1 yX1_lay yX1_lay, Cond.code yX1_lay cX1_lay 4 (some .int), Cond.fieldLink RX1 33 "SharedForks$Forks" "partOfWay" "[I", Cond.methodLink RX1 59 yX1_part, Cond.instanceMethod yX1_part, Cond.selects RX1 yX1_part yX1_part, Cond.code yX1_part cX1_part 8 (some .int), Cond.fieldLink RX1 9 "SharedForks$Forks" "question" "[I", Cond.fieldLink RX1 15 "SharedForks$Forks" "low" "[I", Cond.fieldLink RX1 18 "SharedForks$Forks" "high" "[I", Cond.methodLink RX1 63 yX1_make, Cond.instanceMethod yX1_make, Cond.selects RX1 yX1_make yX1_make]
def wsX2_advise_r3 : List Cond := [Cond.code yX1_make cX1_make 6 (some .int), Cond.fieldLink RX1 21 "SharedForks$Forks" "owners" "[I"]
def wsX2_advise : List Cond := .code yX2_advise cX2_advise 5 (some .int) :: ((wsX2_advise_r1 ++ (wsX2_advise_r2 ++ wsX2_advise_r3)) ++ wsX20 ++ wsX10 ++ wsX00)
def wsX2_would_r1 : List Cond := [Cond.fieldLink RX2 26 "SharedForks" "triedYes" "[Z", Cond.fieldLink RX2 33 "SharedForks" "triedForks" "LSharedForks$Forks;", Cond.fieldLink RX2 15 "SharedForks" "questionAt" "[I", Cond.methodLink RX2 56 yX2_foldAt, Cond.instanceMethod yX2_foldAt, Cond.selects RX2 yX2_foldAt yX2_foldAt, Cond.initialized RX2, Cond.code yX2_foldAt cX2_foldAt 2 (some (.object "SharedForks$Fold")), Cond.classLink RX2 132 "java/lang/IndexOutOfBoundsException", Cond.initialized "java/lang/IndexOutOfBoundsException", Cond.fieldLink RX2 11 "SharedForks" "folds" "[LSharedForks$Fold;", Cond.methodLink RX2 48 yX2_checkBelow, Cond.static yX2_checkBelow, Cond.code yX2_checkBelow cX2_checkBelow 2 none, Cond.methodLink RX2 60 yX2_sayJoined, Cond.static yX2_sayJoined, Cond.code yX2_sayJoined cX2_sayJoined 5 none, Cond.methodLink RX2 154 yX2_joined, Cond.static yX2_joined, Cond.code yX2_joined cX2_joined 3 (some .boolean), Cond.instanceMethod yX1_startOver, Cond.initialized RX1, Cond.selects RX1 yX1_startOver yX1_startOver, Cond.code yX1_startOver cX1_startOver 3 none]
def wsX2_would_r2 : List Cond := [Cond.fieldLink RX1 39 "SharedForks$Forks" "size" "I", Cond.fieldLink RX1 24 "SharedForks$Forks" "slots" "[I", Cond.fieldLink RX1 27 "SharedForks$Forks" "questionAt" "[I", Cond.methodLink RX1 49 arraycopyName, Cond.native arraycopyName, Cond.static arraycopyName, Cond.initialized "java/lang/System", Cond.fieldLink RX1 30 "SharedForks$Forks" "answersOfWay" "[I", Cond.methodLink RX1 43 yJ7_fill_53178, Cond.static yJ7_fill_53178, Cond.initialized RJ7, Cond.code yJ7_fill_53178 cJ7_fill_53178 4 none, Cond.methodLink RX1 55 yX1_answersOf, Cond.instanceMethod yX1_answersOf, Cond.selects RX1 yX1_answersOf yX1_answersOf, Cond.code yX1_answersOf cX1_answersOf 5 (some .int), Cond.instanceMethod yX1_lay, Cond.selects RX1 yX1_lay yX1_lay, Cond.code yX1_lay cX1_lay 4 (some .int), Cond.fieldLink RX1 33 "SharedForks$Forks" "partOfWay" "[I", Cond.methodLink RX1 59 yX1_part, Cond.instanceMethod yX1_part, Cond.selects RX1 yX1_part yX1_part, Cond.code yX1_part cX1_part 8 (some .int)]
def wsX2_would_r3 : List Cond := [Cond.fieldLink RX1 9 "SharedForks$Forks" "question" "[I", Cond.fieldLink RX1 15 "SharedForks$Forks" "low" "[I", Cond.fieldLink RX1 18 "SharedForks$Forks" "high" "[I", Cond.methodLink RX1 63 yX1_make, Cond.instanceMethod yX1_make, Cond.selects RX1 yX1_make yX1_make, Cond.code yX1_make cX1_make 6 (some .int), Cond.fieldLink RX1 21 "SharedForks$Forks" "owners" "[I"]
def wsX2_would : List Cond := .code yX2_would cX2_would 6 (some .int) :: ((wsX2_would_r1 ++ (wsX2_would_r2 ++ wsX2_would_r3)) ++ wsX20 ++ wsX10 ++ wsX00 ++ (vx_atS RX2 136 "java/lang/IndexOutOfBoundsException" ["java/lang/RuntimeException", "java/lang/Exception"]).filter goodWord)
def wsX2_mean : List Cond := .code yX2_mean cX2_mean 2 (some .double) :: ([.methodLink RX2 75 yX2_countKept, .instanceMethod yX2_countKept, .selects RX2 yX2_countKept yX2_countKept, .initialized RX2, .code yX2_countKept cX2_countKept 3 (some .int), .fieldLink RX2 11 "SharedForks" "folds" "[LSharedForks$Fold;", .methodLink RX2 121 yX2_addForks, .instanceMethod yX2_addForks, .selects RX2 yX2_addForks yX2_addForks, .code yX2_addForks cX2_addForks 3 (some .int)] ++ wsX20 ++ wsX00)
def wsX2_digestFold_r1 : List Cond := [Cond.constantLong RX2 126 (31), Cond.methodLink RX2 98 yX2_tellFold, Cond.instanceMethod yX2_tellFold, Cond.selects RX2 yX2_tellFold yX2_tellFold, Cond.initialized RX2, Cond.code yX2_tellFold cX2_tellFold 3 (some .int), Cond.methodLink RX2 176 yX2_countYes, Cond.static yX2_countYes, Cond.code yX2_countYes cX2_countYes 3 (some .int), Cond.methodLink RX2 180 yX2_questionsThatMatter, Cond.instanceMethod yX2_questionsThatMatter, Cond.selects RX2 yX2_questionsThatMatter yX2_questionsThatMatter, Cond.code yX2_questionsThatMatter cX2_questionsThatMatter 4 (some .int), Cond.fieldLink RX2 22 "SharedForks" "forks" "LSharedForks$Forks;", Cond.methodLink RX2 183 yX2_leastAsked, Cond.instanceMethod yX2_leastAsked, Cond.selects RX2 yX2_leastAsked yX2_leastAsked, Cond.code yX2_leastAsked cX2_leastAsked 4 (some .int), Cond.methodLink RX2 204 Lib.Math.min.name, Cond.static Lib.Math.min.name, Cond.initialized "java/lang/Math", Cond.code Lib.Math.min.name Lib.Math.min.code 2 (some .int), Cond.methodLink RX2 102 yX2_countAsked, Cond.instanceMethod yX2_countAsked]
def wsX2_digestFold_r2 : List Cond := [Cond.selects RX2 yX2_countAsked yX2_countAsked, Cond.code yX2_countAsked cX2_countAsked 6 (some .int), Cond.methodLink RX2 52 yX2_isYes, Cond.static yX2_isYes, Cond.code yX2_isYes cX2_isYes 2 (some .boolean), Cond.methodLink RX2 186 yX2_mostAsked, Cond.instanceMethod yX2_mostAsked, Cond.selects RX2 yX2_mostAsked yX2_mostAsked, Cond.code yX2_mostAsked cX2_mostAsked 4 (some .int), Cond.methodLink RX2 210 Lib.Math.max.name, Cond.static Lib.Math.max.name, Cond.code Lib.Math.max.name Lib.Math.max.code 2 (some .int), Cond.methodLink RX2 189 yX2_smallestYes, Cond.static yX2_smallestYes, Cond.code yX2_smallestYes cX2_smallestYes 2 (some .int), Cond.methodLink RX2 192 yX2_greatestYes, Cond.static yX2_greatestYes, Cond.code yX2_greatestYes cX2_greatestYes 2 (some .int), Cond.methodLink RX2 195 yX2_countOwnForks, Cond.instanceMethod yX2_countOwnForks, Cond.selects RX2 yX2_countOwnForks yX2_countOwnForks, Cond.code yX2_countOwnForks cX2_countOwnForks 4 (some .int), Cond.methodLink RX2 94 yX2_tellFork, Cond.instanceMethod yX2_tellFork]
def wsX2_digestFold_r3 : List Cond := [Cond.selects RX2 yX2_tellFork yX2_tellFork, Cond.code yX2_tellFork cX2_tellFork 5 (some .int)]
def wsX2_digestFold : List Cond := .code yX2_digestFold cX2_digestFold 8 (some .long) :: ((wsX2_digestFold_r1 ++ (wsX2_digestFold_r2 ++ wsX2_digestFold_r3)) ++ wsX00 ++ wsX20 ++ wsX10)
def wsX2_digest_r1 : List Cond := [Cond.constantLong RX2 124 (1709), Cond.constantLong RX2 126 (31), Cond.fieldLink RX2 15 "SharedForks" "questionAt" "[I", Cond.fieldLink RX2 11 "SharedForks" "folds" "[LSharedForks$Fold;", Cond.methodLink RX2 107 yX2_tellCount, Cond.instanceMethod yX2_tellCount, Cond.selects RX2 yX2_tellCount yX2_tellCount, Cond.initialized RX2, Cond.code yX2_tellCount cX2_tellCount 2 (some .int), Cond.fieldLink RX2 22 "SharedForks" "forks" "LSharedForks$Forks;", Cond.methodLink RX2 75 yX2_countKept, Cond.instanceMethod yX2_countKept, Cond.selects RX2 yX2_countKept yX2_countKept, Cond.code yX2_countKept cX2_countKept 3 (some .int), Cond.methodLink RX2 121 yX2_addForks, Cond.instanceMethod yX2_addForks, Cond.selects RX2 yX2_addForks yX2_addForks, Cond.code yX2_addForks cX2_addForks 3 (some .int), Cond.methodLink RX2 198 yX2_countForksAtFirstPlace, Cond.instanceMethod yX2_countForksAtFirstPlace, Cond.selects RX2 yX2_countForksAtFirstPlace yX2_countForksAtFirstPlace, Cond.code yX2_countForksAtFirstPlace cX2_countForksAtFirstPlace 3 (some .int), Cond.methodLink RX2 201 yX2_countLeaves, Cond.instanceMethod yX2_countLeaves]
def wsX2_digest_r2 : List Cond := [Cond.selects RX2 yX2_countLeaves yX2_countLeaves, Cond.code yX2_countLeaves cX2_countLeaves 3 (some .int), Cond.methodLink RX2 128 yX2_digestFold, Cond.instanceMethod yX2_digestFold, Cond.selects RX2 yX2_digestFold yX2_digestFold, Cond.code yX2_digestFold cX2_digestFold 8 (some .long), Cond.methodLink RX2 98 yX2_tellFold, Cond.instanceMethod yX2_tellFold, Cond.selects RX2 yX2_tellFold yX2_tellFold, Cond.code yX2_tellFold cX2_tellFold 3 (some .int), Cond.methodLink RX2 176 yX2_countYes, Cond.static yX2_countYes, Cond.code yX2_countYes cX2_countYes 3 (some .int), Cond.methodLink RX2 180 yX2_questionsThatMatter, Cond.instanceMethod yX2_questionsThatMatter, Cond.selects RX2 yX2_questionsThatMatter yX2_questionsThatMatter, Cond.code yX2_questionsThatMatter cX2_questionsThatMatter 4 (some .int), Cond.methodLink RX2 183 yX2_leastAsked, Cond.instanceMethod yX2_leastAsked, Cond.selects RX2 yX2_leastAsked yX2_leastAsked, Cond.code yX2_leastAsked cX2_leastAsked 4 (some .int), Cond.methodLink RX2 204 Lib.Math.min.name, Cond.static Lib.Math.min.name, Cond.initialized "java/lang/Math"]
def wsX2_digest_r3 : List Cond := [Cond.code Lib.Math.min.name Lib.Math.min.code 2 (some .int), Cond.methodLink RX2 102 yX2_countAsked, Cond.instanceMethod yX2_countAsked, Cond.selects RX2 yX2_countAsked yX2_countAsked, Cond.code yX2_countAsked cX2_countAsked 6 (some .int), Cond.methodLink RX2 52 yX2_isYes, Cond.static yX2_isYes, Cond.code yX2_isYes cX2_isYes 2 (some .boolean), Cond.methodLink RX2 186 yX2_mostAsked, Cond.instanceMethod yX2_mostAsked, Cond.selects RX2 yX2_mostAsked yX2_mostAsked, Cond.code yX2_mostAsked cX2_mostAsked 4 (some .int), Cond.methodLink RX2 210 Lib.Math.max.name, Cond.static Lib.Math.max.name, Cond.code Lib.Math.max.name Lib.Math.max.code 2 (some .int), Cond.methodLink RX2 189 yX2_smallestYes, Cond.static yX2_smallestYes, Cond.code yX2_smallestYes cX2_smallestYes 2 (some .int), Cond.methodLink RX2 192 yX2_greatestYes, Cond.static yX2_greatestYes, Cond.code yX2_greatestYes cX2_greatestYes 2 (some .int), Cond.methodLink RX2 195 yX2_countOwnForks, Cond.instanceMethod yX2_countOwnForks, Cond.selects RX2 yX2_countOwnForks yX2_countOwnForks]
def wsX2_digest_r4 : List Cond := [Cond.code yX2_countOwnForks cX2_countOwnForks 4 (some .int), Cond.methodLink RX2 94 yX2_tellFork, Cond.instanceMethod yX2_tellFork, Cond.selects RX2 yX2_tellFork yX2_tellFork, Cond.code yX2_tellFork cX2_tellFork 5 (some .int)]
def wsX2_digest : List Cond := .code yX2_digest cX2_digest 5 (some .long) :: ((wsX2_digest_r1 ++ (wsX2_digest_r2 ++ (wsX2_digest_r3 ++ wsX2_digest_r4))) ++ wsX20 ++ wsX00 ++ wsX10)
def wsX3_init : List Cond := .code yX3_init cX3_init 1 none :: ([.methodLink RX3 1 objectInit, .instanceMethod objectInit, .code objectInit ⟨#[0xb1]⟩ 1 none, .arrayClass .boolean, .fieldLink RX3 9 "SharedForksModel" "is" "[Z", .arrayClass .long, .fieldLink RX3 13 "SharedForksModel" "said" "[J", .arrayClass .int, .fieldLink RX3 17 "SharedForksModel" "order" "[I", .fieldLink RX3 21 "SharedForksModel" "bits" "[J", .fieldLink RX3 24 "SharedForksModel" "asks" "[I", .fieldLink RX3 27 "SharedForksModel" "lows" "[I", .fieldLink RX3 30 "SharedForksModel" "highs" "[I", .fieldLink RX3 33 "SharedForksModel" "owners" "[I", .fieldLink RX3 36 "SharedForksModel" "roots" "[I", .fieldLink RX3 39 "SharedForksModel" "work" "[J", .fieldLink RX3 42 "SharedForksModel" "row" "[I", .fieldLink RX3 45 "SharedForksModel" "places" "[I"] ++ wsX30)
def wsX3_thrown : List Cond := .code yX3_thrown cX3_thrown 1 (some .int) :: ([.fieldLink RX3 48 "SharedForksModel" "thrown" "I"] ++ wsX30)
def wsX3_fail : List Cond := .code yX3_fail cX3_fail 2 (some .int) :: ([.fieldLink RX3 48 "SharedForksModel" "thrown" "I"] ++ wsX30)
def wsX3_isIn : List Cond := .code yX3_isIn cX3_isIn 3 (some .boolean) :: ([])
def wsX3_isFold : List Cond := .code yX3_isFold cX3_isFold 2 (some .boolean) :: ([.fieldLink RX3 9 "SharedForksModel" "is" "[Z", .methodLink RX3 52 yX3_isIn, .static yX3_isIn, .initialized RX3, .code yX3_isIn cX3_isIn 3 (some .boolean)] ++ wsX30)
def wsX3_isQuestion : List Cond := .code yX3_isQuestion cX3_isQuestion 1 (some .boolean) :: ([.methodLink RX3 52 yX3_isIn, .static yX3_isIn, .initialized RX3, .code yX3_isIn cX3_isIn 3 (some .boolean)])
def wsX3_yes : List Cond := .code yX3_yes cX3_yes 5 (some .long) :: ([.constantLong RX3 56 (-1)])
def wsX3_give : List Cond := .code yX3_give cX3_give 12 none :: ([.constantLong RX3 56 (-1), .methodLink RX3 58 yX3_yes, .static yX3_yes, .initialized RX3, .code yX3_yes cX3_yes 5 (some .long)])
def wsX3_isAll : List Cond := .code yX3_isAll cX3_isAll 5 (some .boolean) :: ([])
def wsX3_isSame : List Cond := .code yX3_isSame cX3_isSame 5 (some .boolean) :: ([])
def wsX3_matters : List Cond := .code yX3_matters cX3_matters 6 (some .boolean) :: ([.constantLong RX3 56 (-1), .methodLink RX3 58 yX3_yes, .static yX3_yes, .initialized RX3, .code yX3_yes cX3_yes 5 (some .long)])
def wsX3_fork_r1 : List Cond := [Cond.fieldLink RX3 39 "SharedForksModel" "work" "[J", Cond.constantLong RX3 56 (-1), Cond.fieldLink RX3 66 "SharedForksModel" "forks" "I", Cond.fieldLink RX3 21 "SharedForksModel" "bits" "[J", Cond.fieldLink RX3 17 "SharedForksModel" "order" "[I", Cond.methodLink RX3 85 arraycopyName, Cond.native arraycopyName, Cond.static arraycopyName, Cond.initialized "java/lang/System", Cond.fieldLink RX3 24 "SharedForksModel" "asks" "[I", Cond.fieldLink RX3 27 "SharedForksModel" "lows" "[I", Cond.fieldLink RX3 30 "SharedForksModel" "highs" "[I", Cond.fieldLink RX3 33 "SharedForksModel" "owners" "[I", Cond.methodLink RX3 62 yX3_isAll, Cond.static yX3_isAll, Cond.initialized RX3, Cond.code yX3_isAll cX3_isAll 5 (some .boolean), Cond.methodLink RX3 69 yX3_isSame, Cond.static yX3_isSame, Cond.code yX3_isSame cX3_isSame 5 (some .boolean), Cond.methodLink RX3 73 yX3_matters, Cond.instanceMethod yX3_matters, Cond.selects RX3 yX3_matters yX3_matters, Cond.code yX3_matters cX3_matters 6 (some .boolean)]
def wsX3_fork_r2 : List Cond := [Cond.methodLink RX3 58 yX3_yes, Cond.static yX3_yes, Cond.code yX3_yes cX3_yes 5 (some .long), Cond.methodLink RX3 77 yX3_give, Cond.static yX3_give, Cond.code yX3_give cX3_give 12 none, Cond.methodLink RX3 81 yX3_fork, Cond.instanceMethod yX3_fork, Cond.selects RX3 yX3_fork yX3_fork]
def wsX3_fork : List Cond := .code yX3_fork cX3_fork 6 (some .int) :: ((wsX3_fork_r1 ++ wsX3_fork_r2) ++ wsX30)
def wsX3_own : List Cond := .code yX3_own cX3_own 3 none :: ([.fieldLink RX3 33 "SharedForksModel" "owners" "[I", .fieldLink RX3 27 "SharedForksModel" "lows" "[I", .fieldLink RX3 30 "SharedForksModel" "highs" "[I", .methodLink RX3 91 yX3_own, .instanceMethod yX3_own, .selects RX3 yX3_own yX3_own, .initialized RX3] ++ wsX30)
def wsX3_make_r1 : List Cond := [Cond.fieldLink RX3 66 "SharedForksModel" "forks" "I", Cond.fieldLink RX3 9 "SharedForksModel" "is" "[Z", Cond.fieldLink RX3 13 "SharedForksModel" "said" "[J", Cond.fieldLink RX3 39 "SharedForksModel" "work" "[J", Cond.methodLink RX3 85 arraycopyName, Cond.native arraycopyName, Cond.static arraycopyName, Cond.initialized "java/lang/System", Cond.fieldLink RX3 36 "SharedForksModel" "roots" "[I", Cond.methodLink RX3 81 yX3_fork, Cond.instanceMethod yX3_fork, Cond.selects RX3 yX3_fork yX3_fork, Cond.initialized RX3, Cond.code yX3_fork cX3_fork 6 (some .int), Cond.constantLong RX3 56 (-1), Cond.fieldLink RX3 21 "SharedForksModel" "bits" "[J", Cond.fieldLink RX3 17 "SharedForksModel" "order" "[I", Cond.fieldLink RX3 24 "SharedForksModel" "asks" "[I", Cond.fieldLink RX3 27 "SharedForksModel" "lows" "[I", Cond.fieldLink RX3 30 "SharedForksModel" "highs" "[I", Cond.fieldLink RX3 33 "SharedForksModel" "owners" "[I", Cond.methodLink RX3 62 yX3_isAll, Cond.static yX3_isAll, Cond.code yX3_isAll cX3_isAll 5 (some .boolean)]
def wsX3_make_r2 : List Cond := [Cond.methodLink RX3 69 yX3_isSame, Cond.static yX3_isSame, Cond.code yX3_isSame cX3_isSame 5 (some .boolean), Cond.methodLink RX3 73 yX3_matters, Cond.instanceMethod yX3_matters, Cond.selects RX3 yX3_matters yX3_matters, Cond.code yX3_matters cX3_matters 6 (some .boolean), Cond.methodLink RX3 58 yX3_yes, Cond.static yX3_yes, Cond.code yX3_yes cX3_yes 5 (some .long), Cond.methodLink RX3 77 yX3_give, Cond.static yX3_give, Cond.code yX3_give cX3_give 12 none, Cond.methodLink RX3 91 yX3_own, Cond.instanceMethod yX3_own, Cond.selects RX3 yX3_own yX3_own, Cond.code yX3_own cX3_own 3 none]
def wsX3_make : List Cond := .code yX3_make cX3_make 2 none :: ((wsX3_make_r1 ++ wsX3_make_r2) ++ wsX30)
def wsX3_stand : List Cond := .code yX3_stand cX3_stand 2 none :: ([.fieldLink RX3 45 "SharedForksModel" "places" "[I", .fieldLink RX3 95 "SharedForksModel" "rowSize" "I", .fieldLink RX3 42 "SharedForksModel" "row" "[I", .fieldLink RX3 27 "SharedForksModel" "lows" "[I", .fieldLink RX3 30 "SharedForksModel" "highs" "[I", .methodLink RX3 98 yX3_stand, .instanceMethod yX3_stand, .selects RX3 yX3_stand yX3_stand, .initialized RX3] ++ wsX30)
def wsX3_line : List Cond := .code yX3_line cX3_line 3 none :: ([.fieldLink RX3 66 "SharedForksModel" "forks" "I", .fieldLink RX3 45 "SharedForksModel" "places" "[I", .fieldLink RX3 95 "SharedForksModel" "rowSize" "I", .methodLink RX3 98 yX3_stand, .instanceMethod yX3_stand, .selects RX3 yX3_stand yX3_stand, .initialized RX3, .code yX3_stand cX3_stand 2 none, .fieldLink RX3 42 "SharedForksModel" "row" "[I", .fieldLink RX3 27 "SharedForksModel" "lows" "[I", .fieldLink RX3 30 "SharedForksModel" "highs" "[I"] ++ wsX30)
def wsX3_placeOf : List Cond := .code yX3_placeOf cX3_placeOf 2 (some .int) :: ([.fieldLink RX3 45 "SharedForksModel" "places" "[I"] ++ wsX30)
def wsX3_far : List Cond := .code yX3_far cX3_far 5 (some .int) :: ([.fieldLink RX3 27 "SharedForksModel" "lows" "[I", .fieldLink RX3 30 "SharedForksModel" "highs" "[I", .methodLink RX3 106 Lib.Math.min.name, .static Lib.Math.min.name, .initialized "java/lang/Math", .code Lib.Math.min.name Lib.Math.min.code 2 (some .int), .methodLink RX3 112 Lib.Math.max.name, .static Lib.Math.max.name, .code Lib.Math.max.name Lib.Math.max.code 2 (some .int), .methodLink RX3 102 yX3_far, .instanceMethod yX3_far, .selects RX3 yX3_far yX3_far, .initialized RX3] ++ wsX30)
def wsX3_ahead : List Cond := .code yX3_ahead cX3_ahead 7 (some .int) :: ([.fieldLink RX3 95 "SharedForksModel" "rowSize" "I", .arrayClass .int, .fieldLink RX3 27 "SharedForksModel" "lows" "[I", .fieldLink RX3 42 "SharedForksModel" "row" "[I", .fieldLink RX3 30 "SharedForksModel" "highs" "[I", .methodLink RX3 106 Lib.Math.min.name, .static Lib.Math.min.name, .initialized "java/lang/Math", .code Lib.Math.min.name Lib.Math.min.code 2 (some .int), .fieldLink RX3 45 "SharedForksModel" "places" "[I", .methodLink RX3 115 yX3_placeOf, .instanceMethod yX3_placeOf, .selects RX3 yX3_placeOf yX3_placeOf, .initialized RX3, .code yX3_placeOf cX3_placeOf 2 (some .int)] ++ wsX30)
def wsX3_all : List Cond := .code yX3_all cX3_all 2 (some .int) :: ([.fieldLink RX3 36 "SharedForksModel" "roots" "[I", .fieldLink RX3 95 "SharedForksModel" "rowSize" "I", .methodLink RX3 118 yX3_line, .instanceMethod yX3_line, .selects RX3 yX3_line yX3_line, .initialized RX3, .code yX3_line cX3_line 3 none, .fieldLink RX3 66 "SharedForksModel" "forks" "I", .fieldLink RX3 45 "SharedForksModel" "places" "[I", .methodLink RX3 98 yX3_stand, .instanceMethod yX3_stand, .selects RX3 yX3_stand yX3_stand, .code yX3_stand cX3_stand 2 none, .fieldLink RX3 42 "SharedForksModel" "row" "[I", .fieldLink RX3 27 "SharedForksModel" "lows" "[I", .fieldLink RX3 30 "SharedForksModel" "highs" "[I"] ++ wsX30)
def wsX3_free : List Cond := .code yX3_free cX3_free 2 (some .int) :: ([.fieldLink RX3 9 "SharedForksModel" "is" "[Z"] ++ wsX30)
def wsX3_kept_r1 : List Cond := [Cond.fieldLink RX3 9 "SharedForksModel" "is" "[Z", Cond.methodLink RX3 121 yX3_make, Cond.instanceMethod yX3_make, Cond.selects RX3 yX3_make yX3_make, Cond.initialized RX3, Cond.code yX3_make cX3_make 2 none, Cond.fieldLink RX3 66 "SharedForksModel" "forks" "I", Cond.fieldLink RX3 13 "SharedForksModel" "said" "[J", Cond.fieldLink RX3 39 "SharedForksModel" "work" "[J", Cond.methodLink RX3 85 arraycopyName, Cond.native arraycopyName, Cond.static arraycopyName, Cond.initialized "java/lang/System", Cond.fieldLink RX3 36 "SharedForksModel" "roots" "[I", Cond.methodLink RX3 81 yX3_fork, Cond.instanceMethod yX3_fork, Cond.selects RX3 yX3_fork yX3_fork, Cond.code yX3_fork cX3_fork 6 (some .int), Cond.constantLong RX3 56 (-1), Cond.fieldLink RX3 21 "SharedForksModel" "bits" "[J", Cond.fieldLink RX3 17 "SharedForksModel" "order" "[I", Cond.fieldLink RX3 24 "SharedForksModel" "asks" "[I", Cond.fieldLink RX3 27 "SharedForksModel" "lows" "[I", Cond.fieldLink RX3 30 "SharedForksModel" "highs" "[I"]
def wsX3_kept_r2 : List Cond := [Cond.fieldLink RX3 33 "SharedForksModel" "owners" "[I", Cond.methodLink RX3 62 yX3_isAll, Cond.static yX3_isAll, Cond.code yX3_isAll cX3_isAll 5 (some .boolean), Cond.methodLink RX3 69 yX3_isSame, Cond.static yX3_isSame, Cond.code yX3_isSame cX3_isSame 5 (some .boolean), Cond.methodLink RX3 73 yX3_matters, Cond.instanceMethod yX3_matters, Cond.selects RX3 yX3_matters yX3_matters, Cond.code yX3_matters cX3_matters 6 (some .boolean), Cond.methodLink RX3 58 yX3_yes, Cond.static yX3_yes, Cond.code yX3_yes cX3_yes 5 (some .long), Cond.methodLink RX3 77 yX3_give, Cond.static yX3_give, Cond.code yX3_give cX3_give 12 none, Cond.methodLink RX3 91 yX3_own, Cond.instanceMethod yX3_own, Cond.selects RX3 yX3_own yX3_own, Cond.code yX3_own cX3_own 3 none]
def wsX3_kept : List Cond := .code yX3_kept cX3_kept 2 (some .int) :: ((wsX3_kept_r1 ++ wsX3_kept_r2) ++ wsX30)
def wsX3_leaf_r1 : List Cond := [Cond.fieldLink RX3 48 "SharedForksModel" "thrown" "I", Cond.fieldLink RX3 13 "SharedForksModel" "said" "[J", Cond.constantLong RX3 56 (-1), Cond.methodLink RX3 124 yX3_free, Cond.instanceMethod yX3_free, Cond.selects RX3 yX3_free yX3_free, Cond.initialized RX3, Cond.code yX3_free cX3_free 2 (some .int), Cond.fieldLink RX3 9 "SharedForksModel" "is" "[Z", Cond.methodLink RX3 128 yX3_fail, Cond.instanceMethod yX3_fail, Cond.selects RX3 yX3_fail yX3_fail, Cond.code yX3_fail cX3_fail 2 (some .int), Cond.methodLink RX3 131 yX3_kept, Cond.instanceMethod yX3_kept, Cond.selects RX3 yX3_kept yX3_kept, Cond.code yX3_kept cX3_kept 2 (some .int), Cond.methodLink RX3 121 yX3_make, Cond.instanceMethod yX3_make, Cond.selects RX3 yX3_make yX3_make, Cond.code yX3_make cX3_make 2 none, Cond.fieldLink RX3 66 "SharedForksModel" "forks" "I", Cond.fieldLink RX3 39 "SharedForksModel" "work" "[J", Cond.methodLink RX3 85 arraycopyName]
def wsX3_leaf_r2 : List Cond := [Cond.native arraycopyName, Cond.static arraycopyName, Cond.initialized "java/lang/System", Cond.fieldLink RX3 36 "SharedForksModel" "roots" "[I", Cond.methodLink RX3 81 yX3_fork, Cond.instanceMethod yX3_fork, Cond.selects RX3 yX3_fork yX3_fork, Cond.code yX3_fork cX3_fork 6 (some .int), Cond.fieldLink RX3 21 "SharedForksModel" "bits" "[J", Cond.fieldLink RX3 17 "SharedForksModel" "order" "[I", Cond.fieldLink RX3 24 "SharedForksModel" "asks" "[I", Cond.fieldLink RX3 27 "SharedForksModel" "lows" "[I", Cond.fieldLink RX3 30 "SharedForksModel" "highs" "[I", Cond.fieldLink RX3 33 "SharedForksModel" "owners" "[I", Cond.methodLink RX3 62 yX3_isAll, Cond.static yX3_isAll, Cond.code yX3_isAll cX3_isAll 5 (some .boolean), Cond.methodLink RX3 69 yX3_isSame, Cond.static yX3_isSame, Cond.code yX3_isSame cX3_isSame 5 (some .boolean), Cond.methodLink RX3 73 yX3_matters, Cond.instanceMethod yX3_matters, Cond.selects RX3 yX3_matters yX3_matters, Cond.code yX3_matters cX3_matters 6 (some .boolean)]
def wsX3_leaf_r3 : List Cond := [Cond.methodLink RX3 58 yX3_yes, Cond.static yX3_yes, Cond.code yX3_yes cX3_yes 5 (some .long), Cond.methodLink RX3 77 yX3_give, Cond.static yX3_give, Cond.code yX3_give cX3_give 12 none, Cond.methodLink RX3 91 yX3_own, Cond.instanceMethod yX3_own, Cond.selects RX3 yX3_own yX3_own, Cond.code yX3_own cX3_own 3 none]
def wsX3_leaf : List Cond := .code yX3_leaf cX3_leaf 4 (some .int) :: ((wsX3_leaf_r1 ++ (wsX3_leaf_r2 ++ wsX3_leaf_r3)) ++ wsX30)
def wsX3_ask_r1 : List Cond := [Cond.fieldLink RX3 48 "SharedForksModel" "thrown" "I", Cond.fieldLink RX3 13 "SharedForksModel" "said" "[J", Cond.methodLink RX3 134 yX3_isQuestion, Cond.static yX3_isQuestion, Cond.initialized RX3, Cond.code yX3_isQuestion cX3_isQuestion 1 (some .boolean), Cond.methodLink RX3 52 yX3_isIn, Cond.static yX3_isIn, Cond.code yX3_isIn cX3_isIn 3 (some .boolean), Cond.methodLink RX3 128 yX3_fail, Cond.instanceMethod yX3_fail, Cond.selects RX3 yX3_fail yX3_fail, Cond.code yX3_fail cX3_fail 2 (some .int), Cond.methodLink RX3 124 yX3_free, Cond.instanceMethod yX3_free, Cond.selects RX3 yX3_free yX3_free, Cond.code yX3_free cX3_free 2 (some .int), Cond.fieldLink RX3 9 "SharedForksModel" "is" "[Z", Cond.methodLink RX3 58 yX3_yes, Cond.static yX3_yes, Cond.code yX3_yes cX3_yes 5 (some .long), Cond.constantLong RX3 56 (-1), Cond.methodLink RX3 131 yX3_kept, Cond.instanceMethod yX3_kept]
def wsX3_ask_r2 : List Cond := [Cond.selects RX3 yX3_kept yX3_kept, Cond.code yX3_kept cX3_kept 2 (some .int), Cond.methodLink RX3 121 yX3_make, Cond.instanceMethod yX3_make, Cond.selects RX3 yX3_make yX3_make, Cond.code yX3_make cX3_make 2 none, Cond.fieldLink RX3 66 "SharedForksModel" "forks" "I", Cond.fieldLink RX3 39 "SharedForksModel" "work" "[J", Cond.methodLink RX3 85 arraycopyName, Cond.native arraycopyName, Cond.static arraycopyName, Cond.initialized "java/lang/System", Cond.fieldLink RX3 36 "SharedForksModel" "roots" "[I", Cond.methodLink RX3 81 yX3_fork, Cond.instanceMethod yX3_fork, Cond.selects RX3 yX3_fork yX3_fork, Cond.code yX3_fork cX3_fork 6 (some .int), Cond.fieldLink RX3 21 "SharedForksModel" "bits" "[J", Cond.fieldLink RX3 17 "SharedForksModel" "order" "[I", Cond.fieldLink RX3 24 "SharedForksModel" "asks" "[I", Cond.fieldLink RX3 27 "SharedForksModel" "lows" "[I", Cond.fieldLink RX3 30 "SharedForksModel" "highs" "[I", Cond.fieldLink RX3 33 "SharedForksModel" "owners" "[I", Cond.methodLink RX3 62 yX3_isAll]
def wsX3_ask_r3 : List Cond := [Cond.static yX3_isAll, Cond.code yX3_isAll cX3_isAll 5 (some .boolean), Cond.methodLink RX3 69 yX3_isSame, Cond.static yX3_isSame, Cond.code yX3_isSame cX3_isSame 5 (some .boolean), Cond.methodLink RX3 73 yX3_matters, Cond.instanceMethod yX3_matters, Cond.selects RX3 yX3_matters yX3_matters, Cond.code yX3_matters cX3_matters 6 (some .boolean), Cond.methodLink RX3 77 yX3_give, Cond.static yX3_give, Cond.code yX3_give cX3_give 12 none, Cond.methodLink RX3 91 yX3_own, Cond.instanceMethod yX3_own, Cond.selects RX3 yX3_own yX3_own, Cond.code yX3_own cX3_own 3 none]
def wsX3_ask : List Cond := .code yX3_ask cX3_ask 4 (some .int) :: ((wsX3_ask_r1 ++ (wsX3_ask_r2 ++ wsX3_ask_r3)) ++ wsX30)
def wsX3_joined : List Cond := .code yX3_joined cX3_joined 5 (some .long) :: ([.constantLong RX3 56 (-1)])
def wsX3_join_r1 : List Cond := [Cond.fieldLink RX3 48 "SharedForksModel" "thrown" "I", Cond.fieldLink RX3 13 "SharedForksModel" "said" "[J", Cond.methodLink RX3 138 yX3_isFold, Cond.instanceMethod yX3_isFold, Cond.selects RX3 yX3_isFold yX3_isFold, Cond.initialized RX3, Cond.code yX3_isFold cX3_isFold 2 (some .boolean), Cond.fieldLink RX3 9 "SharedForksModel" "is" "[Z", Cond.methodLink RX3 52 yX3_isIn, Cond.static yX3_isIn, Cond.code yX3_isIn cX3_isIn 3 (some .boolean), Cond.methodLink RX3 128 yX3_fail, Cond.instanceMethod yX3_fail, Cond.selects RX3 yX3_fail yX3_fail, Cond.code yX3_fail cX3_fail 2 (some .int), Cond.methodLink RX3 124 yX3_free, Cond.instanceMethod yX3_free, Cond.selects RX3 yX3_free yX3_free, Cond.code yX3_free cX3_free 2 (some .int), Cond.methodLink RX3 141 yX3_joined, Cond.static yX3_joined, Cond.code yX3_joined cX3_joined 5 (some .long), Cond.constantLong RX3 56 (-1), Cond.methodLink RX3 131 yX3_kept]
def wsX3_join_r2 : List Cond := [Cond.instanceMethod yX3_kept, Cond.selects RX3 yX3_kept yX3_kept, Cond.code yX3_kept cX3_kept 2 (some .int), Cond.methodLink RX3 121 yX3_make, Cond.instanceMethod yX3_make, Cond.selects RX3 yX3_make yX3_make, Cond.code yX3_make cX3_make 2 none, Cond.fieldLink RX3 66 "SharedForksModel" "forks" "I", Cond.fieldLink RX3 39 "SharedForksModel" "work" "[J", Cond.methodLink RX3 85 arraycopyName, Cond.native arraycopyName, Cond.static arraycopyName, Cond.initialized "java/lang/System", Cond.fieldLink RX3 36 "SharedForksModel" "roots" "[I", Cond.methodLink RX3 81 yX3_fork, Cond.instanceMethod yX3_fork, Cond.selects RX3 yX3_fork yX3_fork, Cond.code yX3_fork cX3_fork 6 (some .int), Cond.fieldLink RX3 21 "SharedForksModel" "bits" "[J", Cond.fieldLink RX3 17 "SharedForksModel" "order" "[I", Cond.fieldLink RX3 24 "SharedForksModel" "asks" "[I", Cond.fieldLink RX3 27 "SharedForksModel" "lows" "[I", Cond.fieldLink RX3 30 "SharedForksModel" "highs" "[I", Cond.fieldLink RX3 33 "SharedForksModel" "owners" "[I"]
def wsX3_join_r3 : List Cond := [Cond.methodLink RX3 62 yX3_isAll, Cond.static yX3_isAll, Cond.code yX3_isAll cX3_isAll 5 (some .boolean), Cond.methodLink RX3 69 yX3_isSame, Cond.static yX3_isSame, Cond.code yX3_isSame cX3_isSame 5 (some .boolean), Cond.methodLink RX3 73 yX3_matters, Cond.instanceMethod yX3_matters, Cond.selects RX3 yX3_matters yX3_matters, Cond.code yX3_matters cX3_matters 6 (some .boolean), Cond.methodLink RX3 58 yX3_yes, Cond.static yX3_yes, Cond.code yX3_yes cX3_yes 5 (some .long), Cond.methodLink RX3 77 yX3_give, Cond.static yX3_give, Cond.code yX3_give cX3_give 12 none, Cond.methodLink RX3 91 yX3_own, Cond.instanceMethod yX3_own, Cond.selects RX3 yX3_own yX3_own, Cond.code yX3_own cX3_own 3 none]
def wsX3_join : List Cond := .code yX3_join cX3_join 6 (some .int) :: ((wsX3_join_r1 ++ (wsX3_join_r2 ++ wsX3_join_r3)) ++ wsX30)
def wsX3_choose_r1 : List Cond := [Cond.fieldLink RX3 48 "SharedForksModel" "thrown" "I", Cond.fieldLink RX3 13 "SharedForksModel" "said" "[J", Cond.constantLong RX3 56 (-1), Cond.methodLink RX3 138 yX3_isFold, Cond.instanceMethod yX3_isFold, Cond.selects RX3 yX3_isFold yX3_isFold, Cond.initialized RX3, Cond.code yX3_isFold cX3_isFold 2 (some .boolean), Cond.fieldLink RX3 9 "SharedForksModel" "is" "[Z", Cond.methodLink RX3 52 yX3_isIn, Cond.static yX3_isIn, Cond.code yX3_isIn cX3_isIn 3 (some .boolean), Cond.methodLink RX3 128 yX3_fail, Cond.instanceMethod yX3_fail, Cond.selects RX3 yX3_fail yX3_fail, Cond.code yX3_fail cX3_fail 2 (some .int), Cond.methodLink RX3 124 yX3_free, Cond.instanceMethod yX3_free, Cond.selects RX3 yX3_free yX3_free, Cond.code yX3_free cX3_free 2 (some .int), Cond.methodLink RX3 131 yX3_kept, Cond.instanceMethod yX3_kept, Cond.selects RX3 yX3_kept yX3_kept, Cond.code yX3_kept cX3_kept 2 (some .int)]
def wsX3_choose_r2 : List Cond := [Cond.methodLink RX3 121 yX3_make, Cond.instanceMethod yX3_make, Cond.selects RX3 yX3_make yX3_make, Cond.code yX3_make cX3_make 2 none, Cond.fieldLink RX3 66 "SharedForksModel" "forks" "I", Cond.fieldLink RX3 39 "SharedForksModel" "work" "[J", Cond.methodLink RX3 85 arraycopyName, Cond.native arraycopyName, Cond.static arraycopyName, Cond.initialized "java/lang/System", Cond.fieldLink RX3 36 "SharedForksModel" "roots" "[I", Cond.methodLink RX3 81 yX3_fork, Cond.instanceMethod yX3_fork, Cond.selects RX3 yX3_fork yX3_fork, Cond.code yX3_fork cX3_fork 6 (some .int), Cond.fieldLink RX3 21 "SharedForksModel" "bits" "[J", Cond.fieldLink RX3 17 "SharedForksModel" "order" "[I", Cond.fieldLink RX3 24 "SharedForksModel" "asks" "[I", Cond.fieldLink RX3 27 "SharedForksModel" "lows" "[I", Cond.fieldLink RX3 30 "SharedForksModel" "highs" "[I", Cond.fieldLink RX3 33 "SharedForksModel" "owners" "[I", Cond.methodLink RX3 62 yX3_isAll, Cond.static yX3_isAll, Cond.code yX3_isAll cX3_isAll 5 (some .boolean)]
def wsX3_choose_r3 : List Cond := [Cond.methodLink RX3 69 yX3_isSame, Cond.static yX3_isSame, Cond.code yX3_isSame cX3_isSame 5 (some .boolean), Cond.methodLink RX3 73 yX3_matters, Cond.instanceMethod yX3_matters, Cond.selects RX3 yX3_matters yX3_matters, Cond.code yX3_matters cX3_matters 6 (some .boolean), Cond.methodLink RX3 58 yX3_yes, Cond.static yX3_yes, Cond.code yX3_yes cX3_yes 5 (some .long), Cond.methodLink RX3 77 yX3_give, Cond.static yX3_give, Cond.code yX3_give cX3_give 12 none, Cond.methodLink RX3 91 yX3_own, Cond.instanceMethod yX3_own, Cond.selects RX3 yX3_own yX3_own, Cond.code yX3_own cX3_own 3 none]
def wsX3_choose : List Cond := .code yX3_choose cX3_choose 6 (some .int) :: ((wsX3_choose_r1 ++ (wsX3_choose_r2 ++ wsX3_choose_r3)) ++ wsX30)
def wsX3_given_r1 : List Cond := [Cond.fieldLink RX3 48 "SharedForksModel" "thrown" "I", Cond.fieldLink RX3 13 "SharedForksModel" "said" "[J", Cond.methodLink RX3 138 yX3_isFold, Cond.instanceMethod yX3_isFold, Cond.selects RX3 yX3_isFold yX3_isFold, Cond.initialized RX3, Cond.code yX3_isFold cX3_isFold 2 (some .boolean), Cond.fieldLink RX3 9 "SharedForksModel" "is" "[Z", Cond.methodLink RX3 52 yX3_isIn, Cond.static yX3_isIn, Cond.code yX3_isIn cX3_isIn 3 (some .boolean), Cond.methodLink RX3 134 yX3_isQuestion, Cond.static yX3_isQuestion, Cond.code yX3_isQuestion cX3_isQuestion 1 (some .boolean), Cond.methodLink RX3 128 yX3_fail, Cond.instanceMethod yX3_fail, Cond.selects RX3 yX3_fail yX3_fail, Cond.code yX3_fail cX3_fail 2 (some .int), Cond.methodLink RX3 124 yX3_free, Cond.instanceMethod yX3_free, Cond.selects RX3 yX3_free yX3_free, Cond.code yX3_free cX3_free 2 (some .int), Cond.methodLink RX3 77 yX3_give, Cond.static yX3_give]
def wsX3_given_r2 : List Cond := [Cond.code yX3_give cX3_give 12 none, Cond.constantLong RX3 56 (-1), Cond.methodLink RX3 58 yX3_yes, Cond.static yX3_yes, Cond.code yX3_yes cX3_yes 5 (some .long), Cond.methodLink RX3 131 yX3_kept, Cond.instanceMethod yX3_kept, Cond.selects RX3 yX3_kept yX3_kept, Cond.code yX3_kept cX3_kept 2 (some .int), Cond.methodLink RX3 121 yX3_make, Cond.instanceMethod yX3_make, Cond.selects RX3 yX3_make yX3_make, Cond.code yX3_make cX3_make 2 none, Cond.fieldLink RX3 66 "SharedForksModel" "forks" "I", Cond.fieldLink RX3 39 "SharedForksModel" "work" "[J", Cond.methodLink RX3 85 arraycopyName, Cond.native arraycopyName, Cond.static arraycopyName, Cond.initialized "java/lang/System", Cond.fieldLink RX3 36 "SharedForksModel" "roots" "[I", Cond.methodLink RX3 81 yX3_fork, Cond.instanceMethod yX3_fork, Cond.selects RX3 yX3_fork yX3_fork, Cond.code yX3_fork cX3_fork 6 (some .int)]
def wsX3_given_r3 : List Cond := [Cond.fieldLink RX3 21 "SharedForksModel" "bits" "[J", Cond.fieldLink RX3 17 "SharedForksModel" "order" "[I", Cond.fieldLink RX3 24 "SharedForksModel" "asks" "[I", Cond.fieldLink RX3 27 "SharedForksModel" "lows" "[I", Cond.fieldLink RX3 30 "SharedForksModel" "highs" "[I", Cond.fieldLink RX3 33 "SharedForksModel" "owners" "[I", Cond.methodLink RX3 62 yX3_isAll, Cond.static yX3_isAll, Cond.code yX3_isAll cX3_isAll 5 (some .boolean), Cond.methodLink RX3 69 yX3_isSame, Cond.static yX3_isSame, Cond.code yX3_isSame cX3_isSame 5 (some .boolean), Cond.methodLink RX3 73 yX3_matters, Cond.instanceMethod yX3_matters, Cond.selects RX3 yX3_matters yX3_matters, Cond.code yX3_matters cX3_matters 6 (some .boolean), Cond.methodLink RX3 91 yX3_own, Cond.instanceMethod yX3_own, Cond.selects RX3 yX3_own yX3_own, Cond.code yX3_own cX3_own 3 none]
def wsX3_given : List Cond := .code yX3_given cX3_given 5 (some .int) :: ((wsX3_given_r1 ++ (wsX3_given_r2 ++ wsX3_given_r3)) ++ wsX30)
def wsX3_without_r1 : List Cond := [Cond.fieldLink RX3 48 "SharedForksModel" "thrown" "I", Cond.fieldLink RX3 13 "SharedForksModel" "said" "[J", Cond.fieldLink RX3 39 "SharedForksModel" "work" "[J", Cond.methodLink RX3 138 yX3_isFold, Cond.instanceMethod yX3_isFold, Cond.selects RX3 yX3_isFold yX3_isFold, Cond.initialized RX3, Cond.code yX3_isFold cX3_isFold 2 (some .boolean), Cond.fieldLink RX3 9 "SharedForksModel" "is" "[Z", Cond.methodLink RX3 52 yX3_isIn, Cond.static yX3_isIn, Cond.code yX3_isIn cX3_isIn 3 (some .boolean), Cond.methodLink RX3 134 yX3_isQuestion, Cond.static yX3_isQuestion, Cond.code yX3_isQuestion cX3_isQuestion 1 (some .boolean), Cond.methodLink RX3 128 yX3_fail, Cond.instanceMethod yX3_fail, Cond.selects RX3 yX3_fail yX3_fail, Cond.code yX3_fail cX3_fail 2 (some .int), Cond.methodLink RX3 124 yX3_free, Cond.instanceMethod yX3_free, Cond.selects RX3 yX3_free yX3_free, Cond.code yX3_free cX3_free 2 (some .int), Cond.methodLink RX3 77 yX3_give]
def wsX3_without_r2 : List Cond := [Cond.static yX3_give, Cond.code yX3_give cX3_give 12 none, Cond.constantLong RX3 56 (-1), Cond.methodLink RX3 58 yX3_yes, Cond.static yX3_yes, Cond.code yX3_yes cX3_yes 5 (some .long), Cond.methodLink RX3 131 yX3_kept, Cond.instanceMethod yX3_kept, Cond.selects RX3 yX3_kept yX3_kept, Cond.code yX3_kept cX3_kept 2 (some .int), Cond.methodLink RX3 121 yX3_make, Cond.instanceMethod yX3_make, Cond.selects RX3 yX3_make yX3_make, Cond.code yX3_make cX3_make 2 none, Cond.fieldLink RX3 66 "SharedForksModel" "forks" "I", Cond.methodLink RX3 85 arraycopyName, Cond.native arraycopyName, Cond.static arraycopyName, Cond.initialized "java/lang/System", Cond.fieldLink RX3 36 "SharedForksModel" "roots" "[I", Cond.methodLink RX3 81 yX3_fork, Cond.instanceMethod yX3_fork, Cond.selects RX3 yX3_fork yX3_fork, Cond.code yX3_fork cX3_fork 6 (some .int)]
def wsX3_without_r3 : List Cond := [Cond.fieldLink RX3 21 "SharedForksModel" "bits" "[J", Cond.fieldLink RX3 17 "SharedForksModel" "order" "[I", Cond.fieldLink RX3 24 "SharedForksModel" "asks" "[I", Cond.fieldLink RX3 27 "SharedForksModel" "lows" "[I", Cond.fieldLink RX3 30 "SharedForksModel" "highs" "[I", Cond.fieldLink RX3 33 "SharedForksModel" "owners" "[I", Cond.methodLink RX3 62 yX3_isAll, Cond.static yX3_isAll, Cond.code yX3_isAll cX3_isAll 5 (some .boolean), Cond.methodLink RX3 69 yX3_isSame, Cond.static yX3_isSame, Cond.code yX3_isSame cX3_isSame 5 (some .boolean), Cond.methodLink RX3 73 yX3_matters, Cond.instanceMethod yX3_matters, Cond.selects RX3 yX3_matters yX3_matters, Cond.code yX3_matters cX3_matters 6 (some .boolean), Cond.methodLink RX3 91 yX3_own, Cond.instanceMethod yX3_own, Cond.selects RX3 yX3_own yX3_own, Cond.code yX3_own cX3_own 3 none]
def wsX3_without : List Cond := .code yX3_without cX3_without 6 (some .int) :: ((wsX3_without_r1 ++ (wsX3_without_r2 ++ wsX3_without_r3)) ++ wsX30)
def wsX3_folds : List Cond := .code yX3_folds cX3_folds 6 (some .int) :: ([.fieldLink RX3 9 "SharedForksModel" "is" "[Z"] ++ wsX30)
def wsX3_drop_r1 : List Cond := [Cond.fieldLink RX3 48 "SharedForksModel" "thrown" "I", Cond.fieldLink RX3 9 "SharedForksModel" "is" "[Z", Cond.methodLink RX3 138 yX3_isFold, Cond.instanceMethod yX3_isFold, Cond.selects RX3 yX3_isFold yX3_isFold, Cond.initialized RX3, Cond.code yX3_isFold cX3_isFold 2 (some .boolean), Cond.methodLink RX3 52 yX3_isIn, Cond.static yX3_isIn, Cond.code yX3_isIn cX3_isIn 3 (some .boolean), Cond.methodLink RX3 128 yX3_fail, Cond.instanceMethod yX3_fail, Cond.selects RX3 yX3_fail yX3_fail, Cond.code yX3_fail cX3_fail 2 (some .int), Cond.methodLink RX3 121 yX3_make, Cond.instanceMethod yX3_make, Cond.selects RX3 yX3_make yX3_make, Cond.code yX3_make cX3_make 2 none, Cond.fieldLink RX3 66 "SharedForksModel" "forks" "I", Cond.fieldLink RX3 13 "SharedForksModel" "said" "[J", Cond.fieldLink RX3 39 "SharedForksModel" "work" "[J", Cond.methodLink RX3 85 arraycopyName, Cond.native arraycopyName, Cond.static arraycopyName]
def wsX3_drop_r2 : List Cond := [Cond.initialized "java/lang/System", Cond.fieldLink RX3 36 "SharedForksModel" "roots" "[I", Cond.methodLink RX3 81 yX3_fork, Cond.instanceMethod yX3_fork, Cond.selects RX3 yX3_fork yX3_fork, Cond.code yX3_fork cX3_fork 6 (some .int), Cond.constantLong RX3 56 (-1), Cond.fieldLink RX3 21 "SharedForksModel" "bits" "[J", Cond.fieldLink RX3 17 "SharedForksModel" "order" "[I", Cond.fieldLink RX3 24 "SharedForksModel" "asks" "[I", Cond.fieldLink RX3 27 "SharedForksModel" "lows" "[I", Cond.fieldLink RX3 30 "SharedForksModel" "highs" "[I", Cond.fieldLink RX3 33 "SharedForksModel" "owners" "[I", Cond.methodLink RX3 62 yX3_isAll, Cond.static yX3_isAll, Cond.code yX3_isAll cX3_isAll 5 (some .boolean), Cond.methodLink RX3 69 yX3_isSame, Cond.static yX3_isSame, Cond.code yX3_isSame cX3_isSame 5 (some .boolean), Cond.methodLink RX3 73 yX3_matters, Cond.instanceMethod yX3_matters, Cond.selects RX3 yX3_matters yX3_matters, Cond.code yX3_matters cX3_matters 6 (some .boolean), Cond.methodLink RX3 58 yX3_yes]
def wsX3_drop_r3 : List Cond := [Cond.static yX3_yes, Cond.code yX3_yes cX3_yes 5 (some .long), Cond.methodLink RX3 77 yX3_give, Cond.static yX3_give, Cond.code yX3_give cX3_give 12 none, Cond.methodLink RX3 91 yX3_own, Cond.instanceMethod yX3_own, Cond.selects RX3 yX3_own yX3_own, Cond.code yX3_own cX3_own 3 none, Cond.methodLink RX3 145 yX3_folds, Cond.instanceMethod yX3_folds, Cond.selects RX3 yX3_folds yX3_folds, Cond.code yX3_folds cX3_folds 6 (some .int)]
def wsX3_drop : List Cond := .code yX3_drop cX3_drop 2 (some .int) :: ((wsX3_drop_r1 ++ (wsX3_drop_r2 ++ wsX3_drop_r3)) ++ wsX30)
def wsX3_exchange_r1 : List Cond := [Cond.fieldLink RX3 17 "SharedForksModel" "order" "[I", Cond.methodLink RX3 121 yX3_make, Cond.instanceMethod yX3_make, Cond.selects RX3 yX3_make yX3_make, Cond.initialized RX3, Cond.code yX3_make cX3_make 2 none, Cond.fieldLink RX3 66 "SharedForksModel" "forks" "I", Cond.fieldLink RX3 9 "SharedForksModel" "is" "[Z", Cond.fieldLink RX3 13 "SharedForksModel" "said" "[J", Cond.fieldLink RX3 39 "SharedForksModel" "work" "[J", Cond.methodLink RX3 85 arraycopyName, Cond.native arraycopyName, Cond.static arraycopyName, Cond.initialized "java/lang/System", Cond.fieldLink RX3 36 "SharedForksModel" "roots" "[I", Cond.methodLink RX3 81 yX3_fork, Cond.instanceMethod yX3_fork, Cond.selects RX3 yX3_fork yX3_fork, Cond.code yX3_fork cX3_fork 6 (some .int), Cond.constantLong RX3 56 (-1), Cond.fieldLink RX3 21 "SharedForksModel" "bits" "[J", Cond.fieldLink RX3 24 "SharedForksModel" "asks" "[I", Cond.fieldLink RX3 27 "SharedForksModel" "lows" "[I", Cond.fieldLink RX3 30 "SharedForksModel" "highs" "[I"]
def wsX3_exchange_r2 : List Cond := [Cond.fieldLink RX3 33 "SharedForksModel" "owners" "[I", Cond.methodLink RX3 62 yX3_isAll, Cond.static yX3_isAll, Cond.code yX3_isAll cX3_isAll 5 (some .boolean), Cond.methodLink RX3 69 yX3_isSame, Cond.static yX3_isSame, Cond.code yX3_isSame cX3_isSame 5 (some .boolean), Cond.methodLink RX3 73 yX3_matters, Cond.instanceMethod yX3_matters, Cond.selects RX3 yX3_matters yX3_matters, Cond.code yX3_matters cX3_matters 6 (some .boolean), Cond.methodLink RX3 58 yX3_yes, Cond.static yX3_yes, Cond.code yX3_yes cX3_yes 5 (some .long), Cond.methodLink RX3 77 yX3_give, Cond.static yX3_give, Cond.code yX3_give cX3_give 12 none, Cond.methodLink RX3 91 yX3_own, Cond.instanceMethod yX3_own, Cond.selects RX3 yX3_own yX3_own, Cond.code yX3_own cX3_own 3 none]
def wsX3_exchange : List Cond := .code yX3_exchange cX3_exchange 3 none :: ((wsX3_exchange_r1 ++ wsX3_exchange_r2) ++ wsX30)
def wsX3_swap_r1 : List Cond := [Cond.fieldLink RX3 48 "SharedForksModel" "thrown" "I", Cond.fieldLink RX3 66 "SharedForksModel" "forks" "I", Cond.methodLink RX3 52 yX3_isIn, Cond.static yX3_isIn, Cond.initialized RX3, Cond.code yX3_isIn cX3_isIn 3 (some .boolean), Cond.methodLink RX3 128 yX3_fail, Cond.instanceMethod yX3_fail, Cond.selects RX3 yX3_fail yX3_fail, Cond.code yX3_fail cX3_fail 2 (some .int), Cond.methodLink RX3 148 yX3_exchange, Cond.instanceMethod yX3_exchange, Cond.selects RX3 yX3_exchange yX3_exchange, Cond.code yX3_exchange cX3_exchange 3 none, Cond.fieldLink RX3 17 "SharedForksModel" "order" "[I", Cond.methodLink RX3 121 yX3_make, Cond.instanceMethod yX3_make, Cond.selects RX3 yX3_make yX3_make, Cond.code yX3_make cX3_make 2 none, Cond.fieldLink RX3 9 "SharedForksModel" "is" "[Z", Cond.fieldLink RX3 13 "SharedForksModel" "said" "[J", Cond.fieldLink RX3 39 "SharedForksModel" "work" "[J", Cond.methodLink RX3 85 arraycopyName, Cond.native arraycopyName]
def wsX3_swap_r2 : List Cond := [Cond.static arraycopyName, Cond.initialized "java/lang/System", Cond.fieldLink RX3 36 "SharedForksModel" "roots" "[I", Cond.methodLink RX3 81 yX3_fork, Cond.instanceMethod yX3_fork, Cond.selects RX3 yX3_fork yX3_fork, Cond.code yX3_fork cX3_fork 6 (some .int), Cond.constantLong RX3 56 (-1), Cond.fieldLink RX3 21 "SharedForksModel" "bits" "[J", Cond.fieldLink RX3 24 "SharedForksModel" "asks" "[I", Cond.fieldLink RX3 27 "SharedForksModel" "lows" "[I", Cond.fieldLink RX3 30 "SharedForksModel" "highs" "[I", Cond.fieldLink RX3 33 "SharedForksModel" "owners" "[I", Cond.methodLink RX3 62 yX3_isAll, Cond.static yX3_isAll, Cond.code yX3_isAll cX3_isAll 5 (some .boolean), Cond.methodLink RX3 69 yX3_isSame, Cond.static yX3_isSame, Cond.code yX3_isSame cX3_isSame 5 (some .boolean), Cond.methodLink RX3 73 yX3_matters, Cond.instanceMethod yX3_matters, Cond.selects RX3 yX3_matters yX3_matters, Cond.code yX3_matters cX3_matters 6 (some .boolean), Cond.methodLink RX3 58 yX3_yes]
def wsX3_swap_r3 : List Cond := [Cond.static yX3_yes, Cond.code yX3_yes cX3_yes 5 (some .long), Cond.methodLink RX3 77 yX3_give, Cond.static yX3_give, Cond.code yX3_give cX3_give 12 none, Cond.methodLink RX3 91 yX3_own, Cond.instanceMethod yX3_own, Cond.selects RX3 yX3_own yX3_own, Cond.code yX3_own cX3_own 3 none]
def wsX3_swap : List Cond := .code yX3_swap cX3_swap 2 (some .int) :: ((wsX3_swap_r1 ++ (wsX3_swap_r2 ++ wsX3_swap_r3)) ++ wsX30)
def wsX3_order : List Cond := .code yX3_order cX3_order 2 (some .int) :: ([.fieldLink RX3 48 "SharedForksModel" "thrown" "I", .fieldLink RX3 17 "SharedForksModel" "order" "[I", .methodLink RX3 134 yX3_isQuestion, .static yX3_isQuestion, .initialized RX3, .code yX3_isQuestion cX3_isQuestion 1 (some .boolean), .methodLink RX3 52 yX3_isIn, .static yX3_isIn, .code yX3_isIn cX3_isIn 3 (some .boolean), .methodLink RX3 128 yX3_fail, .instanceMethod yX3_fail, .selects RX3 yX3_fail yX3_fail, .code yX3_fail cX3_fail 2 (some .int)] ++ wsX30)
def wsX3_saysSo : List Cond := .code yX3_saysSo cX3_saysSo 3 (some .boolean) :: ([.fieldLink RX3 13 "SharedForksModel" "said" "[J"] ++ wsX30)
def wsX3_says : List Cond := .code yX3_says cX3_says 3 (some .boolean) :: ([.fieldLink RX3 48 "SharedForksModel" "thrown" "I", .methodLink RX3 138 yX3_isFold, .instanceMethod yX3_isFold, .selects RX3 yX3_isFold yX3_isFold, .initialized RX3, .code yX3_isFold cX3_isFold 2 (some .boolean), .fieldLink RX3 9 "SharedForksModel" "is" "[Z", .methodLink RX3 52 yX3_isIn, .static yX3_isIn, .code yX3_isIn cX3_isIn 3 (some .boolean), .methodLink RX3 151 yX3_saysSo, .instanceMethod yX3_saysSo, .selects RX3 yX3_saysSo yX3_saysSo, .code yX3_saysSo cX3_saysSo 3 (some .boolean), .fieldLink RX3 13 "SharedForksModel" "said" "[J"] ++ wsX30)
def wsX3_many : List Cond := .code yX3_many cX3_many 3 (some .int) :: ([])
def wsX3_forkTold : List Cond := .code yX3_forkTold cX3_forkTold 3 (some .int) :: ([.fieldLink RX3 24 "SharedForksModel" "asks" "[I", .fieldLink RX3 27 "SharedForksModel" "lows" "[I", .fieldLink RX3 30 "SharedForksModel" "highs" "[I", .fieldLink RX3 33 "SharedForksModel" "owners" "[I", .methodLink RX3 115 yX3_placeOf, .instanceMethod yX3_placeOf, .selects RX3 yX3_placeOf yX3_placeOf, .initialized RX3, .code yX3_placeOf cX3_placeOf 2 (some .int), .fieldLink RX3 45 "SharedForksModel" "places" "[I", .methodLink RX3 155 yX3_ahead, .instanceMethod yX3_ahead, .selects RX3 yX3_ahead yX3_ahead, .code yX3_ahead cX3_ahead 7 (some .int), .fieldLink RX3 95 "SharedForksModel" "rowSize" "I", .arrayClass .int, .fieldLink RX3 42 "SharedForksModel" "row" "[I", .methodLink RX3 106 Lib.Math.min.name, .static Lib.Math.min.name, .initialized "java/lang/Math", .code Lib.Math.min.name Lib.Math.min.code 2 (some .int), .methodLink RX3 158 yX3_many, .static yX3_many, .code yX3_many cX3_many 3 (some .int)] ++ wsX30)
def wsX3_fork__r1 : List Cond := [Cond.fieldLink RX3 48 "SharedForksModel" "thrown" "I", Cond.fieldLink RX3 42 "SharedForksModel" "row" "[I", Cond.methodLink RX3 138 yX3_isFold, Cond.instanceMethod yX3_isFold, Cond.selects RX3 yX3_isFold yX3_isFold, Cond.initialized RX3, Cond.code yX3_isFold cX3_isFold 2 (some .boolean), Cond.fieldLink RX3 9 "SharedForksModel" "is" "[Z", Cond.methodLink RX3 52 yX3_isIn, Cond.static yX3_isIn, Cond.code yX3_isIn cX3_isIn 3 (some .boolean), Cond.methodLink RX3 128 yX3_fail, Cond.instanceMethod yX3_fail, Cond.selects RX3 yX3_fail yX3_fail, Cond.code yX3_fail cX3_fail 2 (some .int), Cond.methodLink RX3 161 yX3_all, Cond.instanceMethod yX3_all, Cond.selects RX3 yX3_all yX3_all, Cond.code yX3_all cX3_all 2 (some .int), Cond.fieldLink RX3 36 "SharedForksModel" "roots" "[I", Cond.fieldLink RX3 95 "SharedForksModel" "rowSize" "I", Cond.methodLink RX3 118 yX3_line, Cond.instanceMethod yX3_line, Cond.selects RX3 yX3_line yX3_line]
def wsX3_fork__r2 : List Cond := [Cond.code yX3_line cX3_line 3 none, Cond.fieldLink RX3 66 "SharedForksModel" "forks" "I", Cond.fieldLink RX3 45 "SharedForksModel" "places" "[I", Cond.methodLink RX3 98 yX3_stand, Cond.instanceMethod yX3_stand, Cond.selects RX3 yX3_stand yX3_stand, Cond.code yX3_stand cX3_stand 2 none, Cond.fieldLink RX3 27 "SharedForksModel" "lows" "[I", Cond.fieldLink RX3 30 "SharedForksModel" "highs" "[I", Cond.methodLink RX3 164 yX3_forkTold, Cond.instanceMethod yX3_forkTold, Cond.selects RX3 yX3_forkTold yX3_forkTold, Cond.code yX3_forkTold cX3_forkTold 3 (some .int), Cond.fieldLink RX3 24 "SharedForksModel" "asks" "[I", Cond.fieldLink RX3 33 "SharedForksModel" "owners" "[I", Cond.methodLink RX3 115 yX3_placeOf, Cond.instanceMethod yX3_placeOf, Cond.selects RX3 yX3_placeOf yX3_placeOf, Cond.code yX3_placeOf cX3_placeOf 2 (some .int), Cond.methodLink RX3 155 yX3_ahead, Cond.instanceMethod yX3_ahead, Cond.selects RX3 yX3_ahead yX3_ahead, Cond.code yX3_ahead cX3_ahead 7 (some .int), Cond.arrayClass .int]
def wsX3_fork__r3 : List Cond := [Cond.methodLink RX3 106 Lib.Math.min.name, Cond.static Lib.Math.min.name, Cond.initialized "java/lang/Math", Cond.code Lib.Math.min.name Lib.Math.min.code 2 (some .int), Cond.methodLink RX3 158 yX3_many, Cond.static yX3_many, Cond.code yX3_many cX3_many 3 (some .int)]
def wsX3_fork_ : List Cond := .code yX3_fork_ cX3_fork_ 4 (some .int) :: ((wsX3_fork__r1 ++ (wsX3_fork__r2 ++ wsX3_fork__r3)) ++ wsX30)
def wsX3_aboutOf_r1 : List Cond := [Cond.fieldLink RX3 13 "SharedForksModel" "said" "[J", Cond.fieldLink RX3 36 "SharedForksModel" "roots" "[I", Cond.fieldLink RX3 66 "SharedForksModel" "forks" "I", Cond.fieldLink RX3 33 "SharedForksModel" "owners" "[I", Cond.methodLink RX3 161 yX3_all, Cond.instanceMethod yX3_all, Cond.selects RX3 yX3_all yX3_all, Cond.initialized RX3, Cond.code yX3_all cX3_all 2 (some .int), Cond.fieldLink RX3 95 "SharedForksModel" "rowSize" "I", Cond.methodLink RX3 118 yX3_line, Cond.instanceMethod yX3_line, Cond.selects RX3 yX3_line yX3_line, Cond.code yX3_line cX3_line 3 none, Cond.fieldLink RX3 45 "SharedForksModel" "places" "[I", Cond.methodLink RX3 98 yX3_stand, Cond.instanceMethod yX3_stand, Cond.selects RX3 yX3_stand yX3_stand, Cond.code yX3_stand cX3_stand 2 none, Cond.fieldLink RX3 42 "SharedForksModel" "row" "[I", Cond.fieldLink RX3 27 "SharedForksModel" "lows" "[I", Cond.fieldLink RX3 30 "SharedForksModel" "highs" "[I", Cond.methodLink RX3 151 yX3_saysSo, Cond.instanceMethod yX3_saysSo]
def wsX3_aboutOf_r2 : List Cond := [Cond.selects RX3 yX3_saysSo yX3_saysSo, Cond.code yX3_saysSo cX3_saysSo 3 (some .boolean), Cond.methodLink RX3 73 yX3_matters, Cond.instanceMethod yX3_matters, Cond.selects RX3 yX3_matters yX3_matters, Cond.code yX3_matters cX3_matters 6 (some .boolean), Cond.constantLong RX3 56 (-1), Cond.methodLink RX3 58 yX3_yes, Cond.static yX3_yes, Cond.code yX3_yes cX3_yes 5 (some .long), Cond.methodLink RX3 102 yX3_far, Cond.instanceMethod yX3_far, Cond.selects RX3 yX3_far yX3_far, Cond.code yX3_far cX3_far 5 (some .int), Cond.methodLink RX3 106 Lib.Math.min.name, Cond.static Lib.Math.min.name, Cond.initialized "java/lang/Math", Cond.code Lib.Math.min.name Lib.Math.min.code 2 (some .int), Cond.methodLink RX3 112 Lib.Math.max.name, Cond.static Lib.Math.max.name, Cond.code Lib.Math.max.name Lib.Math.max.code 2 (some .int)]
def wsX3_aboutOf : List Cond := .code yX3_aboutOf cX3_aboutOf 5 (some .int) :: ((wsX3_aboutOf_r1 ++ wsX3_aboutOf_r2) ++ wsX30)
def wsX3_about_r1 : List Cond := [Cond.fieldLink RX3 48 "SharedForksModel" "thrown" "I", Cond.methodLink RX3 138 yX3_isFold, Cond.instanceMethod yX3_isFold, Cond.selects RX3 yX3_isFold yX3_isFold, Cond.initialized RX3, Cond.code yX3_isFold cX3_isFold 2 (some .boolean), Cond.fieldLink RX3 9 "SharedForksModel" "is" "[Z", Cond.methodLink RX3 52 yX3_isIn, Cond.static yX3_isIn, Cond.code yX3_isIn cX3_isIn 3 (some .boolean), Cond.methodLink RX3 167 yX3_aboutOf, Cond.instanceMethod yX3_aboutOf, Cond.selects RX3 yX3_aboutOf yX3_aboutOf, Cond.code yX3_aboutOf cX3_aboutOf 5 (some .int), Cond.fieldLink RX3 13 "SharedForksModel" "said" "[J", Cond.fieldLink RX3 36 "SharedForksModel" "roots" "[I", Cond.fieldLink RX3 66 "SharedForksModel" "forks" "I", Cond.fieldLink RX3 33 "SharedForksModel" "owners" "[I", Cond.methodLink RX3 161 yX3_all, Cond.instanceMethod yX3_all, Cond.selects RX3 yX3_all yX3_all, Cond.code yX3_all cX3_all 2 (some .int), Cond.fieldLink RX3 95 "SharedForksModel" "rowSize" "I", Cond.methodLink RX3 118 yX3_line]
def wsX3_about_r2 : List Cond := [Cond.instanceMethod yX3_line, Cond.selects RX3 yX3_line yX3_line, Cond.code yX3_line cX3_line 3 none, Cond.fieldLink RX3 45 "SharedForksModel" "places" "[I", Cond.methodLink RX3 98 yX3_stand, Cond.instanceMethod yX3_stand, Cond.selects RX3 yX3_stand yX3_stand, Cond.code yX3_stand cX3_stand 2 none, Cond.fieldLink RX3 42 "SharedForksModel" "row" "[I", Cond.fieldLink RX3 27 "SharedForksModel" "lows" "[I", Cond.fieldLink RX3 30 "SharedForksModel" "highs" "[I", Cond.methodLink RX3 151 yX3_saysSo, Cond.instanceMethod yX3_saysSo, Cond.selects RX3 yX3_saysSo yX3_saysSo, Cond.code yX3_saysSo cX3_saysSo 3 (some .boolean), Cond.methodLink RX3 73 yX3_matters, Cond.instanceMethod yX3_matters, Cond.selects RX3 yX3_matters yX3_matters, Cond.code yX3_matters cX3_matters 6 (some .boolean), Cond.constantLong RX3 56 (-1), Cond.methodLink RX3 58 yX3_yes, Cond.static yX3_yes, Cond.code yX3_yes cX3_yes 5 (some .long), Cond.methodLink RX3 102 yX3_far]
def wsX3_about_r3 : List Cond := [Cond.instanceMethod yX3_far, Cond.selects RX3 yX3_far yX3_far, Cond.code yX3_far cX3_far 5 (some .int), Cond.methodLink RX3 106 Lib.Math.min.name, Cond.static Lib.Math.min.name, Cond.initialized "java/lang/Math", Cond.code Lib.Math.min.name Lib.Math.min.code 2 (some .int), Cond.methodLink RX3 112 Lib.Math.max.name, Cond.static Lib.Math.max.name, Cond.code Lib.Math.max.name Lib.Math.max.code 2 (some .int), Cond.methodLink RX3 128 yX3_fail, Cond.instanceMethod yX3_fail, Cond.selects RX3 yX3_fail yX3_fail, Cond.code yX3_fail cX3_fail 2 (some .int)]
def wsX3_about : List Cond := .code yX3_about cX3_about 3 (some .int) :: ((wsX3_about_r1 ++ (wsX3_about_r2 ++ wsX3_about_r3)) ++ wsX30)
def wsX3_asked : List Cond := .code yX3_asked cX3_asked 5 (some .double) :: ([.fieldLink RX3 48 "SharedForksModel" "thrown" "I", .fieldLink RX3 36 "SharedForksModel" "roots" "[I", .fieldLink RX3 24 "SharedForksModel" "asks" "[I", .fieldLink RX3 30 "SharedForksModel" "highs" "[I", .fieldLink RX3 27 "SharedForksModel" "lows" "[I", .constantDouble RX3 170 (4643211215818981376), .methodLink RX3 138 yX3_isFold, .instanceMethod yX3_isFold, .selects RX3 yX3_isFold yX3_isFold, .initialized RX3, .code yX3_isFold cX3_isFold 2 (some .boolean), .fieldLink RX3 9 "SharedForksModel" "is" "[Z", .methodLink RX3 52 yX3_isIn, .static yX3_isIn, .code yX3_isIn cX3_isIn 3 (some .boolean)] ++ wsX30)
def wsX3_compare : List Cond := .code yX3_compare cX3_compare 14 (some .int) :: ([.fieldLink RX3 48 "SharedForksModel" "thrown" "I", .fieldLink RX3 13 "SharedForksModel" "said" "[J", .constantLong RX3 56 (-1), .methodLink RX3 138 yX3_isFold, .instanceMethod yX3_isFold, .selects RX3 yX3_isFold yX3_isFold, .initialized RX3, .code yX3_isFold cX3_isFold 2 (some .boolean), .fieldLink RX3 9 "SharedForksModel" "is" "[Z", .methodLink RX3 52 yX3_isIn, .static yX3_isIn, .code yX3_isIn cX3_isIn 3 (some .boolean), .methodLink RX3 128 yX3_fail, .instanceMethod yX3_fail, .selects RX3 yX3_fail yX3_fail, .code yX3_fail cX3_fail 2 (some .int)] ++ wsX30)
def wsX3_counted_r1 : List Cond := [Cond.fieldLink RX3 66 "SharedForksModel" "forks" "I", Cond.fieldLink RX3 9 "SharedForksModel" "is" "[Z", Cond.fieldLink RX3 24 "SharedForksModel" "asks" "[I", Cond.fieldLink RX3 17 "SharedForksModel" "order" "[I", Cond.fieldLink RX3 36 "SharedForksModel" "roots" "[I", Cond.methodLink RX3 145 yX3_folds, Cond.instanceMethod yX3_folds, Cond.selects RX3 yX3_folds yX3_folds, Cond.initialized RX3, Cond.code yX3_folds cX3_folds 6 (some .int), Cond.methodLink RX3 161 yX3_all, Cond.instanceMethod yX3_all, Cond.selects RX3 yX3_all yX3_all, Cond.code yX3_all cX3_all 2 (some .int), Cond.fieldLink RX3 95 "SharedForksModel" "rowSize" "I", Cond.methodLink RX3 118 yX3_line, Cond.instanceMethod yX3_line, Cond.selects RX3 yX3_line yX3_line, Cond.code yX3_line cX3_line 3 none, Cond.fieldLink RX3 45 "SharedForksModel" "places" "[I", Cond.methodLink RX3 98 yX3_stand, Cond.instanceMethod yX3_stand, Cond.selects RX3 yX3_stand yX3_stand, Cond.code yX3_stand cX3_stand 2 none]
def wsX3_counted_r2 : List Cond := [Cond.fieldLink RX3 42 "SharedForksModel" "row" "[I", Cond.fieldLink RX3 27 "SharedForksModel" "lows" "[I", Cond.fieldLink RX3 30 "SharedForksModel" "highs" "[I"]
def wsX3_counted : List Cond := .code yX3_counted cX3_counted 4 (some .int) :: ((wsX3_counted_r1 ++ wsX3_counted_r2) ++ wsX30)
def wsX3_count_r1 : List Cond := [Cond.fieldLink RX3 48 "SharedForksModel" "thrown" "I", Cond.methodLink RX3 52 yX3_isIn, Cond.static yX3_isIn, Cond.initialized RX3, Cond.code yX3_isIn cX3_isIn 3 (some .boolean), Cond.methodLink RX3 172 yX3_counted, Cond.instanceMethod yX3_counted, Cond.selects RX3 yX3_counted yX3_counted, Cond.code yX3_counted cX3_counted 4 (some .int), Cond.fieldLink RX3 66 "SharedForksModel" "forks" "I", Cond.fieldLink RX3 9 "SharedForksModel" "is" "[Z", Cond.fieldLink RX3 24 "SharedForksModel" "asks" "[I", Cond.fieldLink RX3 17 "SharedForksModel" "order" "[I", Cond.fieldLink RX3 36 "SharedForksModel" "roots" "[I", Cond.methodLink RX3 145 yX3_folds, Cond.instanceMethod yX3_folds, Cond.selects RX3 yX3_folds yX3_folds, Cond.code yX3_folds cX3_folds 6 (some .int), Cond.methodLink RX3 161 yX3_all, Cond.instanceMethod yX3_all, Cond.selects RX3 yX3_all yX3_all, Cond.code yX3_all cX3_all 2 (some .int), Cond.fieldLink RX3 95 "SharedForksModel" "rowSize" "I", Cond.methodLink RX3 118 yX3_line]
def wsX3_count_r2 : List Cond := [Cond.instanceMethod yX3_line, Cond.selects RX3 yX3_line yX3_line, Cond.code yX3_line cX3_line 3 none, Cond.fieldLink RX3 45 "SharedForksModel" "places" "[I", Cond.methodLink RX3 98 yX3_stand, Cond.instanceMethod yX3_stand, Cond.selects RX3 yX3_stand yX3_stand, Cond.code yX3_stand cX3_stand 2 none, Cond.fieldLink RX3 42 "SharedForksModel" "row" "[I", Cond.fieldLink RX3 27 "SharedForksModel" "lows" "[I", Cond.fieldLink RX3 30 "SharedForksModel" "highs" "[I", Cond.methodLink RX3 128 yX3_fail, Cond.instanceMethod yX3_fail, Cond.selects RX3 yX3_fail yX3_fail, Cond.code yX3_fail cX3_fail 2 (some .int)]
def wsX3_count : List Cond := .code yX3_count cX3_count 2 (some .int) :: ((wsX3_count_r1 ++ wsX3_count_r2) ++ wsX30)
def wsX3_has : List Cond := .code yX3_has cX3_has 2 (some .boolean) :: ([.fieldLink RX3 48 "SharedForksModel" "thrown" "I", .fieldLink RX3 9 "SharedForksModel" "is" "[Z", .methodLink RX3 52 yX3_isIn, .static yX3_isIn, .initialized RX3, .code yX3_isIn cX3_isIn 3 (some .boolean)] ++ wsX30)
def wsX3_advise_r1 : List Cond := [Cond.fieldLink RX3 48 "SharedForksModel" "thrown" "I", Cond.fieldLink RX3 66 "SharedForksModel" "forks" "I", Cond.methodLink RX3 148 yX3_exchange, Cond.instanceMethod yX3_exchange, Cond.selects RX3 yX3_exchange yX3_exchange, Cond.initialized RX3, Cond.code yX3_exchange cX3_exchange 3 none, Cond.fieldLink RX3 17 "SharedForksModel" "order" "[I", Cond.methodLink RX3 121 yX3_make, Cond.instanceMethod yX3_make, Cond.selects RX3 yX3_make yX3_make, Cond.code yX3_make cX3_make 2 none, Cond.fieldLink RX3 9 "SharedForksModel" "is" "[Z", Cond.fieldLink RX3 13 "SharedForksModel" "said" "[J", Cond.fieldLink RX3 39 "SharedForksModel" "work" "[J", Cond.methodLink RX3 85 arraycopyName, Cond.native arraycopyName, Cond.static arraycopyName, Cond.initialized "java/lang/System", Cond.fieldLink RX3 36 "SharedForksModel" "roots" "[I", Cond.methodLink RX3 81 yX3_fork, Cond.instanceMethod yX3_fork, Cond.selects RX3 yX3_fork yX3_fork, Cond.code yX3_fork cX3_fork 6 (some .int)]
def wsX3_advise_r2 : List Cond := [Cond.constantLong RX3 56 (-1), Cond.fieldLink RX3 21 "SharedForksModel" "bits" "[J", Cond.fieldLink RX3 24 "SharedForksModel" "asks" "[I", Cond.fieldLink RX3 27 "SharedForksModel" "lows" "[I", Cond.fieldLink RX3 30 "SharedForksModel" "highs" "[I", Cond.fieldLink RX3 33 "SharedForksModel" "owners" "[I", Cond.methodLink RX3 62 yX3_isAll, Cond.static yX3_isAll, Cond.code yX3_isAll cX3_isAll 5 (some .boolean), Cond.methodLink RX3 69 yX3_isSame, Cond.static yX3_isSame, Cond.code yX3_isSame cX3_isSame 5 (some .boolean), Cond.methodLink RX3 73 yX3_matters, Cond.instanceMethod yX3_matters, Cond.selects RX3 yX3_matters yX3_matters, Cond.code yX3_matters cX3_matters 6 (some .boolean), Cond.methodLink RX3 58 yX3_yes, Cond.static yX3_yes, Cond.code yX3_yes cX3_yes 5 (some .long), Cond.methodLink RX3 77 yX3_give, Cond.static yX3_give, Cond.code yX3_give cX3_give 12 none, Cond.methodLink RX3 91 yX3_own, Cond.instanceMethod yX3_own]
def wsX3_advise_r3 : List Cond := [Cond.selects RX3 yX3_own yX3_own, Cond.code yX3_own cX3_own 3 none]
def wsX3_advise : List Cond := .code yX3_advise cX3_advise 5 (some .int) :: ((wsX3_advise_r1 ++ (wsX3_advise_r2 ++ wsX3_advise_r3)) ++ wsX30)
def wsX3_would_r1 : List Cond := [Cond.fieldLink RX3 48 "SharedForksModel" "thrown" "I", Cond.fieldLink RX3 39 "SharedForksModel" "work" "[J", Cond.fieldLink RX3 13 "SharedForksModel" "said" "[J", Cond.fieldLink RX3 66 "SharedForksModel" "forks" "I", Cond.fieldLink RX3 95 "SharedForksModel" "rowSize" "I", Cond.methodLink RX3 138 yX3_isFold, Cond.instanceMethod yX3_isFold, Cond.selects RX3 yX3_isFold yX3_isFold, Cond.initialized RX3, Cond.code yX3_isFold cX3_isFold 2 (some .boolean), Cond.fieldLink RX3 9 "SharedForksModel" "is" "[Z", Cond.methodLink RX3 52 yX3_isIn, Cond.static yX3_isIn, Cond.code yX3_isIn cX3_isIn 3 (some .boolean), Cond.methodLink RX3 128 yX3_fail, Cond.instanceMethod yX3_fail, Cond.selects RX3 yX3_fail yX3_fail, Cond.code yX3_fail cX3_fail 2 (some .int), Cond.methodLink RX3 141 yX3_joined, Cond.static yX3_joined, Cond.code yX3_joined cX3_joined 5 (some .long), Cond.constantLong RX3 56 (-1), Cond.methodLink RX3 81 yX3_fork, Cond.instanceMethod yX3_fork]
def wsX3_would_r2 : List Cond := [Cond.selects RX3 yX3_fork yX3_fork, Cond.code yX3_fork cX3_fork 6 (some .int), Cond.fieldLink RX3 21 "SharedForksModel" "bits" "[J", Cond.fieldLink RX3 17 "SharedForksModel" "order" "[I", Cond.methodLink RX3 85 arraycopyName, Cond.native arraycopyName, Cond.static arraycopyName, Cond.initialized "java/lang/System", Cond.fieldLink RX3 24 "SharedForksModel" "asks" "[I", Cond.fieldLink RX3 27 "SharedForksModel" "lows" "[I", Cond.fieldLink RX3 30 "SharedForksModel" "highs" "[I", Cond.fieldLink RX3 33 "SharedForksModel" "owners" "[I", Cond.methodLink RX3 62 yX3_isAll, Cond.static yX3_isAll, Cond.code yX3_isAll cX3_isAll 5 (some .boolean), Cond.methodLink RX3 69 yX3_isSame, Cond.static yX3_isSame, Cond.code yX3_isSame cX3_isSame 5 (some .boolean), Cond.methodLink RX3 73 yX3_matters, Cond.instanceMethod yX3_matters, Cond.selects RX3 yX3_matters yX3_matters, Cond.code yX3_matters cX3_matters 6 (some .boolean), Cond.methodLink RX3 58 yX3_yes, Cond.static yX3_yes]
def wsX3_would_r3 : List Cond := [Cond.code yX3_yes cX3_yes 5 (some .long), Cond.methodLink RX3 77 yX3_give, Cond.static yX3_give, Cond.code yX3_give cX3_give 12 none, Cond.methodLink RX3 118 yX3_line, Cond.instanceMethod yX3_line, Cond.selects RX3 yX3_line yX3_line, Cond.code yX3_line cX3_line 3 none, Cond.fieldLink RX3 45 "SharedForksModel" "places" "[I", Cond.methodLink RX3 98 yX3_stand, Cond.instanceMethod yX3_stand, Cond.selects RX3 yX3_stand yX3_stand, Cond.code yX3_stand cX3_stand 2 none, Cond.fieldLink RX3 42 "SharedForksModel" "row" "[I"]
def wsX3_would : List Cond := .code yX3_would cX3_would 6 (some .int) :: ((wsX3_would_r1 ++ (wsX3_would_r2 ++ wsX3_would_r3)) ++ wsX30)
def wsX3_mean_r1 : List Cond := [Cond.fieldLink RX3 48 "SharedForksModel" "thrown" "I", Cond.methodLink RX3 145 yX3_folds, Cond.instanceMethod yX3_folds, Cond.selects RX3 yX3_folds yX3_folds, Cond.initialized RX3, Cond.code yX3_folds cX3_folds 6 (some .int), Cond.fieldLink RX3 9 "SharedForksModel" "is" "[Z", Cond.methodLink RX3 172 yX3_counted, Cond.instanceMethod yX3_counted, Cond.selects RX3 yX3_counted yX3_counted, Cond.code yX3_counted cX3_counted 4 (some .int), Cond.fieldLink RX3 66 "SharedForksModel" "forks" "I", Cond.fieldLink RX3 24 "SharedForksModel" "asks" "[I", Cond.fieldLink RX3 17 "SharedForksModel" "order" "[I", Cond.fieldLink RX3 36 "SharedForksModel" "roots" "[I", Cond.methodLink RX3 161 yX3_all, Cond.instanceMethod yX3_all, Cond.selects RX3 yX3_all yX3_all, Cond.code yX3_all cX3_all 2 (some .int), Cond.fieldLink RX3 95 "SharedForksModel" "rowSize" "I", Cond.methodLink RX3 118 yX3_line, Cond.instanceMethod yX3_line, Cond.selects RX3 yX3_line yX3_line, Cond.code yX3_line cX3_line 3 none]
def wsX3_mean_r2 : List Cond := [Cond.fieldLink RX3 45 "SharedForksModel" "places" "[I", Cond.methodLink RX3 98 yX3_stand, Cond.instanceMethod yX3_stand, Cond.selects RX3 yX3_stand yX3_stand, Cond.code yX3_stand cX3_stand 2 none, Cond.fieldLink RX3 42 "SharedForksModel" "row" "[I", Cond.fieldLink RX3 27 "SharedForksModel" "lows" "[I", Cond.fieldLink RX3 30 "SharedForksModel" "highs" "[I"]
def wsX3_mean : List Cond := .code yX3_mean cX3_mean 2 (some .double) :: ((wsX3_mean_r1 ++ wsX3_mean_r2) ++ wsX30)
def wsX3_digest_r1 : List Cond := [Cond.fieldLink RX3 48 "SharedForksModel" "thrown" "I", Cond.constantLong RX3 175 (1709), Cond.constantLong RX3 177 (31), Cond.fieldLink RX3 17 "SharedForksModel" "order" "[I", Cond.fieldLink RX3 9 "SharedForksModel" "is" "[Z", Cond.fieldLink RX3 42 "SharedForksModel" "row" "[I", Cond.methodLink RX3 172 yX3_counted, Cond.instanceMethod yX3_counted, Cond.selects RX3 yX3_counted yX3_counted, Cond.initialized RX3, Cond.code yX3_counted cX3_counted 4 (some .int), Cond.fieldLink RX3 66 "SharedForksModel" "forks" "I", Cond.fieldLink RX3 24 "SharedForksModel" "asks" "[I", Cond.fieldLink RX3 36 "SharedForksModel" "roots" "[I", Cond.methodLink RX3 145 yX3_folds, Cond.instanceMethod yX3_folds, Cond.selects RX3 yX3_folds yX3_folds, Cond.code yX3_folds cX3_folds 6 (some .int), Cond.methodLink RX3 161 yX3_all, Cond.instanceMethod yX3_all, Cond.selects RX3 yX3_all yX3_all, Cond.code yX3_all cX3_all 2 (some .int), Cond.fieldLink RX3 95 "SharedForksModel" "rowSize" "I", Cond.methodLink RX3 118 yX3_line]
def wsX3_digest_r2 : List Cond := [Cond.instanceMethod yX3_line, Cond.selects RX3 yX3_line yX3_line, Cond.code yX3_line cX3_line 3 none, Cond.fieldLink RX3 45 "SharedForksModel" "places" "[I", Cond.methodLink RX3 98 yX3_stand, Cond.instanceMethod yX3_stand, Cond.selects RX3 yX3_stand yX3_stand, Cond.code yX3_stand cX3_stand 2 none, Cond.fieldLink RX3 27 "SharedForksModel" "lows" "[I", Cond.fieldLink RX3 30 "SharedForksModel" "highs" "[I", Cond.methodLink RX3 167 yX3_aboutOf, Cond.instanceMethod yX3_aboutOf, Cond.selects RX3 yX3_aboutOf yX3_aboutOf, Cond.code yX3_aboutOf cX3_aboutOf 5 (some .int), Cond.fieldLink RX3 13 "SharedForksModel" "said" "[J", Cond.fieldLink RX3 33 "SharedForksModel" "owners" "[I", Cond.methodLink RX3 151 yX3_saysSo, Cond.instanceMethod yX3_saysSo, Cond.selects RX3 yX3_saysSo yX3_saysSo, Cond.code yX3_saysSo cX3_saysSo 3 (some .boolean), Cond.methodLink RX3 73 yX3_matters, Cond.instanceMethod yX3_matters, Cond.selects RX3 yX3_matters yX3_matters, Cond.code yX3_matters cX3_matters 6 (some .boolean)]
def wsX3_digest_r3 : List Cond := [Cond.constantLong RX3 56 (-1), Cond.methodLink RX3 58 yX3_yes, Cond.static yX3_yes, Cond.code yX3_yes cX3_yes 5 (some .long), Cond.methodLink RX3 102 yX3_far, Cond.instanceMethod yX3_far, Cond.selects RX3 yX3_far yX3_far, Cond.code yX3_far cX3_far 5 (some .int), Cond.methodLink RX3 106 Lib.Math.min.name, Cond.static Lib.Math.min.name, Cond.initialized "java/lang/Math", Cond.code Lib.Math.min.name Lib.Math.min.code 2 (some .int), Cond.methodLink RX3 112 Lib.Math.max.name, Cond.static Lib.Math.max.name, Cond.code Lib.Math.max.name Lib.Math.max.code 2 (some .int), Cond.methodLink RX3 164 yX3_forkTold, Cond.instanceMethod yX3_forkTold, Cond.selects RX3 yX3_forkTold yX3_forkTold, Cond.code yX3_forkTold cX3_forkTold 3 (some .int), Cond.methodLink RX3 115 yX3_placeOf, Cond.instanceMethod yX3_placeOf, Cond.selects RX3 yX3_placeOf yX3_placeOf, Cond.code yX3_placeOf cX3_placeOf 2 (some .int), Cond.methodLink RX3 155 yX3_ahead]
def wsX3_digest_r4 : List Cond := [Cond.instanceMethod yX3_ahead, Cond.selects RX3 yX3_ahead yX3_ahead, Cond.code yX3_ahead cX3_ahead 7 (some .int), Cond.arrayClass .int, Cond.methodLink RX3 158 yX3_many, Cond.static yX3_many, Cond.code yX3_many cX3_many 3 (some .int)]
def wsX3_digest : List Cond := .code yX3_digest cX3_digest 7 (some .long) :: ((wsX3_digest_r1 ++ (wsX3_digest_r2 ++ (wsX3_digest_r3 ++ wsX3_digest_r4))) ++ wsX30)
def wsJ9_max_7cf53 : List Cond := .code yJ9_max_7cf53 cJ9_max_7cf53 2 (some .int) :: ([])
def wsJ9_min_7cf53 : List Cond := .code yJ9_min_7cf53 cJ9_min_7cf53 2 (some .int) :: ([])
def wsL_leaf_r1 : List Cond := [Cond.classLink RL 13 "java/lang/IllegalStateException", Cond.methodLink RL 7 yX2_leaf, Cond.instanceMethod yX2_leaf, Cond.selects RX2 yX2_leaf yX2_leaf, Cond.initialized RX2, Cond.code yX2_leaf cX2_leaf 5 (some .int), Cond.fieldLink RX2 11 "SharedForks" "folds" "[LSharedForks$Fold;", Cond.methodLink RX2 37 yX2_freeNumber, Cond.instanceMethod yX2_freeNumber, Cond.selects RX2 yX2_freeNumber yX2_freeNumber, Cond.code yX2_freeNumber cX2_freeNumber 2 (some .int), Cond.classLink RX2 139 "java/lang/IllegalStateException", Cond.initialized "java/lang/IllegalStateException", Cond.methodLink RX2 44 yX2_keep, Cond.instanceMethod yX2_keep, Cond.selects RX2 yX2_keep yX2_keep, Cond.code yX2_keep cX2_keep 2 (some .int), Cond.methodLink RX2 72 yX2_layAll, Cond.instanceMethod yX2_layAll, Cond.selects RX2 yX2_layAll yX2_layAll, Cond.code yX2_layAll cX2_layAll 3 none, Cond.fieldLink RX2 22 "SharedForks" "forks" "LSharedForks$Forks;", Cond.fieldLink RX2 15 "SharedForks" "questionAt" "[I", Cond.instanceMethod yX1_startOver]
def wsL_leaf_r2 : List Cond := [Cond.initialized RX1, Cond.selects RX1 yX1_startOver yX1_startOver, Cond.code yX1_startOver cX1_startOver 3 none, Cond.fieldLink RX1 39 "SharedForks$Forks" "size" "I", Cond.fieldLink RX1 24 "SharedForks$Forks" "slots" "[I", Cond.fieldLink RX1 27 "SharedForks$Forks" "questionAt" "[I", Cond.methodLink RX1 49 arraycopyName, Cond.native arraycopyName, Cond.static arraycopyName, Cond.initialized "java/lang/System", Cond.fieldLink RX1 30 "SharedForks$Forks" "answersOfWay" "[I", Cond.methodLink RX1 43 yJ7_fill_53178, Cond.static yJ7_fill_53178, Cond.initialized RJ7, Cond.code yJ7_fill_53178 cJ7_fill_53178 4 none, Cond.methodLink RX1 55 yX1_answersOf, Cond.instanceMethod yX1_answersOf, Cond.selects RX1 yX1_answersOf yX1_answersOf, Cond.code yX1_answersOf cX1_answersOf 5 (some .int), Cond.instanceMethod yX1_lay, Cond.selects RX1 yX1_lay yX1_lay, Cond.code yX1_lay cX1_lay 4 (some .int), Cond.fieldLink RX1 33 "SharedForks$Forks" "partOfWay" "[I", Cond.methodLink RX1 59 yX1_part]
def wsL_leaf_r3 : List Cond := [Cond.instanceMethod yX1_part, Cond.selects RX1 yX1_part yX1_part, Cond.code yX1_part cX1_part 8 (some .int), Cond.fieldLink RX1 9 "SharedForks$Forks" "question" "[I", Cond.fieldLink RX1 15 "SharedForks$Forks" "low" "[I", Cond.fieldLink RX1 18 "SharedForks$Forks" "high" "[I", Cond.methodLink RX1 63 yX1_make, Cond.instanceMethod yX1_make, Cond.selects RX1 yX1_make yX1_make, Cond.code yX1_make cX1_make 6 (some .int), Cond.fieldLink RX1 21 "SharedForks$Forks" "owners" "[I", Cond.instanceMethod yX1_putInRow, Cond.selects RX1 yX1_putInRow yX1_putInRow, Cond.code yX1_putInRow cX1_putInRow 5 none, Cond.fieldLink RX1 36 "SharedForks$Forks" "placeOf" "[I", Cond.methodLink RX1 70 yX1_walk, Cond.static yX1_walk, Cond.code yX1_walk cX1_walk 6 none, Cond.methodLink RX1 89 yX1_putLast, Cond.instanceMethod yX1_putLast, Cond.selects RX1 yX1_putLast yX1_putLast, Cond.code yX1_putLast cX1_putLast 4 (some .int), Cond.methodLink RX1 80 yX1_placeOrLeaf, Cond.instanceMethod yX1_placeOrLeaf]
def wsL_leaf_r4 : List Cond := [Cond.selects RX1 yX1_placeOrLeaf yX1_placeOrLeaf, Cond.code yX1_placeOrLeaf cX1_placeOrLeaf 2 (some .int)]
def wsL_leaf : List Cond := .codeWith yL_leaf cL_leaf 4 (some .int) [(0, 9, 12, 13)] :: ((wsL_leaf_r1 ++ (wsL_leaf_r2 ++ (wsL_leaf_r3 ++ wsL_leaf_r4))) ++ wsX20 ++ wsX00 ++ wsX10 ++ (vx_atS RX2 143 "java/lang/IllegalStateException" ["java/lang/RuntimeException", "java/lang/Exception"]).filter goodWord)
def wsL_ask_r1 : List Cond := [Cond.classLink RL 19 "java/lang/IndexOutOfBoundsException", Cond.classLink RL 13 "java/lang/IllegalStateException", Cond.methodLink RL 15 yX2_ask, Cond.instanceMethod yX2_ask, Cond.selects RX2 yX2_ask yX2_ask, Cond.initialized RX2, Cond.code yX2_ask cX2_ask 5 (some .int), Cond.fieldLink RX2 11 "SharedForks" "folds" "[LSharedForks$Fold;", Cond.methodLink RX2 48 yX2_checkBelow, Cond.static yX2_checkBelow, Cond.code yX2_checkBelow cX2_checkBelow 2 none, Cond.classLink RX2 132 "java/lang/IndexOutOfBoundsException", Cond.initialized "java/lang/IndexOutOfBoundsException", Cond.methodLink RX2 37 yX2_freeNumber, Cond.instanceMethod yX2_freeNumber, Cond.selects RX2 yX2_freeNumber yX2_freeNumber, Cond.code yX2_freeNumber cX2_freeNumber 2 (some .int), Cond.classLink RX2 139 "java/lang/IllegalStateException", Cond.initialized "java/lang/IllegalStateException", Cond.methodLink RX2 52 yX2_isYes, Cond.static yX2_isYes, Cond.code yX2_isYes cX2_isYes 2 (some .boolean), Cond.methodLink RX2 44 yX2_keep, Cond.instanceMethod yX2_keep]
def wsL_ask_r2 : List Cond := [Cond.selects RX2 yX2_keep yX2_keep, Cond.code yX2_keep cX2_keep 2 (some .int), Cond.methodLink RX2 72 yX2_layAll, Cond.instanceMethod yX2_layAll, Cond.selects RX2 yX2_layAll yX2_layAll, Cond.code yX2_layAll cX2_layAll 3 none, Cond.fieldLink RX2 22 "SharedForks" "forks" "LSharedForks$Forks;", Cond.fieldLink RX2 15 "SharedForks" "questionAt" "[I", Cond.instanceMethod yX1_startOver, Cond.initialized RX1, Cond.selects RX1 yX1_startOver yX1_startOver, Cond.code yX1_startOver cX1_startOver 3 none, Cond.fieldLink RX1 39 "SharedForks$Forks" "size" "I", Cond.fieldLink RX1 24 "SharedForks$Forks" "slots" "[I", Cond.fieldLink RX1 27 "SharedForks$Forks" "questionAt" "[I", Cond.methodLink RX1 49 arraycopyName, Cond.native arraycopyName, Cond.static arraycopyName, Cond.initialized "java/lang/System", Cond.fieldLink RX1 30 "SharedForks$Forks" "answersOfWay" "[I", Cond.methodLink RX1 43 yJ7_fill_53178, Cond.static yJ7_fill_53178, Cond.initialized RJ7, Cond.code yJ7_fill_53178 cJ7_fill_53178 4 none]
def wsL_ask_r3 : List Cond := [Cond.methodLink RX1 55 yX1_answersOf, Cond.instanceMethod yX1_answersOf, Cond.selects RX1 yX1_answersOf yX1_answersOf, Cond.code yX1_answersOf cX1_answersOf 5 (some .int), Cond.instanceMethod yX1_lay, Cond.selects RX1 yX1_lay yX1_lay, Cond.code yX1_lay cX1_lay 4 (some .int), Cond.fieldLink RX1 33 "SharedForks$Forks" "partOfWay" "[I", Cond.methodLink RX1 59 yX1_part, Cond.instanceMethod yX1_part, Cond.selects RX1 yX1_part yX1_part, Cond.code yX1_part cX1_part 8 (some .int), Cond.fieldLink RX1 9 "SharedForks$Forks" "question" "[I", Cond.fieldLink RX1 15 "SharedForks$Forks" "low" "[I", Cond.fieldLink RX1 18 "SharedForks$Forks" "high" "[I", Cond.methodLink RX1 63 yX1_make, Cond.instanceMethod yX1_make, Cond.selects RX1 yX1_make yX1_make, Cond.code yX1_make cX1_make 6 (some .int), Cond.fieldLink RX1 21 "SharedForks$Forks" "owners" "[I", Cond.instanceMethod yX1_putInRow, Cond.selects RX1 yX1_putInRow yX1_putInRow, Cond.code yX1_putInRow cX1_putInRow 5 none, Cond.fieldLink RX1 36 "SharedForks$Forks" "placeOf" "[I"]
def wsL_ask_r4 : List Cond := [Cond.methodLink RX1 70 yX1_walk, Cond.static yX1_walk, Cond.code yX1_walk cX1_walk 6 none, Cond.methodLink RX1 89 yX1_putLast, Cond.instanceMethod yX1_putLast, Cond.selects RX1 yX1_putLast yX1_putLast, Cond.code yX1_putLast cX1_putLast 4 (some .int), Cond.methodLink RX1 80 yX1_placeOrLeaf, Cond.instanceMethod yX1_placeOrLeaf, Cond.selects RX1 yX1_placeOrLeaf yX1_placeOrLeaf, Cond.code yX1_placeOrLeaf cX1_placeOrLeaf 2 (some .int)]
def wsL_ask : List Cond := .codeWith yL_ask cL_ask 4 (some .int) [(0, 9, 12, 19), (0, 9, 15, 13)] :: ((wsL_ask_r1 ++ (wsL_ask_r2 ++ (wsL_ask_r3 ++ wsL_ask_r4))) ++ wsX20 ++ wsX00 ++ wsX10 ++ (vx_atS RX2 136 "java/lang/IndexOutOfBoundsException" ["java/lang/RuntimeException", "java/lang/Exception"]).filter goodWord ++ (vx_atS RX2 143 "java/lang/IllegalStateException" ["java/lang/RuntimeException", "java/lang/Exception"]).filter goodWord)
def wsL_join_r1 : List Cond := [Cond.classLink RL 19 "java/lang/IndexOutOfBoundsException", Cond.classLink RL 13 "java/lang/IllegalStateException", Cond.methodLink RL 21 yX2_join, Cond.instanceMethod yX2_join, Cond.selects RX2 yX2_join yX2_join, Cond.initialized RX2, Cond.code yX2_join cX2_join 7 (some .int), Cond.fieldLink RX2 11 "SharedForks" "folds" "[LSharedForks$Fold;", Cond.methodLink RX2 56 yX2_foldAt, Cond.instanceMethod yX2_foldAt, Cond.selects RX2 yX2_foldAt yX2_foldAt, Cond.code yX2_foldAt cX2_foldAt 2 (some (.object "SharedForks$Fold")), Cond.classLink RX2 132 "java/lang/IndexOutOfBoundsException", Cond.initialized "java/lang/IndexOutOfBoundsException", Cond.methodLink RX2 48 yX2_checkBelow, Cond.static yX2_checkBelow, Cond.code yX2_checkBelow cX2_checkBelow 2 none, Cond.methodLink RX2 37 yX2_freeNumber, Cond.instanceMethod yX2_freeNumber, Cond.selects RX2 yX2_freeNumber yX2_freeNumber, Cond.code yX2_freeNumber cX2_freeNumber 2 (some .int), Cond.classLink RX2 139 "java/lang/IllegalStateException", Cond.initialized "java/lang/IllegalStateException", Cond.methodLink RX2 60 yX2_sayJoined]
def wsL_join_r2 : List Cond := [Cond.static yX2_sayJoined, Cond.code yX2_sayJoined cX2_sayJoined 5 none, Cond.methodLink RX2 154 yX2_joined, Cond.static yX2_joined, Cond.code yX2_joined cX2_joined 3 (some .boolean), Cond.methodLink RX2 44 yX2_keep, Cond.instanceMethod yX2_keep, Cond.selects RX2 yX2_keep yX2_keep, Cond.code yX2_keep cX2_keep 2 (some .int), Cond.methodLink RX2 72 yX2_layAll, Cond.instanceMethod yX2_layAll, Cond.selects RX2 yX2_layAll yX2_layAll, Cond.code yX2_layAll cX2_layAll 3 none, Cond.fieldLink RX2 22 "SharedForks" "forks" "LSharedForks$Forks;", Cond.fieldLink RX2 15 "SharedForks" "questionAt" "[I", Cond.instanceMethod yX1_startOver, Cond.initialized RX1, Cond.selects RX1 yX1_startOver yX1_startOver, Cond.code yX1_startOver cX1_startOver 3 none, Cond.fieldLink RX1 39 "SharedForks$Forks" "size" "I", Cond.fieldLink RX1 24 "SharedForks$Forks" "slots" "[I", Cond.fieldLink RX1 27 "SharedForks$Forks" "questionAt" "[I", Cond.methodLink RX1 49 arraycopyName, Cond.native arraycopyName]
def wsL_join_r3 : List Cond := [Cond.static arraycopyName, Cond.initialized "java/lang/System", Cond.fieldLink RX1 30 "SharedForks$Forks" "answersOfWay" "[I", Cond.methodLink RX1 43 yJ7_fill_53178, Cond.static yJ7_fill_53178, Cond.initialized RJ7, Cond.code yJ7_fill_53178 cJ7_fill_53178 4 none, Cond.methodLink RX1 55 yX1_answersOf, Cond.instanceMethod yX1_answersOf, Cond.selects RX1 yX1_answersOf yX1_answersOf, Cond.code yX1_answersOf cX1_answersOf 5 (some .int), Cond.instanceMethod yX1_lay, Cond.selects RX1 yX1_lay yX1_lay, Cond.code yX1_lay cX1_lay 4 (some .int), Cond.fieldLink RX1 33 "SharedForks$Forks" "partOfWay" "[I", Cond.methodLink RX1 59 yX1_part, Cond.instanceMethod yX1_part, Cond.selects RX1 yX1_part yX1_part, Cond.code yX1_part cX1_part 8 (some .int), Cond.fieldLink RX1 9 "SharedForks$Forks" "question" "[I", Cond.fieldLink RX1 15 "SharedForks$Forks" "low" "[I", Cond.fieldLink RX1 18 "SharedForks$Forks" "high" "[I", Cond.methodLink RX1 63 yX1_make, Cond.instanceMethod yX1_make]
def wsL_join_r4 : List Cond := [Cond.selects RX1 yX1_make yX1_make, Cond.code yX1_make cX1_make 6 (some .int), Cond.fieldLink RX1 21 "SharedForks$Forks" "owners" "[I", Cond.instanceMethod yX1_putInRow, Cond.selects RX1 yX1_putInRow yX1_putInRow, Cond.code yX1_putInRow cX1_putInRow 5 none, Cond.fieldLink RX1 36 "SharedForks$Forks" "placeOf" "[I", Cond.methodLink RX1 70 yX1_walk, Cond.static yX1_walk, Cond.code yX1_walk cX1_walk 6 none, Cond.methodLink RX1 89 yX1_putLast, Cond.instanceMethod yX1_putLast, Cond.selects RX1 yX1_putLast yX1_putLast, Cond.code yX1_putLast cX1_putLast 4 (some .int), Cond.methodLink RX1 80 yX1_placeOrLeaf, Cond.instanceMethod yX1_placeOrLeaf, Cond.selects RX1 yX1_placeOrLeaf yX1_placeOrLeaf, Cond.code yX1_placeOrLeaf cX1_placeOrLeaf 2 (some .int)]
def wsL_join : List Cond := .codeWith yL_join cL_join 6 (some .int) [(0, 12, 15, 19), (0, 12, 19, 13)] :: ((wsL_join_r1 ++ (wsL_join_r2 ++ (wsL_join_r3 ++ wsL_join_r4))) ++ wsX20 ++ wsX00 ++ wsX10 ++ (vx_atS RX2 136 "java/lang/IndexOutOfBoundsException" ["java/lang/RuntimeException", "java/lang/Exception"]).filter goodWord ++ (vx_atS RX2 143 "java/lang/IllegalStateException" ["java/lang/RuntimeException", "java/lang/Exception"]).filter goodWord)
def wsL_choose_r1 : List Cond := [Cond.classLink RL 19 "java/lang/IndexOutOfBoundsException", Cond.classLink RL 13 "java/lang/IllegalStateException", Cond.methodLink RL 25 yX2_choose, Cond.instanceMethod yX2_choose, Cond.selects RX2 yX2_choose yX2_choose, Cond.initialized RX2, Cond.code yX2_choose cX2_choose 10 (some .int), Cond.fieldLink RX2 11 "SharedForks" "folds" "[LSharedForks$Fold;", Cond.methodLink RX2 56 yX2_foldAt, Cond.instanceMethod yX2_foldAt, Cond.selects RX2 yX2_foldAt yX2_foldAt, Cond.code yX2_foldAt cX2_foldAt 2 (some (.object "SharedForks$Fold")), Cond.classLink RX2 132 "java/lang/IndexOutOfBoundsException", Cond.initialized "java/lang/IndexOutOfBoundsException", Cond.methodLink RX2 37 yX2_freeNumber, Cond.instanceMethod yX2_freeNumber, Cond.selects RX2 yX2_freeNumber yX2_freeNumber, Cond.code yX2_freeNumber cX2_freeNumber 2 (some .int), Cond.classLink RX2 139 "java/lang/IllegalStateException", Cond.initialized "java/lang/IllegalStateException", Cond.methodLink RX2 44 yX2_keep, Cond.instanceMethod yX2_keep, Cond.selects RX2 yX2_keep yX2_keep, Cond.code yX2_keep cX2_keep 2 (some .int)]
def wsL_choose_r2 : List Cond := [Cond.methodLink RX2 72 yX2_layAll, Cond.instanceMethod yX2_layAll, Cond.selects RX2 yX2_layAll yX2_layAll, Cond.code yX2_layAll cX2_layAll 3 none, Cond.fieldLink RX2 22 "SharedForks" "forks" "LSharedForks$Forks;", Cond.fieldLink RX2 15 "SharedForks" "questionAt" "[I", Cond.instanceMethod yX1_startOver, Cond.initialized RX1, Cond.selects RX1 yX1_startOver yX1_startOver, Cond.code yX1_startOver cX1_startOver 3 none, Cond.fieldLink RX1 39 "SharedForks$Forks" "size" "I", Cond.fieldLink RX1 24 "SharedForks$Forks" "slots" "[I", Cond.fieldLink RX1 27 "SharedForks$Forks" "questionAt" "[I", Cond.methodLink RX1 49 arraycopyName, Cond.native arraycopyName, Cond.static arraycopyName, Cond.initialized "java/lang/System", Cond.fieldLink RX1 30 "SharedForks$Forks" "answersOfWay" "[I", Cond.methodLink RX1 43 yJ7_fill_53178, Cond.static yJ7_fill_53178, Cond.initialized RJ7, Cond.code yJ7_fill_53178 cJ7_fill_53178 4 none, Cond.methodLink RX1 55 yX1_answersOf, Cond.instanceMethod yX1_answersOf]
def wsL_choose_r3 : List Cond := [Cond.selects RX1 yX1_answersOf yX1_answersOf, Cond.code yX1_answersOf cX1_answersOf 5 (some .int), Cond.instanceMethod yX1_lay, Cond.selects RX1 yX1_lay yX1_lay, Cond.code yX1_lay cX1_lay 4 (some .int), Cond.fieldLink RX1 33 "SharedForks$Forks" "partOfWay" "[I", Cond.methodLink RX1 59 yX1_part, Cond.instanceMethod yX1_part, Cond.selects RX1 yX1_part yX1_part, Cond.code yX1_part cX1_part 8 (some .int), Cond.fieldLink RX1 9 "SharedForks$Forks" "question" "[I", Cond.fieldLink RX1 15 "SharedForks$Forks" "low" "[I", Cond.fieldLink RX1 18 "SharedForks$Forks" "high" "[I", Cond.methodLink RX1 63 yX1_make, Cond.instanceMethod yX1_make, Cond.selects RX1 yX1_make yX1_make, Cond.code yX1_make cX1_make 6 (some .int), Cond.fieldLink RX1 21 "SharedForks$Forks" "owners" "[I", Cond.instanceMethod yX1_putInRow, Cond.selects RX1 yX1_putInRow yX1_putInRow, Cond.code yX1_putInRow cX1_putInRow 5 none, Cond.fieldLink RX1 36 "SharedForks$Forks" "placeOf" "[I", Cond.methodLink RX1 70 yX1_walk, Cond.static yX1_walk]
def wsL_choose_r4 : List Cond := [Cond.code yX1_walk cX1_walk 6 none, Cond.methodLink RX1 89 yX1_putLast, Cond.instanceMethod yX1_putLast, Cond.selects RX1 yX1_putLast yX1_putLast, Cond.code yX1_putLast cX1_putLast 4 (some .int), Cond.methodLink RX1 80 yX1_placeOrLeaf, Cond.instanceMethod yX1_placeOrLeaf, Cond.selects RX1 yX1_placeOrLeaf yX1_placeOrLeaf, Cond.code yX1_placeOrLeaf cX1_placeOrLeaf 2 (some .int)]
def wsL_choose : List Cond := .codeWith yL_choose cL_choose 6 (some .int) [(0, 12, 15, 19), (0, 12, 19, 13)] :: ((wsL_choose_r1 ++ (wsL_choose_r2 ++ (wsL_choose_r3 ++ wsL_choose_r4))) ++ wsX20 ++ wsX00 ++ wsX10 ++ (vx_atS RX2 136 "java/lang/IndexOutOfBoundsException" ["java/lang/RuntimeException", "java/lang/Exception"]).filter goodWord ++ (vx_atS RX2 143 "java/lang/IllegalStateException" ["java/lang/RuntimeException", "java/lang/Exception"]).filter goodWord)
def wsL_given_r1 : List Cond := [Cond.classLink RL 19 "java/lang/IndexOutOfBoundsException", Cond.classLink RL 13 "java/lang/IllegalStateException", Cond.methodLink RL 28 yX2_given, Cond.instanceMethod yX2_given, Cond.selects RX2 yX2_given yX2_given, Cond.initialized RX2, Cond.code yX2_given cX2_given 8 (some .int), Cond.fieldLink RX2 11 "SharedForks" "folds" "[LSharedForks$Fold;", Cond.methodLink RX2 56 yX2_foldAt, Cond.instanceMethod yX2_foldAt, Cond.selects RX2 yX2_foldAt yX2_foldAt, Cond.code yX2_foldAt cX2_foldAt 2 (some (.object "SharedForks$Fold")), Cond.classLink RX2 132 "java/lang/IndexOutOfBoundsException", Cond.initialized "java/lang/IndexOutOfBoundsException", Cond.methodLink RX2 48 yX2_checkBelow, Cond.static yX2_checkBelow, Cond.code yX2_checkBelow cX2_checkBelow 2 none, Cond.methodLink RX2 37 yX2_freeNumber, Cond.instanceMethod yX2_freeNumber, Cond.selects RX2 yX2_freeNumber yX2_freeNumber, Cond.code yX2_freeNumber cX2_freeNumber 2 (some .int), Cond.classLink RX2 139 "java/lang/IllegalStateException", Cond.initialized "java/lang/IllegalStateException", Cond.methodLink RX2 64 yX2_withAnswer]
def wsL_given_r2 : List Cond := [Cond.static yX2_withAnswer, Cond.code yX2_withAnswer cX2_withAnswer 4 (some .int), Cond.methodLink RX2 44 yX2_keep, Cond.instanceMethod yX2_keep, Cond.selects RX2 yX2_keep yX2_keep, Cond.code yX2_keep cX2_keep 2 (some .int), Cond.methodLink RX2 72 yX2_layAll, Cond.instanceMethod yX2_layAll, Cond.selects RX2 yX2_layAll yX2_layAll, Cond.code yX2_layAll cX2_layAll 3 none, Cond.fieldLink RX2 22 "SharedForks" "forks" "LSharedForks$Forks;", Cond.fieldLink RX2 15 "SharedForks" "questionAt" "[I", Cond.instanceMethod yX1_startOver, Cond.initialized RX1, Cond.selects RX1 yX1_startOver yX1_startOver, Cond.code yX1_startOver cX1_startOver 3 none, Cond.fieldLink RX1 39 "SharedForks$Forks" "size" "I", Cond.fieldLink RX1 24 "SharedForks$Forks" "slots" "[I", Cond.fieldLink RX1 27 "SharedForks$Forks" "questionAt" "[I", Cond.methodLink RX1 49 arraycopyName, Cond.native arraycopyName, Cond.static arraycopyName, Cond.initialized "java/lang/System", Cond.fieldLink RX1 30 "SharedForks$Forks" "answersOfWay" "[I"]
def wsL_given_r3 : List Cond := [Cond.methodLink RX1 43 yJ7_fill_53178, Cond.static yJ7_fill_53178, Cond.initialized RJ7, Cond.code yJ7_fill_53178 cJ7_fill_53178 4 none, Cond.methodLink RX1 55 yX1_answersOf, Cond.instanceMethod yX1_answersOf, Cond.selects RX1 yX1_answersOf yX1_answersOf, Cond.code yX1_answersOf cX1_answersOf 5 (some .int), Cond.instanceMethod yX1_lay, Cond.selects RX1 yX1_lay yX1_lay, Cond.code yX1_lay cX1_lay 4 (some .int), Cond.fieldLink RX1 33 "SharedForks$Forks" "partOfWay" "[I", Cond.methodLink RX1 59 yX1_part, Cond.instanceMethod yX1_part, Cond.selects RX1 yX1_part yX1_part, Cond.code yX1_part cX1_part 8 (some .int), Cond.fieldLink RX1 9 "SharedForks$Forks" "question" "[I", Cond.fieldLink RX1 15 "SharedForks$Forks" "low" "[I", Cond.fieldLink RX1 18 "SharedForks$Forks" "high" "[I", Cond.methodLink RX1 63 yX1_make, Cond.instanceMethod yX1_make, Cond.selects RX1 yX1_make yX1_make, Cond.code yX1_make cX1_make 6 (some .int), Cond.fieldLink RX1 21 "SharedForks$Forks" "owners" "[I"]
def wsL_given_r4 : List Cond := [Cond.instanceMethod yX1_putInRow, Cond.selects RX1 yX1_putInRow yX1_putInRow, Cond.code yX1_putInRow cX1_putInRow 5 none, Cond.fieldLink RX1 36 "SharedForks$Forks" "placeOf" "[I", Cond.methodLink RX1 70 yX1_walk, Cond.static yX1_walk, Cond.code yX1_walk cX1_walk 6 none, Cond.methodLink RX1 89 yX1_putLast, Cond.instanceMethod yX1_putLast, Cond.selects RX1 yX1_putLast yX1_putLast, Cond.code yX1_putLast cX1_putLast 4 (some .int), Cond.methodLink RX1 80 yX1_placeOrLeaf, Cond.instanceMethod yX1_placeOrLeaf, Cond.selects RX1 yX1_placeOrLeaf yX1_placeOrLeaf, Cond.code yX1_placeOrLeaf cX1_placeOrLeaf 2 (some .int)]
def wsL_given : List Cond := .codeWith yL_given cL_given 6 (some .int) [(0, 12, 15, 19), (0, 12, 19, 13)] :: ((wsL_given_r1 ++ (wsL_given_r2 ++ (wsL_given_r3 ++ wsL_given_r4))) ++ wsX20 ++ wsX00 ++ wsX10 ++ (vx_atS RX2 136 "java/lang/IndexOutOfBoundsException" ["java/lang/RuntimeException", "java/lang/Exception"]).filter goodWord ++ (vx_atS RX2 143 "java/lang/IllegalStateException" ["java/lang/RuntimeException", "java/lang/Exception"]).filter goodWord)
def wsL_without_r1 : List Cond := [Cond.classLink RL 19 "java/lang/IndexOutOfBoundsException", Cond.classLink RL 13 "java/lang/IllegalStateException", Cond.methodLink RL 32 yX2_without, Cond.instanceMethod yX2_without, Cond.selects RX2 yX2_without yX2_without, Cond.initialized RX2, Cond.code yX2_without cX2_without 10 (some .int), Cond.fieldLink RX2 11 "SharedForks" "folds" "[LSharedForks$Fold;", Cond.methodLink RX2 56 yX2_foldAt, Cond.instanceMethod yX2_foldAt, Cond.selects RX2 yX2_foldAt yX2_foldAt, Cond.code yX2_foldAt cX2_foldAt 2 (some (.object "SharedForks$Fold")), Cond.classLink RX2 132 "java/lang/IndexOutOfBoundsException", Cond.initialized "java/lang/IndexOutOfBoundsException", Cond.methodLink RX2 48 yX2_checkBelow, Cond.static yX2_checkBelow, Cond.code yX2_checkBelow cX2_checkBelow 2 none, Cond.methodLink RX2 37 yX2_freeNumber, Cond.instanceMethod yX2_freeNumber, Cond.selects RX2 yX2_freeNumber yX2_freeNumber, Cond.code yX2_freeNumber cX2_freeNumber 2 (some .int), Cond.classLink RX2 139 "java/lang/IllegalStateException", Cond.initialized "java/lang/IllegalStateException", Cond.methodLink RX2 64 yX2_withAnswer]
def wsL_without_r2 : List Cond := [Cond.static yX2_withAnswer, Cond.code yX2_withAnswer cX2_withAnswer 4 (some .int), Cond.methodLink RX2 44 yX2_keep, Cond.instanceMethod yX2_keep, Cond.selects RX2 yX2_keep yX2_keep, Cond.code yX2_keep cX2_keep 2 (some .int), Cond.methodLink RX2 72 yX2_layAll, Cond.instanceMethod yX2_layAll, Cond.selects RX2 yX2_layAll yX2_layAll, Cond.code yX2_layAll cX2_layAll 3 none, Cond.fieldLink RX2 22 "SharedForks" "forks" "LSharedForks$Forks;", Cond.fieldLink RX2 15 "SharedForks" "questionAt" "[I", Cond.instanceMethod yX1_startOver, Cond.initialized RX1, Cond.selects RX1 yX1_startOver yX1_startOver, Cond.code yX1_startOver cX1_startOver 3 none, Cond.fieldLink RX1 39 "SharedForks$Forks" "size" "I", Cond.fieldLink RX1 24 "SharedForks$Forks" "slots" "[I", Cond.fieldLink RX1 27 "SharedForks$Forks" "questionAt" "[I", Cond.methodLink RX1 49 arraycopyName, Cond.native arraycopyName, Cond.static arraycopyName, Cond.initialized "java/lang/System", Cond.fieldLink RX1 30 "SharedForks$Forks" "answersOfWay" "[I"]
def wsL_without_r3 : List Cond := [Cond.methodLink RX1 43 yJ7_fill_53178, Cond.static yJ7_fill_53178, Cond.initialized RJ7, Cond.code yJ7_fill_53178 cJ7_fill_53178 4 none, Cond.methodLink RX1 55 yX1_answersOf, Cond.instanceMethod yX1_answersOf, Cond.selects RX1 yX1_answersOf yX1_answersOf, Cond.code yX1_answersOf cX1_answersOf 5 (some .int), Cond.instanceMethod yX1_lay, Cond.selects RX1 yX1_lay yX1_lay, Cond.code yX1_lay cX1_lay 4 (some .int), Cond.fieldLink RX1 33 "SharedForks$Forks" "partOfWay" "[I", Cond.methodLink RX1 59 yX1_part, Cond.instanceMethod yX1_part, Cond.selects RX1 yX1_part yX1_part, Cond.code yX1_part cX1_part 8 (some .int), Cond.fieldLink RX1 9 "SharedForks$Forks" "question" "[I", Cond.fieldLink RX1 15 "SharedForks$Forks" "low" "[I", Cond.fieldLink RX1 18 "SharedForks$Forks" "high" "[I", Cond.methodLink RX1 63 yX1_make, Cond.instanceMethod yX1_make, Cond.selects RX1 yX1_make yX1_make, Cond.code yX1_make cX1_make 6 (some .int), Cond.fieldLink RX1 21 "SharedForks$Forks" "owners" "[I"]
def wsL_without_r4 : List Cond := [Cond.instanceMethod yX1_putInRow, Cond.selects RX1 yX1_putInRow yX1_putInRow, Cond.code yX1_putInRow cX1_putInRow 5 none, Cond.fieldLink RX1 36 "SharedForks$Forks" "placeOf" "[I", Cond.methodLink RX1 70 yX1_walk, Cond.static yX1_walk, Cond.code yX1_walk cX1_walk 6 none, Cond.methodLink RX1 89 yX1_putLast, Cond.instanceMethod yX1_putLast, Cond.selects RX1 yX1_putLast yX1_putLast, Cond.code yX1_putLast cX1_putLast 4 (some .int), Cond.methodLink RX1 80 yX1_placeOrLeaf, Cond.instanceMethod yX1_placeOrLeaf, Cond.selects RX1 yX1_placeOrLeaf yX1_placeOrLeaf, Cond.code yX1_placeOrLeaf cX1_placeOrLeaf 2 (some .int)]
def wsL_without : List Cond := .codeWith yL_without cL_without 6 (some .int) [(0, 12, 15, 19), (0, 12, 19, 13)] :: ((wsL_without_r1 ++ (wsL_without_r2 ++ (wsL_without_r3 ++ wsL_without_r4))) ++ wsX20 ++ wsX00 ++ wsX10 ++ (vx_atS RX2 136 "java/lang/IndexOutOfBoundsException" ["java/lang/RuntimeException", "java/lang/Exception"]).filter goodWord ++ (vx_atS RX2 143 "java/lang/IllegalStateException" ["java/lang/RuntimeException", "java/lang/Exception"]).filter goodWord)
def wsL_drop_r1 : List Cond := [Cond.classLink RL 19 "java/lang/IndexOutOfBoundsException", Cond.methodLink RL 35 yX2_drop, Cond.instanceMethod yX2_drop, Cond.selects RX2 yX2_drop yX2_drop, Cond.initialized RX2, Cond.code yX2_drop cX2_drop 2 (some .int), Cond.methodLink RX2 56 yX2_foldAt, Cond.instanceMethod yX2_foldAt, Cond.selects RX2 yX2_foldAt yX2_foldAt, Cond.code yX2_foldAt cX2_foldAt 2 (some (.object "SharedForks$Fold")), Cond.classLink RX2 132 "java/lang/IndexOutOfBoundsException", Cond.initialized "java/lang/IndexOutOfBoundsException", Cond.fieldLink RX2 11 "SharedForks" "folds" "[LSharedForks$Fold;", Cond.methodLink RX2 72 yX2_layAll, Cond.instanceMethod yX2_layAll, Cond.selects RX2 yX2_layAll yX2_layAll, Cond.code yX2_layAll cX2_layAll 3 none, Cond.fieldLink RX2 22 "SharedForks" "forks" "LSharedForks$Forks;", Cond.fieldLink RX2 15 "SharedForks" "questionAt" "[I", Cond.instanceMethod yX1_startOver, Cond.initialized RX1, Cond.selects RX1 yX1_startOver yX1_startOver, Cond.code yX1_startOver cX1_startOver 3 none, Cond.fieldLink RX1 39 "SharedForks$Forks" "size" "I"]
def wsL_drop_r2 : List Cond := [Cond.fieldLink RX1 24 "SharedForks$Forks" "slots" "[I", Cond.fieldLink RX1 27 "SharedForks$Forks" "questionAt" "[I", Cond.methodLink RX1 49 arraycopyName, Cond.native arraycopyName, Cond.static arraycopyName, Cond.initialized "java/lang/System", Cond.fieldLink RX1 30 "SharedForks$Forks" "answersOfWay" "[I", Cond.methodLink RX1 43 yJ7_fill_53178, Cond.static yJ7_fill_53178, Cond.initialized RJ7, Cond.code yJ7_fill_53178 cJ7_fill_53178 4 none, Cond.methodLink RX1 55 yX1_answersOf, Cond.instanceMethod yX1_answersOf, Cond.selects RX1 yX1_answersOf yX1_answersOf, Cond.code yX1_answersOf cX1_answersOf 5 (some .int), Cond.instanceMethod yX1_lay, Cond.selects RX1 yX1_lay yX1_lay, Cond.code yX1_lay cX1_lay 4 (some .int), Cond.fieldLink RX1 33 "SharedForks$Forks" "partOfWay" "[I", Cond.methodLink RX1 59 yX1_part, Cond.instanceMethod yX1_part, Cond.selects RX1 yX1_part yX1_part, Cond.code yX1_part cX1_part 8 (some .int), Cond.fieldLink RX1 9 "SharedForks$Forks" "question" "[I"]
def wsL_drop_r3 : List Cond := [Cond.fieldLink RX1 15 "SharedForks$Forks" "low" "[I", Cond.fieldLink RX1 18 "SharedForks$Forks" "high" "[I", Cond.methodLink RX1 63 yX1_make, Cond.instanceMethod yX1_make, Cond.selects RX1 yX1_make yX1_make, Cond.code yX1_make cX1_make 6 (some .int), Cond.fieldLink RX1 21 "SharedForks$Forks" "owners" "[I", Cond.instanceMethod yX1_putInRow, Cond.selects RX1 yX1_putInRow yX1_putInRow, Cond.code yX1_putInRow cX1_putInRow 5 none, Cond.fieldLink RX1 36 "SharedForks$Forks" "placeOf" "[I", Cond.methodLink RX1 70 yX1_walk, Cond.static yX1_walk, Cond.code yX1_walk cX1_walk 6 none, Cond.methodLink RX1 89 yX1_putLast, Cond.instanceMethod yX1_putLast, Cond.selects RX1 yX1_putLast yX1_putLast, Cond.code yX1_putLast cX1_putLast 4 (some .int), Cond.methodLink RX1 80 yX1_placeOrLeaf, Cond.instanceMethod yX1_placeOrLeaf, Cond.selects RX1 yX1_placeOrLeaf yX1_placeOrLeaf, Cond.code yX1_placeOrLeaf cX1_placeOrLeaf 2 (some .int), Cond.methodLink RX2 75 yX2_countKept, Cond.instanceMethod yX2_countKept]
def wsL_drop_r4 : List Cond := [Cond.selects RX2 yX2_countKept yX2_countKept, Cond.code yX2_countKept cX2_countKept 3 (some .int)]
def wsL_drop : List Cond := .codeWith yL_drop cL_drop 4 (some .int) [(0, 9, 12, 19)] :: ((wsL_drop_r1 ++ (wsL_drop_r2 ++ (wsL_drop_r3 ++ wsL_drop_r4))) ++ wsX00 ++ wsX20 ++ wsX10 ++ (vx_atS RX2 136 "java/lang/IndexOutOfBoundsException" ["java/lang/RuntimeException", "java/lang/Exception"]).filter goodWord)
def wsL_swap_r1 : List Cond := [Cond.classLink RL 19 "java/lang/IndexOutOfBoundsException", Cond.methodLink RL 38 yX2_swap, Cond.instanceMethod yX2_swap, Cond.selects RX2 yX2_swap yX2_swap, Cond.initialized RX2, Cond.code yX2_swap cX2_swap 2 (some .int), Cond.fieldLink RX2 15 "SharedForks" "questionAt" "[I", Cond.fieldLink RX2 22 "SharedForks" "forks" "LSharedForks$Forks;", Cond.methodLink RX2 48 yX2_checkBelow, Cond.static yX2_checkBelow, Cond.code yX2_checkBelow cX2_checkBelow 2 none, Cond.classLink RX2 132 "java/lang/IndexOutOfBoundsException", Cond.initialized "java/lang/IndexOutOfBoundsException", Cond.methodLink RX2 78 yX2_exchange, Cond.static yX2_exchange, Cond.code yX2_exchange cX2_exchange 3 none, Cond.methodLink RX2 72 yX2_layAll, Cond.instanceMethod yX2_layAll, Cond.selects RX2 yX2_layAll yX2_layAll, Cond.code yX2_layAll cX2_layAll 3 none, Cond.fieldLink RX2 11 "SharedForks" "folds" "[LSharedForks$Fold;", Cond.instanceMethod yX1_startOver, Cond.initialized RX1, Cond.selects RX1 yX1_startOver yX1_startOver]
def wsL_swap_r2 : List Cond := [Cond.code yX1_startOver cX1_startOver 3 none, Cond.fieldLink RX1 39 "SharedForks$Forks" "size" "I", Cond.fieldLink RX1 24 "SharedForks$Forks" "slots" "[I", Cond.fieldLink RX1 27 "SharedForks$Forks" "questionAt" "[I", Cond.methodLink RX1 49 arraycopyName, Cond.native arraycopyName, Cond.static arraycopyName, Cond.initialized "java/lang/System", Cond.fieldLink RX1 30 "SharedForks$Forks" "answersOfWay" "[I", Cond.methodLink RX1 43 yJ7_fill_53178, Cond.static yJ7_fill_53178, Cond.initialized RJ7, Cond.code yJ7_fill_53178 cJ7_fill_53178 4 none, Cond.methodLink RX1 55 yX1_answersOf, Cond.instanceMethod yX1_answersOf, Cond.selects RX1 yX1_answersOf yX1_answersOf, Cond.code yX1_answersOf cX1_answersOf 5 (some .int), Cond.instanceMethod yX1_lay, Cond.selects RX1 yX1_lay yX1_lay, Cond.code yX1_lay cX1_lay 4 (some .int), Cond.fieldLink RX1 33 "SharedForks$Forks" "partOfWay" "[I", Cond.methodLink RX1 59 yX1_part, Cond.instanceMethod yX1_part, Cond.selects RX1 yX1_part yX1_part]
def wsL_swap_r3 : List Cond := [Cond.code yX1_part cX1_part 8 (some .int), Cond.fieldLink RX1 9 "SharedForks$Forks" "question" "[I", Cond.fieldLink RX1 15 "SharedForks$Forks" "low" "[I", Cond.fieldLink RX1 18 "SharedForks$Forks" "high" "[I", Cond.methodLink RX1 63 yX1_make, Cond.instanceMethod yX1_make, Cond.selects RX1 yX1_make yX1_make, Cond.code yX1_make cX1_make 6 (some .int), Cond.fieldLink RX1 21 "SharedForks$Forks" "owners" "[I", Cond.instanceMethod yX1_putInRow, Cond.selects RX1 yX1_putInRow yX1_putInRow, Cond.code yX1_putInRow cX1_putInRow 5 none, Cond.fieldLink RX1 36 "SharedForks$Forks" "placeOf" "[I", Cond.methodLink RX1 70 yX1_walk, Cond.static yX1_walk, Cond.code yX1_walk cX1_walk 6 none, Cond.methodLink RX1 89 yX1_putLast, Cond.instanceMethod yX1_putLast, Cond.selects RX1 yX1_putLast yX1_putLast, Cond.code yX1_putLast cX1_putLast 4 (some .int), Cond.methodLink RX1 80 yX1_placeOrLeaf, Cond.instanceMethod yX1_placeOrLeaf, Cond.selects RX1 yX1_placeOrLeaf yX1_placeOrLeaf, Cond.code yX1_placeOrLeaf cX1_placeOrLeaf 2 (some .int)]
def wsL_swap : List Cond := .codeWith yL_swap cL_swap 4 (some .int) [(0, 9, 12, 19)] :: ((wsL_swap_r1 ++ (wsL_swap_r2 ++ wsL_swap_r3)) ++ wsX20 ++ wsX10 ++ wsX00 ++ (vx_atS RX2 136 "java/lang/IndexOutOfBoundsException" ["java/lang/RuntimeException", "java/lang/Exception"]).filter goodWord)
def wsL_order : List Cond := .codeWith yL_order cL_order 4 (some .int) [(0, 9, 12, 19)] :: ([.classLink RL 19 "java/lang/IndexOutOfBoundsException", .methodLink RL 41 yX2_order, .instanceMethod yX2_order, .selects RX2 yX2_order yX2_order, .initialized RX2, .code yX2_order cX2_order 2 (some .int), .fieldLink RX2 15 "SharedForks" "questionAt" "[I", .methodLink RX2 48 yX2_checkBelow, .static yX2_checkBelow, .code yX2_checkBelow cX2_checkBelow 2 none, .classLink RX2 132 "java/lang/IndexOutOfBoundsException", .initialized "java/lang/IndexOutOfBoundsException"] ++ wsX20 ++ (vx_atS RX2 136 "java/lang/IndexOutOfBoundsException" ["java/lang/RuntimeException", "java/lang/Exception"]).filter goodWord)
def wsL_says : List Cond := .codeWith yL_says cL_says 5 (some .int) [(0, 17, 20, 19), (0, 17, 24, 48)] :: ([.classLink RL 19 "java/lang/IndexOutOfBoundsException", .classLink RL 48 "java/lang/IllegalArgumentException", .methodLink RL 44 yX2_says, .instanceMethod yX2_says, .selects RX2 yX2_says yX2_says, .initialized RX2, .code yX2_says cX2_says 4 (some .boolean), .classLink RX2 86 "java/lang/IllegalArgumentException", .initialized "java/lang/IllegalArgumentException", .methodLink RX2 56 yX2_foldAt, .instanceMethod yX2_foldAt, .selects RX2 yX2_foldAt yX2_foldAt, .code yX2_foldAt cX2_foldAt 2 (some (.object "SharedForks$Fold")), .classLink RX2 132 "java/lang/IndexOutOfBoundsException", .initialized "java/lang/IndexOutOfBoundsException", .fieldLink RX2 11 "SharedForks" "folds" "[LSharedForks$Fold;"] ++ wsX00 ++ wsX20 ++ (vx_atS RX2 90 "java/lang/IllegalArgumentException" ["java/lang/RuntimeException", "java/lang/Exception"]).filter goodWord ++ (vx_atS RX2 136 "java/lang/IndexOutOfBoundsException" ["java/lang/RuntimeException", "java/lang/Exception"]).filter goodWord)
def wsL_fork : List Cond := .codeWith yL_fork cL_fork 6 (some .int) [(0, 12, 15, 19)] :: ([.classLink RL 19 "java/lang/IndexOutOfBoundsException", .methodLink RL 50 yX2_fork, .instanceMethod yX2_fork, .selects RX2 yX2_fork yX2_fork, .initialized RX2, .code yX2_fork cX2_fork 5 (some .int), .methodLink RX2 56 yX2_foldAt, .instanceMethod yX2_foldAt, .selects RX2 yX2_foldAt yX2_foldAt, .code yX2_foldAt cX2_foldAt 2 (some (.object "SharedForks$Fold")), .classLink RX2 132 "java/lang/IndexOutOfBoundsException", .initialized "java/lang/IndexOutOfBoundsException", .fieldLink RX2 11 "SharedForks" "folds" "[LSharedForks$Fold;", .methodLink RX2 48 yX2_checkBelow, .static yX2_checkBelow, .code yX2_checkBelow cX2_checkBelow 2 none, .methodLink RX2 94 yX2_tellFork, .instanceMethod yX2_tellFork, .selects RX2 yX2_tellFork yX2_tellFork, .code yX2_tellFork cX2_tellFork 5 (some .int), .fieldLink RX2 22 "SharedForks" "forks" "LSharedForks$Forks;"] ++ wsX00 ++ wsX20 ++ wsX10 ++ (vx_atS RX2 136 "java/lang/IndexOutOfBoundsException" ["java/lang/RuntimeException", "java/lang/Exception"]).filter goodWord)
def wsL_about_r1 : List Cond := [Cond.classLink RL 19 "java/lang/IndexOutOfBoundsException", Cond.methodLink RL 53 yX2_about, Cond.instanceMethod yX2_about, Cond.selects RX2 yX2_about yX2_about, Cond.initialized RX2, Cond.code yX2_about cX2_about 4 (some .int), Cond.methodLink RX2 56 yX2_foldAt, Cond.instanceMethod yX2_foldAt, Cond.selects RX2 yX2_foldAt yX2_foldAt, Cond.code yX2_foldAt cX2_foldAt 2 (some (.object "SharedForks$Fold")), Cond.classLink RX2 132 "java/lang/IndexOutOfBoundsException", Cond.initialized "java/lang/IndexOutOfBoundsException", Cond.fieldLink RX2 11 "SharedForks" "folds" "[LSharedForks$Fold;", Cond.methodLink RX2 48 yX2_checkBelow, Cond.static yX2_checkBelow, Cond.code yX2_checkBelow cX2_checkBelow 2 none, Cond.methodLink RX2 98 yX2_tellFold, Cond.instanceMethod yX2_tellFold, Cond.selects RX2 yX2_tellFold yX2_tellFold, Cond.code yX2_tellFold cX2_tellFold 3 (some .int), Cond.methodLink RX2 176 yX2_countYes, Cond.static yX2_countYes, Cond.code yX2_countYes cX2_countYes 3 (some .int), Cond.methodLink RX2 180 yX2_questionsThatMatter]
def wsL_about_r2 : List Cond := [Cond.instanceMethod yX2_questionsThatMatter, Cond.selects RX2 yX2_questionsThatMatter yX2_questionsThatMatter, Cond.code yX2_questionsThatMatter cX2_questionsThatMatter 4 (some .int), Cond.fieldLink RX2 22 "SharedForks" "forks" "LSharedForks$Forks;", Cond.methodLink RX2 183 yX2_leastAsked, Cond.instanceMethod yX2_leastAsked, Cond.selects RX2 yX2_leastAsked yX2_leastAsked, Cond.code yX2_leastAsked cX2_leastAsked 4 (some .int), Cond.methodLink RX2 204 Lib.Math.min.name, Cond.static Lib.Math.min.name, Cond.initialized "java/lang/Math", Cond.code Lib.Math.min.name Lib.Math.min.code 2 (some .int), Cond.methodLink RX2 102 yX2_countAsked, Cond.instanceMethod yX2_countAsked, Cond.selects RX2 yX2_countAsked yX2_countAsked, Cond.code yX2_countAsked cX2_countAsked 6 (some .int), Cond.methodLink RX2 52 yX2_isYes, Cond.static yX2_isYes, Cond.code yX2_isYes cX2_isYes 2 (some .boolean), Cond.methodLink RX2 186 yX2_mostAsked, Cond.instanceMethod yX2_mostAsked, Cond.selects RX2 yX2_mostAsked yX2_mostAsked, Cond.code yX2_mostAsked cX2_mostAsked 4 (some .int), Cond.methodLink RX2 210 Lib.Math.max.name]
def wsL_about_r3 : List Cond := [Cond.static Lib.Math.max.name, Cond.code Lib.Math.max.name Lib.Math.max.code 2 (some .int), Cond.methodLink RX2 189 yX2_smallestYes, Cond.static yX2_smallestYes, Cond.code yX2_smallestYes cX2_smallestYes 2 (some .int), Cond.methodLink RX2 192 yX2_greatestYes, Cond.static yX2_greatestYes, Cond.code yX2_greatestYes cX2_greatestYes 2 (some .int), Cond.methodLink RX2 195 yX2_countOwnForks, Cond.instanceMethod yX2_countOwnForks, Cond.selects RX2 yX2_countOwnForks yX2_countOwnForks, Cond.code yX2_countOwnForks cX2_countOwnForks 4 (some .int)]
def wsL_about : List Cond := .codeWith yL_about cL_about 5 (some .int) [(0, 10, 13, 19)] :: ((wsL_about_r1 ++ (wsL_about_r2 ++ wsL_about_r3)) ++ wsX20 ++ wsX00 ++ wsX10 ++ (vx_atS RX2 136 "java/lang/IndexOutOfBoundsException" ["java/lang/RuntimeException", "java/lang/Exception"]).filter goodWord)
def wsL_asked : List Cond := .codeWith yL_asked cL_asked 4 (some .int) [(0, 8, 11, 19)] :: ([.classLink RL 19 "java/lang/IndexOutOfBoundsException", .methodLink RL 57 yX2_asked, .instanceMethod yX2_asked, .selects RX2 yX2_asked yX2_asked, .initialized RX2, .code yX2_asked cX2_asked 5 (some .double), .constantDouble RX2 105 (4643211215818981376), .methodLink RX2 56 yX2_foldAt, .instanceMethod yX2_foldAt, .selects RX2 yX2_foldAt yX2_foldAt, .code yX2_foldAt cX2_foldAt 2 (some (.object "SharedForks$Fold")), .classLink RX2 132 "java/lang/IndexOutOfBoundsException", .initialized "java/lang/IndexOutOfBoundsException", .fieldLink RX2 11 "SharedForks" "folds" "[LSharedForks$Fold;", .methodLink RX2 102 yX2_countAsked, .instanceMethod yX2_countAsked, .selects RX2 yX2_countAsked yX2_countAsked, .code yX2_countAsked cX2_countAsked 6 (some .int), .fieldLink RX2 22 "SharedForks" "forks" "LSharedForks$Forks;", .methodLink RX2 52 yX2_isYes, .static yX2_isYes, .code yX2_isYes cX2_isYes 2 (some .boolean)] ++ wsX20 ++ wsX00 ++ wsX10 ++ (vx_atS RX2 136 "java/lang/IndexOutOfBoundsException" ["java/lang/RuntimeException", "java/lang/Exception"]).filter goodWord)
def wsL_compare : List Cond := .codeWith yL_compare cL_compare 5 (some .int) [(0, 10, 13, 19)] :: ([.classLink RL 19 "java/lang/IndexOutOfBoundsException", .methodLink RL 61 yX2_compare, .instanceMethod yX2_compare, .selects RX2 yX2_compare yX2_compare, .initialized RX2, .code yX2_compare cX2_compare 11 (some .int), .methodLink RX2 56 yX2_foldAt, .instanceMethod yX2_foldAt, .selects RX2 yX2_foldAt yX2_foldAt, .code yX2_foldAt cX2_foldAt 2 (some (.object "SharedForks$Fold")), .classLink RX2 132 "java/lang/IndexOutOfBoundsException", .initialized "java/lang/IndexOutOfBoundsException", .fieldLink RX2 11 "SharedForks" "folds" "[LSharedForks$Fold;"] ++ wsX00 ++ wsX20 ++ (vx_atS RX2 136 "java/lang/IndexOutOfBoundsException" ["java/lang/RuntimeException", "java/lang/Exception"]).filter goodWord)
def wsL_count_r1 : List Cond := [Cond.classLink RL 19 "java/lang/IndexOutOfBoundsException", Cond.methodLink RL 64 yX2_count, Cond.instanceMethod yX2_count, Cond.selects RX2 yX2_count yX2_count, Cond.initialized RX2, Cond.code yX2_count cX2_count 2 (some .int), Cond.methodLink RX2 48 yX2_checkBelow, Cond.static yX2_checkBelow, Cond.code yX2_checkBelow cX2_checkBelow 2 none, Cond.classLink RX2 132 "java/lang/IndexOutOfBoundsException", Cond.initialized "java/lang/IndexOutOfBoundsException", Cond.methodLink RX2 107 yX2_tellCount, Cond.instanceMethod yX2_tellCount, Cond.selects RX2 yX2_tellCount yX2_tellCount, Cond.code yX2_tellCount cX2_tellCount 2 (some .int), Cond.fieldLink RX2 22 "SharedForks" "forks" "LSharedForks$Forks;", Cond.methodLink RX2 75 yX2_countKept, Cond.instanceMethod yX2_countKept, Cond.selects RX2 yX2_countKept yX2_countKept, Cond.code yX2_countKept cX2_countKept 3 (some .int), Cond.fieldLink RX2 11 "SharedForks" "folds" "[LSharedForks$Fold;", Cond.methodLink RX2 121 yX2_addForks, Cond.instanceMethod yX2_addForks, Cond.selects RX2 yX2_addForks yX2_addForks]
def wsL_count_r2 : List Cond := [Cond.code yX2_addForks cX2_addForks 3 (some .int), Cond.methodLink RX2 198 yX2_countForksAtFirstPlace, Cond.instanceMethod yX2_countForksAtFirstPlace, Cond.selects RX2 yX2_countForksAtFirstPlace yX2_countForksAtFirstPlace, Cond.code yX2_countForksAtFirstPlace cX2_countForksAtFirstPlace 3 (some .int), Cond.fieldLink RX2 15 "SharedForks" "questionAt" "[I", Cond.methodLink RX2 201 yX2_countLeaves, Cond.instanceMethod yX2_countLeaves, Cond.selects RX2 yX2_countLeaves yX2_countLeaves, Cond.code yX2_countLeaves cX2_countLeaves 3 (some .int)]
def wsL_count : List Cond := .codeWith yL_count cL_count 4 (some .int) [(0, 9, 12, 19)] :: ((wsL_count_r1 ++ wsL_count_r2) ++ wsX20 ++ wsX10 ++ wsX00 ++ (vx_atS RX2 136 "java/lang/IndexOutOfBoundsException" ["java/lang/RuntimeException", "java/lang/Exception"]).filter goodWord)
def wsL_has : List Cond := .codeWith yL_has cL_has 4 (some .int) [(0, 16, 19, 19)] :: ([.classLink RL 19 "java/lang/IndexOutOfBoundsException", .methodLink RL 67 yX2_has, .instanceMethod yX2_has, .selects RX2 yX2_has yX2_has, .initialized RX2, .code yX2_has cX2_has 2 (some .boolean), .fieldLink RX2 11 "SharedForks" "folds" "[LSharedForks$Fold;", .methodLink RX2 48 yX2_checkBelow, .static yX2_checkBelow, .code yX2_checkBelow cX2_checkBelow 2 none, .classLink RX2 132 "java/lang/IndexOutOfBoundsException", .initialized "java/lang/IndexOutOfBoundsException"] ++ wsX20 ++ wsX00 ++ (vx_atS RX2 136 "java/lang/IndexOutOfBoundsException" ["java/lang/RuntimeException", "java/lang/Exception"]).filter goodWord)
def wsL_would_r1 : List Cond := [Cond.classLink RL 19 "java/lang/IndexOutOfBoundsException", Cond.methodLink RL 71 yX2_would, Cond.instanceMethod yX2_would, Cond.selects RX2 yX2_would yX2_would, Cond.initialized RX2, Cond.code yX2_would cX2_would 6 (some .int), Cond.fieldLink RX2 26 "SharedForks" "triedYes" "[Z", Cond.fieldLink RX2 33 "SharedForks" "triedForks" "LSharedForks$Forks;", Cond.fieldLink RX2 15 "SharedForks" "questionAt" "[I", Cond.methodLink RX2 56 yX2_foldAt, Cond.instanceMethod yX2_foldAt, Cond.selects RX2 yX2_foldAt yX2_foldAt, Cond.code yX2_foldAt cX2_foldAt 2 (some (.object "SharedForks$Fold")), Cond.classLink RX2 132 "java/lang/IndexOutOfBoundsException", Cond.initialized "java/lang/IndexOutOfBoundsException", Cond.fieldLink RX2 11 "SharedForks" "folds" "[LSharedForks$Fold;", Cond.methodLink RX2 48 yX2_checkBelow, Cond.static yX2_checkBelow, Cond.code yX2_checkBelow cX2_checkBelow 2 none, Cond.methodLink RX2 60 yX2_sayJoined, Cond.static yX2_sayJoined, Cond.code yX2_sayJoined cX2_sayJoined 5 none, Cond.methodLink RX2 154 yX2_joined, Cond.static yX2_joined]
def wsL_would_r2 : List Cond := [Cond.code yX2_joined cX2_joined 3 (some .boolean), Cond.instanceMethod yX1_startOver, Cond.initialized RX1, Cond.selects RX1 yX1_startOver yX1_startOver, Cond.code yX1_startOver cX1_startOver 3 none, Cond.fieldLink RX1 39 "SharedForks$Forks" "size" "I", Cond.fieldLink RX1 24 "SharedForks$Forks" "slots" "[I", Cond.fieldLink RX1 27 "SharedForks$Forks" "questionAt" "[I", Cond.methodLink RX1 49 arraycopyName, Cond.native arraycopyName, Cond.static arraycopyName, Cond.initialized "java/lang/System", Cond.fieldLink RX1 30 "SharedForks$Forks" "answersOfWay" "[I", Cond.methodLink RX1 43 yJ7_fill_53178, Cond.static yJ7_fill_53178, Cond.initialized RJ7, Cond.code yJ7_fill_53178 cJ7_fill_53178 4 none, Cond.methodLink RX1 55 yX1_answersOf, Cond.instanceMethod yX1_answersOf, Cond.selects RX1 yX1_answersOf yX1_answersOf, Cond.code yX1_answersOf cX1_answersOf 5 (some .int), Cond.instanceMethod yX1_lay, Cond.selects RX1 yX1_lay yX1_lay, Cond.code yX1_lay cX1_lay 4 (some .int)]
def wsL_would_r3 : List Cond := [Cond.fieldLink RX1 33 "SharedForks$Forks" "partOfWay" "[I", Cond.methodLink RX1 59 yX1_part, Cond.instanceMethod yX1_part, Cond.selects RX1 yX1_part yX1_part, Cond.code yX1_part cX1_part 8 (some .int), Cond.fieldLink RX1 9 "SharedForks$Forks" "question" "[I", Cond.fieldLink RX1 15 "SharedForks$Forks" "low" "[I", Cond.fieldLink RX1 18 "SharedForks$Forks" "high" "[I", Cond.methodLink RX1 63 yX1_make, Cond.instanceMethod yX1_make, Cond.selects RX1 yX1_make yX1_make, Cond.code yX1_make cX1_make 6 (some .int), Cond.fieldLink RX1 21 "SharedForks$Forks" "owners" "[I"]
def wsL_would : List Cond := .codeWith yL_would cL_would 6 (some .int) [(0, 12, 15, 19)] :: ((wsL_would_r1 ++ (wsL_would_r2 ++ wsL_would_r3)) ++ wsX20 ++ wsX10 ++ wsX00 ++ (vx_atS RX2 136 "java/lang/IndexOutOfBoundsException" ["java/lang/RuntimeException", "java/lang/Exception"]).filter goodWord)
def wsL_law0_r1 : List Cond := [Cond.classLink RL 8 RX2, Cond.instantiable RX2 6, Cond.initialized RX2, Cond.classLink RL 75 RX3, Cond.instantiable RX3 15, Cond.initialized RX3, Cond.arrayClass .long, Cond.arrayClass .double, Cond.methodLink RL 74 yX2_init, Cond.instanceMethod yX2_init, Cond.code yX2_init cX2_init 2 none, Cond.methodLink RX2 1 objectInit, Cond.instanceMethod objectInit, Cond.code objectInit ⟨#[0xb1]⟩ 1 none, Cond.classLink RX2 9 RX0, Cond.fieldLink RX2 11 "SharedForks" "folds" "[LSharedForks$Fold;", Cond.arrayClass .int, Cond.fieldLink RX2 15 "SharedForks" "questionAt" "[I", Cond.classLink RX2 19 RX1, Cond.instantiable RX1 10, Cond.initialized RX1, Cond.fieldLink RX2 22 "SharedForks" "forks" "LSharedForks$Forks;", Cond.arrayClass .boolean, Cond.fieldLink RX2 26 "SharedForks" "triedYes" "[Z"]
def wsL_law0_r2 : List Cond := [Cond.fieldLink RX2 30 "SharedForks" "triedOrder" "[I", Cond.fieldLink RX2 33 "SharedForks" "triedForks" "LSharedForks$Forks;", Cond.instantiable RX0 7, Cond.initialized RX0, Cond.instanceMethod yX1_init, Cond.code yX1_init cX1_init 1 none, Cond.methodLink RX1 3 objectInit, Cond.fieldLink RX1 9 "SharedForks$Forks" "question" "[I", Cond.fieldLink RX1 15 "SharedForks$Forks" "low" "[I", Cond.fieldLink RX1 18 "SharedForks$Forks" "high" "[I", Cond.fieldLink RX1 21 "SharedForks$Forks" "owners" "[I", Cond.fieldLink RX1 24 "SharedForks$Forks" "slots" "[I", Cond.fieldLink RX1 27 "SharedForks$Forks" "questionAt" "[I", Cond.fieldLink RX1 30 "SharedForks$Forks" "answersOfWay" "[I", Cond.fieldLink RX1 33 "SharedForks$Forks" "partOfWay" "[I", Cond.fieldLink RX1 36 "SharedForks$Forks" "placeOf" "[I", Cond.instanceMethod yX0_init, Cond.code yX0_init cX0_init 1 none, Cond.methodLink RX0 3 objectInit, Cond.fieldLink RX0 9 "SharedForks$Fold" "yes" "[Z", Cond.fieldLink RX0 15 "SharedForks$Fold" "forkAt" "[I", Cond.fieldLink RX0 19 "SharedForks$Fold" "lowAt" "[I", Cond.fieldLink RX0 22 "SharedForks$Fold" "highAt" "[I", Cond.fieldLink RX0 25 "SharedForks$Fold" "aheadAt" "[I"]
def wsL_law0_r3 : List Cond := [Cond.methodLink RL 77 yX3_init, Cond.instanceMethod yX3_init, Cond.code yX3_init cX3_init 1 none, Cond.methodLink RX3 1 objectInit, Cond.fieldLink RX3 9 "SharedForksModel" "is" "[Z", Cond.fieldLink RX3 13 "SharedForksModel" "said" "[J", Cond.fieldLink RX3 17 "SharedForksModel" "order" "[I", Cond.fieldLink RX3 21 "SharedForksModel" "bits" "[J", Cond.fieldLink RX3 24 "SharedForksModel" "asks" "[I", Cond.fieldLink RX3 27 "SharedForksModel" "lows" "[I", Cond.fieldLink RX3 30 "SharedForksModel" "highs" "[I", Cond.fieldLink RX3 33 "SharedForksModel" "owners" "[I", Cond.fieldLink RX3 36 "SharedForksModel" "roots" "[I", Cond.fieldLink RX3 39 "SharedForksModel" "work" "[J", Cond.fieldLink RX3 42 "SharedForksModel" "row" "[I", Cond.fieldLink RX3 45 "SharedForksModel" "places" "[I", Cond.methodLink RL 78 yL_leaf, Cond.static yL_leaf, Cond.initialized RL, Cond.codeWith yL_leaf cL_leaf 4 (some .int) [(0, 9, 12, 13)], Cond.classLink RL 13 "java/lang/IllegalStateException", Cond.methodLink RL 7 yX2_leaf, Cond.instanceMethod yX2_leaf, Cond.selects RX2 yX2_leaf yX2_leaf]
def wsL_law0_r4 : List Cond := [Cond.code yX2_leaf cX2_leaf 5 (some .int), Cond.methodLink RX2 37 yX2_freeNumber, Cond.instanceMethod yX2_freeNumber, Cond.selects RX2 yX2_freeNumber yX2_freeNumber, Cond.code yX2_freeNumber cX2_freeNumber 2 (some .int), Cond.classLink RX2 139 "java/lang/IllegalStateException", Cond.initialized "java/lang/IllegalStateException", Cond.methodLink RX2 44 yX2_keep, Cond.instanceMethod yX2_keep, Cond.selects RX2 yX2_keep yX2_keep, Cond.code yX2_keep cX2_keep 2 (some .int), Cond.methodLink RX2 72 yX2_layAll, Cond.instanceMethod yX2_layAll, Cond.selects RX2 yX2_layAll yX2_layAll, Cond.code yX2_layAll cX2_layAll 3 none, Cond.instanceMethod yX1_startOver, Cond.selects RX1 yX1_startOver yX1_startOver, Cond.code yX1_startOver cX1_startOver 3 none, Cond.fieldLink RX1 39 "SharedForks$Forks" "size" "I", Cond.methodLink RX1 49 arraycopyName, Cond.native arraycopyName, Cond.static arraycopyName, Cond.initialized "java/lang/System", Cond.methodLink RX1 43 yJ7_fill_53178]
def wsL_law0_r5 : List Cond := [Cond.static yJ7_fill_53178, Cond.initialized RJ7, Cond.code yJ7_fill_53178 cJ7_fill_53178 4 none, Cond.methodLink RX1 55 yX1_answersOf, Cond.instanceMethod yX1_answersOf, Cond.selects RX1 yX1_answersOf yX1_answersOf, Cond.code yX1_answersOf cX1_answersOf 5 (some .int), Cond.instanceMethod yX1_lay, Cond.selects RX1 yX1_lay yX1_lay, Cond.code yX1_lay cX1_lay 4 (some .int), Cond.methodLink RX1 59 yX1_part, Cond.instanceMethod yX1_part, Cond.selects RX1 yX1_part yX1_part, Cond.code yX1_part cX1_part 8 (some .int), Cond.methodLink RX1 63 yX1_make, Cond.instanceMethod yX1_make, Cond.selects RX1 yX1_make yX1_make, Cond.code yX1_make cX1_make 6 (some .int), Cond.instanceMethod yX1_putInRow, Cond.selects RX1 yX1_putInRow yX1_putInRow, Cond.code yX1_putInRow cX1_putInRow 5 none, Cond.methodLink RX1 70 yX1_walk, Cond.static yX1_walk, Cond.code yX1_walk cX1_walk 6 none]
def wsL_law0_r6 : List Cond := [Cond.methodLink RX1 89 yX1_putLast, Cond.instanceMethod yX1_putLast, Cond.selects RX1 yX1_putLast yX1_putLast, Cond.code yX1_putLast cX1_putLast 4 (some .int), Cond.methodLink RX1 80 yX1_placeOrLeaf, Cond.instanceMethod yX1_placeOrLeaf, Cond.selects RX1 yX1_placeOrLeaf yX1_placeOrLeaf, Cond.code yX1_placeOrLeaf cX1_placeOrLeaf 2 (some .int), Cond.methodLink RL 83 yX3_leaf, Cond.instanceMethod yX3_leaf, Cond.selects RX3 yX3_leaf yX3_leaf, Cond.code yX3_leaf cX3_leaf 4 (some .int), Cond.fieldLink RX3 48 "SharedForksModel" "thrown" "I", Cond.constantLong RX3 56 (-1), Cond.methodLink RX3 124 yX3_free, Cond.instanceMethod yX3_free, Cond.selects RX3 yX3_free yX3_free, Cond.code yX3_free cX3_free 2 (some .int), Cond.methodLink RX3 128 yX3_fail, Cond.instanceMethod yX3_fail, Cond.selects RX3 yX3_fail yX3_fail, Cond.code yX3_fail cX3_fail 2 (some .int), Cond.methodLink RX3 131 yX3_kept, Cond.instanceMethod yX3_kept]
def wsL_law0_r7 : List Cond := [Cond.selects RX3 yX3_kept yX3_kept, Cond.code yX3_kept cX3_kept 2 (some .int), Cond.methodLink RX3 121 yX3_make, Cond.instanceMethod yX3_make, Cond.selects RX3 yX3_make yX3_make, Cond.code yX3_make cX3_make 2 none, Cond.fieldLink RX3 66 "SharedForksModel" "forks" "I", Cond.methodLink RX3 85 arraycopyName, Cond.methodLink RX3 81 yX3_fork, Cond.instanceMethod yX3_fork, Cond.selects RX3 yX3_fork yX3_fork, Cond.code yX3_fork cX3_fork 6 (some .int), Cond.methodLink RX3 62 yX3_isAll, Cond.static yX3_isAll, Cond.code yX3_isAll cX3_isAll 5 (some .boolean), Cond.methodLink RX3 69 yX3_isSame, Cond.static yX3_isSame, Cond.code yX3_isSame cX3_isSame 5 (some .boolean), Cond.methodLink RX3 73 yX3_matters, Cond.instanceMethod yX3_matters, Cond.selects RX3 yX3_matters yX3_matters, Cond.code yX3_matters cX3_matters 6 (some .boolean), Cond.methodLink RX3 58 yX3_yes, Cond.static yX3_yes]
def wsL_law0_r8 : List Cond := [Cond.code yX3_yes cX3_yes 5 (some .long), Cond.methodLink RX3 77 yX3_give, Cond.static yX3_give, Cond.code yX3_give cX3_give 12 none, Cond.methodLink RX3 91 yX3_own, Cond.instanceMethod yX3_own, Cond.selects RX3 yX3_own yX3_own, Cond.code yX3_own cX3_own 3 none, Cond.methodLink RL 84 yX3_thrown, Cond.instanceMethod yX3_thrown, Cond.selects RX3 yX3_thrown yX3_thrown, Cond.code yX3_thrown cX3_thrown 1 (some .int), Cond.methodLink RL 88 yL_ask, Cond.static yL_ask, Cond.codeWith yL_ask cL_ask 4 (some .int) [(0, 9, 12, 19), (0, 9, 15, 13)], Cond.classLink RL 19 "java/lang/IndexOutOfBoundsException", Cond.methodLink RL 15 yX2_ask, Cond.instanceMethod yX2_ask, Cond.selects RX2 yX2_ask yX2_ask, Cond.code yX2_ask cX2_ask 5 (some .int), Cond.methodLink RX2 48 yX2_checkBelow, Cond.static yX2_checkBelow, Cond.code yX2_checkBelow cX2_checkBelow 2 none, Cond.classLink RX2 132 "java/lang/IndexOutOfBoundsException"]
def wsL_law0_r9 : List Cond := [Cond.initialized "java/lang/IndexOutOfBoundsException", Cond.methodLink RX2 52 yX2_isYes, Cond.static yX2_isYes, Cond.code yX2_isYes cX2_isYes 2 (some .boolean), Cond.methodLink RL 91 yX3_ask, Cond.instanceMethod yX3_ask, Cond.selects RX3 yX3_ask yX3_ask, Cond.code yX3_ask cX3_ask 4 (some .int), Cond.methodLink RX3 134 yX3_isQuestion, Cond.static yX3_isQuestion, Cond.code yX3_isQuestion cX3_isQuestion 1 (some .boolean), Cond.methodLink RX3 52 yX3_isIn, Cond.static yX3_isIn, Cond.code yX3_isIn cX3_isIn 3 (some .boolean), Cond.methodLink RL 92 yL_join, Cond.static yL_join, Cond.codeWith yL_join cL_join 6 (some .int) [(0, 12, 15, 19), (0, 12, 19, 13)], Cond.methodLink RL 21 yX2_join, Cond.instanceMethod yX2_join, Cond.selects RX2 yX2_join yX2_join, Cond.code yX2_join cX2_join 7 (some .int), Cond.methodLink RX2 56 yX2_foldAt, Cond.instanceMethod yX2_foldAt, Cond.selects RX2 yX2_foldAt yX2_foldAt]
def wsL_law0_r10 : List Cond := [Cond.code yX2_foldAt cX2_foldAt 2 (some (.object "SharedForks$Fold")), Cond.methodLink RX2 60 yX2_sayJoined, Cond.static yX2_sayJoined, Cond.code yX2_sayJoined cX2_sayJoined 5 none, Cond.methodLink RX2 154 yX2_joined, Cond.static yX2_joined, Cond.code yX2_joined cX2_joined 3 (some .boolean), Cond.methodLink RL 95 yX3_join, Cond.instanceMethod yX3_join, Cond.selects RX3 yX3_join yX3_join, Cond.code yX3_join cX3_join 6 (some .int), Cond.methodLink RX3 138 yX3_isFold, Cond.instanceMethod yX3_isFold, Cond.selects RX3 yX3_isFold yX3_isFold, Cond.code yX3_isFold cX3_isFold 2 (some .boolean), Cond.methodLink RX3 141 yX3_joined, Cond.static yX3_joined, Cond.code yX3_joined cX3_joined 5 (some .long), Cond.methodLink RL 96 yL_choose, Cond.static yL_choose, Cond.codeWith yL_choose cL_choose 6 (some .int) [(0, 12, 15, 19), (0, 12, 19, 13)], Cond.methodLink RL 25 yX2_choose, Cond.instanceMethod yX2_choose, Cond.selects RX2 yX2_choose yX2_choose]
def wsL_law0_r11 : List Cond := [Cond.code yX2_choose cX2_choose 10 (some .int), Cond.methodLink RL 98 yX3_choose, Cond.instanceMethod yX3_choose, Cond.selects RX3 yX3_choose yX3_choose, Cond.code yX3_choose cX3_choose 6 (some .int), Cond.methodLink RL 99 yL_given, Cond.static yL_given, Cond.codeWith yL_given cL_given 6 (some .int) [(0, 12, 15, 19), (0, 12, 19, 13)], Cond.methodLink RL 28 yX2_given, Cond.instanceMethod yX2_given, Cond.selects RX2 yX2_given yX2_given, Cond.code yX2_given cX2_given 8 (some .int), Cond.methodLink RX2 64 yX2_withAnswer, Cond.static yX2_withAnswer, Cond.code yX2_withAnswer cX2_withAnswer 4 (some .int), Cond.methodLink RL 102 yX3_given, Cond.instanceMethod yX3_given, Cond.selects RX3 yX3_given yX3_given, Cond.code yX3_given cX3_given 5 (some .int), Cond.methodLink RL 103 yL_without, Cond.static yL_without, Cond.codeWith yL_without cL_without 6 (some .int) [(0, 12, 15, 19), (0, 12, 19, 13)], Cond.methodLink RL 32 yX2_without, Cond.instanceMethod yX2_without]
def wsL_law0_r12 : List Cond := [Cond.selects RX2 yX2_without yX2_without, Cond.code yX2_without cX2_without 10 (some .int), Cond.methodLink RL 105 yX3_without, Cond.instanceMethod yX3_without, Cond.selects RX3 yX3_without yX3_without, Cond.code yX3_without cX3_without 6 (some .int), Cond.methodLink RL 106 yL_drop, Cond.static yL_drop, Cond.codeWith yL_drop cL_drop 4 (some .int) [(0, 9, 12, 19)], Cond.methodLink RL 35 yX2_drop, Cond.instanceMethod yX2_drop, Cond.selects RX2 yX2_drop yX2_drop, Cond.code yX2_drop cX2_drop 2 (some .int), Cond.methodLink RX2 75 yX2_countKept, Cond.instanceMethod yX2_countKept, Cond.selects RX2 yX2_countKept yX2_countKept, Cond.code yX2_countKept cX2_countKept 3 (some .int), Cond.methodLink RL 108 yX3_drop, Cond.instanceMethod yX3_drop, Cond.selects RX3 yX3_drop yX3_drop, Cond.code yX3_drop cX3_drop 2 (some .int), Cond.methodLink RX3 145 yX3_folds, Cond.instanceMethod yX3_folds, Cond.selects RX3 yX3_folds yX3_folds]
def wsL_law0_r13 : List Cond := [Cond.code yX3_folds cX3_folds 6 (some .int), Cond.methodLink RL 109 yL_swap, Cond.static yL_swap, Cond.codeWith yL_swap cL_swap 4 (some .int) [(0, 9, 12, 19)], Cond.methodLink RL 38 yX2_swap, Cond.instanceMethod yX2_swap, Cond.selects RX2 yX2_swap yX2_swap, Cond.code yX2_swap cX2_swap 2 (some .int), Cond.methodLink RX2 78 yX2_exchange, Cond.static yX2_exchange, Cond.code yX2_exchange cX2_exchange 3 none, Cond.methodLink RL 111 yX3_swap, Cond.instanceMethod yX3_swap, Cond.selects RX3 yX3_swap yX3_swap, Cond.code yX3_swap cX3_swap 2 (some .int), Cond.methodLink RX3 148 yX3_exchange, Cond.instanceMethod yX3_exchange, Cond.selects RX3 yX3_exchange yX3_exchange, Cond.code yX3_exchange cX3_exchange 3 none, Cond.methodLink RL 112 yL_order, Cond.static yL_order, Cond.codeWith yL_order cL_order 4 (some .int) [(0, 9, 12, 19)], Cond.methodLink RL 41 yX2_order, Cond.instanceMethod yX2_order]
def wsL_law0_r14 : List Cond := [Cond.selects RX2 yX2_order yX2_order, Cond.code yX2_order cX2_order 2 (some .int), Cond.methodLink RL 114 yX3_order, Cond.instanceMethod yX3_order, Cond.selects RX3 yX3_order yX3_order, Cond.code yX3_order cX3_order 2 (some .int), Cond.methodLink RL 115 yL_says, Cond.static yL_says, Cond.codeWith yL_says cL_says 5 (some .int) [(0, 17, 20, 19), (0, 17, 24, 48)], Cond.classLink RL 48 "java/lang/IllegalArgumentException", Cond.methodLink RL 44 yX2_says, Cond.instanceMethod yX2_says, Cond.selects RX2 yX2_says yX2_says, Cond.code yX2_says cX2_says 4 (some .boolean), Cond.classLink RX2 86 "java/lang/IllegalArgumentException", Cond.initialized "java/lang/IllegalArgumentException", Cond.methodLink RL 118 yX3_says, Cond.instanceMethod yX3_says, Cond.selects RX3 yX3_says yX3_says, Cond.code yX3_says cX3_says 3 (some .boolean), Cond.methodLink RX3 151 yX3_saysSo, Cond.instanceMethod yX3_saysSo, Cond.selects RX3 yX3_saysSo yX3_saysSo, Cond.code yX3_saysSo cX3_saysSo 3 (some .boolean)]
def wsL_law0_r15 : List Cond := [Cond.methodLink RL 119 yL_fork, Cond.static yL_fork, Cond.codeWith yL_fork cL_fork 6 (some .int) [(0, 12, 15, 19)], Cond.methodLink RL 50 yX2_fork, Cond.instanceMethod yX2_fork, Cond.selects RX2 yX2_fork yX2_fork, Cond.code yX2_fork cX2_fork 5 (some .int), Cond.methodLink RX2 94 yX2_tellFork, Cond.instanceMethod yX2_tellFork, Cond.selects RX2 yX2_tellFork yX2_tellFork, Cond.code yX2_tellFork cX2_tellFork 5 (some .int), Cond.methodLink RL 121 yX3_fork_, Cond.instanceMethod yX3_fork_, Cond.selects RX3 yX3_fork_ yX3_fork_, Cond.code yX3_fork_ cX3_fork_ 4 (some .int), Cond.methodLink RX3 161 yX3_all, Cond.instanceMethod yX3_all, Cond.selects RX3 yX3_all yX3_all, Cond.code yX3_all cX3_all 2 (some .int), Cond.fieldLink RX3 95 "SharedForksModel" "rowSize" "I", Cond.methodLink RX3 118 yX3_line, Cond.instanceMethod yX3_line, Cond.selects RX3 yX3_line yX3_line, Cond.code yX3_line cX3_line 3 none]
def wsL_law0_r16 : List Cond := [Cond.methodLink RX3 98 yX3_stand, Cond.instanceMethod yX3_stand, Cond.selects RX3 yX3_stand yX3_stand, Cond.code yX3_stand cX3_stand 2 none, Cond.methodLink RX3 164 yX3_forkTold, Cond.instanceMethod yX3_forkTold, Cond.selects RX3 yX3_forkTold yX3_forkTold, Cond.code yX3_forkTold cX3_forkTold 3 (some .int), Cond.methodLink RX3 115 yX3_placeOf, Cond.instanceMethod yX3_placeOf, Cond.selects RX3 yX3_placeOf yX3_placeOf, Cond.code yX3_placeOf cX3_placeOf 2 (some .int), Cond.methodLink RX3 155 yX3_ahead, Cond.instanceMethod yX3_ahead, Cond.selects RX3 yX3_ahead yX3_ahead, Cond.code yX3_ahead cX3_ahead 7 (some .int), Cond.methodLink RX3 106 Lib.Math.min.name, Cond.static Lib.Math.min.name, Cond.initialized "java/lang/Math", Cond.code Lib.Math.min.name Lib.Math.min.code 2 (some .int), Cond.methodLink RX3 158 yX3_many, Cond.static yX3_many, Cond.code yX3_many cX3_many 3 (some .int), Cond.methodLink RL 122 yL_about]
def wsL_law0_r17 : List Cond := [Cond.static yL_about, Cond.codeWith yL_about cL_about 5 (some .int) [(0, 10, 13, 19)], Cond.methodLink RL 53 yX2_about, Cond.instanceMethod yX2_about, Cond.selects RX2 yX2_about yX2_about, Cond.code yX2_about cX2_about 4 (some .int), Cond.methodLink RX2 98 yX2_tellFold, Cond.instanceMethod yX2_tellFold, Cond.selects RX2 yX2_tellFold yX2_tellFold, Cond.code yX2_tellFold cX2_tellFold 3 (some .int), Cond.methodLink RX2 176 yX2_countYes, Cond.static yX2_countYes, Cond.code yX2_countYes cX2_countYes 3 (some .int), Cond.methodLink RX2 180 yX2_questionsThatMatter, Cond.instanceMethod yX2_questionsThatMatter, Cond.selects RX2 yX2_questionsThatMatter yX2_questionsThatMatter, Cond.code yX2_questionsThatMatter cX2_questionsThatMatter 4 (some .int), Cond.methodLink RX2 183 yX2_leastAsked, Cond.instanceMethod yX2_leastAsked, Cond.selects RX2 yX2_leastAsked yX2_leastAsked, Cond.code yX2_leastAsked cX2_leastAsked 4 (some .int), Cond.methodLink RX2 204 Lib.Math.min.name, Cond.methodLink RX2 102 yX2_countAsked, Cond.instanceMethod yX2_countAsked]
def wsL_law0_r18 : List Cond := [Cond.selects RX2 yX2_countAsked yX2_countAsked, Cond.code yX2_countAsked cX2_countAsked 6 (some .int), Cond.methodLink RX2 186 yX2_mostAsked, Cond.instanceMethod yX2_mostAsked, Cond.selects RX2 yX2_mostAsked yX2_mostAsked, Cond.code yX2_mostAsked cX2_mostAsked 4 (some .int), Cond.methodLink RX2 210 Lib.Math.max.name, Cond.static Lib.Math.max.name, Cond.code Lib.Math.max.name Lib.Math.max.code 2 (some .int), Cond.methodLink RX2 189 yX2_smallestYes, Cond.static yX2_smallestYes, Cond.code yX2_smallestYes cX2_smallestYes 2 (some .int), Cond.methodLink RX2 192 yX2_greatestYes, Cond.static yX2_greatestYes, Cond.code yX2_greatestYes cX2_greatestYes 2 (some .int), Cond.methodLink RX2 195 yX2_countOwnForks, Cond.instanceMethod yX2_countOwnForks, Cond.selects RX2 yX2_countOwnForks yX2_countOwnForks, Cond.code yX2_countOwnForks cX2_countOwnForks 4 (some .int), Cond.methodLink RL 124 yX3_about, Cond.instanceMethod yX3_about, Cond.selects RX3 yX3_about yX3_about, Cond.code yX3_about cX3_about 3 (some .int), Cond.methodLink RX3 167 yX3_aboutOf]
def wsL_law0_r19 : List Cond := [Cond.instanceMethod yX3_aboutOf, Cond.selects RX3 yX3_aboutOf yX3_aboutOf, Cond.code yX3_aboutOf cX3_aboutOf 5 (some .int), Cond.methodLink RX3 102 yX3_far, Cond.instanceMethod yX3_far, Cond.selects RX3 yX3_far yX3_far, Cond.code yX3_far cX3_far 5 (some .int), Cond.methodLink RX3 112 Lib.Math.max.name, Cond.methodLink RL 125 yL_asked, Cond.static yL_asked, Cond.codeWith yL_asked cL_asked 4 (some .int) [(0, 8, 11, 19)], Cond.methodLink RL 57 yX2_asked, Cond.instanceMethod yX2_asked, Cond.selects RX2 yX2_asked yX2_asked, Cond.code yX2_asked cX2_asked 5 (some .double), Cond.constantDouble RX2 105 (4643211215818981376), Cond.methodLink RL 128 yX3_asked, Cond.instanceMethod yX3_asked, Cond.selects RX3 yX3_asked yX3_asked, Cond.code yX3_asked cX3_asked 5 (some .double), Cond.constantDouble RX3 170 (4643211215818981376), Cond.methodLink RL 129 yL_compare, Cond.static yL_compare, Cond.codeWith yL_compare cL_compare 5 (some .int) [(0, 10, 13, 19)]]
def wsL_law0_r20 : List Cond := [Cond.methodLink RL 61 yX2_compare, Cond.instanceMethod yX2_compare, Cond.selects RX2 yX2_compare yX2_compare, Cond.code yX2_compare cX2_compare 11 (some .int), Cond.methodLink RL 131 yX3_compare, Cond.instanceMethod yX3_compare, Cond.selects RX3 yX3_compare yX3_compare, Cond.code yX3_compare cX3_compare 14 (some .int), Cond.methodLink RL 132 yL_count, Cond.static yL_count, Cond.codeWith yL_count cL_count 4 (some .int) [(0, 9, 12, 19)], Cond.methodLink RL 64 yX2_count, Cond.instanceMethod yX2_count, Cond.selects RX2 yX2_count yX2_count, Cond.code yX2_count cX2_count 2 (some .int), Cond.methodLink RX2 107 yX2_tellCount, Cond.instanceMethod yX2_tellCount, Cond.selects RX2 yX2_tellCount yX2_tellCount, Cond.code yX2_tellCount cX2_tellCount 2 (some .int), Cond.methodLink RX2 121 yX2_addForks, Cond.instanceMethod yX2_addForks, Cond.selects RX2 yX2_addForks yX2_addForks, Cond.code yX2_addForks cX2_addForks 3 (some .int), Cond.methodLink RX2 198 yX2_countForksAtFirstPlace]
def wsL_law0_r21 : List Cond := [Cond.instanceMethod yX2_countForksAtFirstPlace, Cond.selects RX2 yX2_countForksAtFirstPlace yX2_countForksAtFirstPlace, Cond.code yX2_countForksAtFirstPlace cX2_countForksAtFirstPlace 3 (some .int), Cond.methodLink RX2 201 yX2_countLeaves, Cond.instanceMethod yX2_countLeaves, Cond.selects RX2 yX2_countLeaves yX2_countLeaves, Cond.code yX2_countLeaves cX2_countLeaves 3 (some .int), Cond.methodLink RL 134 yX3_count, Cond.instanceMethod yX3_count, Cond.selects RX3 yX3_count yX3_count, Cond.code yX3_count cX3_count 2 (some .int), Cond.methodLink RX3 172 yX3_counted, Cond.instanceMethod yX3_counted, Cond.selects RX3 yX3_counted yX3_counted, Cond.code yX3_counted cX3_counted 4 (some .int), Cond.methodLink RL 135 yL_has, Cond.static yL_has, Cond.codeWith yL_has cL_has 4 (some .int) [(0, 16, 19, 19)], Cond.methodLink RL 67 yX2_has, Cond.instanceMethod yX2_has, Cond.selects RX2 yX2_has yX2_has, Cond.code yX2_has cX2_has 2 (some .boolean), Cond.methodLink RL 137 yX3_has, Cond.instanceMethod yX3_has]
def wsL_law0_r22 : List Cond := [Cond.selects RX3 yX3_has yX3_has, Cond.code yX3_has cX3_has 2 (some .boolean), Cond.methodLink RL 138 yX2_advise, Cond.instanceMethod yX2_advise, Cond.selects RX2 yX2_advise yX2_advise, Cond.code yX2_advise cX2_advise 5 (some .int), Cond.methodLink RX2 110 yX2_countForksAfterSwap, Cond.instanceMethod yX2_countForksAfterSwap, Cond.selects RX2 yX2_countForksAfterSwap yX2_countForksAfterSwap, Cond.code yX2_countForksAfterSwap cX2_countForksAfterSwap 3 (some .int), Cond.methodLink RX2 148 arraycopyName, Cond.methodLink RL 141 yX3_advise, Cond.instanceMethod yX3_advise, Cond.selects RX3 yX3_advise yX3_advise, Cond.code yX3_advise cX3_advise 5 (some .int), Cond.methodLink RL 142 yL_would, Cond.static yL_would, Cond.codeWith yL_would cL_would 6 (some .int) [(0, 12, 15, 19)], Cond.methodLink RL 71 yX2_would, Cond.instanceMethod yX2_would, Cond.selects RX2 yX2_would yX2_would, Cond.code yX2_would cX2_would 6 (some .int), Cond.methodLink RL 144 yX3_would, Cond.instanceMethod yX3_would]
def wsL_law0_r23 : List Cond := [Cond.selects RX3 yX3_would yX3_would, Cond.code yX3_would cX3_would 6 (some .int), Cond.methodLink RL 145 yX2_mean, Cond.instanceMethod yX2_mean, Cond.selects RX2 yX2_mean yX2_mean, Cond.code yX2_mean cX2_mean 2 (some .double), Cond.methodLink RL 149 yX3_mean, Cond.instanceMethod yX3_mean, Cond.selects RX3 yX3_mean yX3_mean, Cond.code yX3_mean cX3_mean 2 (some .double), Cond.methodLink RL 150 yX2_digest, Cond.instanceMethod yX2_digest, Cond.selects RX2 yX2_digest yX2_digest, Cond.code yX2_digest cX2_digest 5 (some .long), Cond.constantLong RX2 124 (1709), Cond.constantLong RX2 126 (31), Cond.methodLink RX2 128 yX2_digestFold, Cond.instanceMethod yX2_digestFold, Cond.selects RX2 yX2_digestFold yX2_digestFold, Cond.code yX2_digestFold cX2_digestFold 8 (some .long), Cond.methodLink RL 154 yX3_digest, Cond.instanceMethod yX3_digest, Cond.selects RX3 yX3_digest yX3_digest, Cond.code yX3_digest cX3_digest 7 (some .long)]
def wsL_law0_r24 : List Cond := [Cond.constantLong RX3 175 (1709), Cond.constantLong RX3 177 (31)]
def wsL_law0 : List Cond := (wsL_law0_r1 ++ (wsL_law0_r2 ++ (wsL_law0_r3 ++ (wsL_law0_r4 ++ (wsL_law0_r5 ++ (wsL_law0_r6 ++ (wsL_law0_r7 ++ (wsL_law0_r8 ++ (wsL_law0_r9 ++ (wsL_law0_r10 ++ (wsL_law0_r11 ++ (wsL_law0_r12 ++ (wsL_law0_r13 ++ (wsL_law0_r14 ++ (wsL_law0_r15 ++ (wsL_law0_r16 ++ (wsL_law0_r17 ++ (wsL_law0_r18 ++ (wsL_law0_r19 ++ (wsL_law0_r20 ++ (wsL_law0_r21 ++ (wsL_law0_r22 ++ (wsL_law0_r23 ++ wsL_law0_r24))))))))))))))))))))))) ++ wsX20 ++ wsX30 ++ wsX10 ++ wsX00 ++ ([] : List Cond)
def wsL_law : List Cond := wsL_law0 ++ (vx_atS RX2 143 "java/lang/IllegalStateException" ["java/lang/RuntimeException", "java/lang/Exception"]).filter goodWord ++ (vx_atS RX2 136 "java/lang/IndexOutOfBoundsException" ["java/lang/RuntimeException", "java/lang/Exception"]).filter goodWord ++ (vx_atS RX2 90 "java/lang/IllegalArgumentException" ["java/lang/RuntimeException", "java/lang/Exception"]).filter goodWord
end
section
theorem inJx145de : ∀ w ∈ wsJx145de0, w ∈ lw_tbl := by decide +kernel
theorem inJ9 : ∀ w ∈ wsJ90, w ∈ lw_tbl := by decide +kernel
theorem inJ0 : ∀ w ∈ wsJ00, w ∈ lw_tbl := by decide +kernel
theorem inJ10 : ∀ w ∈ wsJ100, w ∈ lw_tbl := by decide +kernel
theorem inJ7 : ∀ w ∈ wsJ70, w ∈ lw_tbl := by decide +kernel
theorem dX0_init_0 : decode cX0_init 0 = .ok (.aload_n 0, 1) := by decide +kernel
theorem dX0_init_1 : decode cX0_init 1 = .ok (.invokespecial 3, 3) := by decide +kernel
theorem dX0_init_4 : decode cX0_init 4 = .ok (.aload_n 0, 1) := by decide +kernel
theorem dX0_init_5 : decode cX0_init 5 = .ok (.sipush 256, 3) := by decide +kernel
theorem dX0_init_8 : decode cX0_init 8 = .ok (.newarray .boolean, 2) := by decide +kernel
theorem dX0_init_10 : decode cX0_init 10 = .ok (.putfield 9, 3) := by decide +kernel
theorem dX0_init_13 : decode cX0_init 13 = .ok (.aload_n 0, 1) := by decide +kernel
theorem dX0_init_14 : decode cX0_init 14 = .ok (.bipush 77, 2) := by decide +kernel
theorem dX0_init_16 : decode cX0_init 16 = .ok (.newarray .int, 2) := by decide +kernel
theorem dX0_init_18 : decode cX0_init 18 = .ok (.putfield 15, 3) := by decide +kernel
theorem dX0_init_21 : decode cX0_init 21 = .ok (.aload_n 0, 1) := by decide +kernel
theorem dX0_init_22 : decode cX0_init 22 = .ok (.bipush 77, 2) := by decide +kernel
theorem dX0_init_24 : decode cX0_init 24 = .ok (.newarray .int, 2) := by decide +kernel
theorem dX0_init_26 : decode cX0_init 26 = .ok (.putfield 19, 3) := by decide +kernel
theorem dX0_init_29 : decode cX0_init 29 = .ok (.aload_n 0, 1) := by decide +kernel
theorem dX0_init_30 : decode cX0_init 30 = .ok (.bipush 77, 2) := by decide +kernel
theorem dX0_init_32 : decode cX0_init 32 = .ok (.newarray .int, 2) := by decide +kernel
theorem dX0_init_34 : decode cX0_init 34 = .ok (.putfield 22, 3) := by decide +kernel
theorem dX0_init_37 : decode cX0_init 37 = .ok (.aload_n 0, 1) := by decide +kernel
theorem dX0_init_38 : decode cX0_init 38 = .ok (.bipush 77, 2) := by decide +kernel
theorem dX0_init_40 : decode cX0_init 40 = .ok (.newarray .int, 2) := by decide +kernel
theorem dX0_init_42 : decode cX0_init 42 = .ok (.putfield 25, 3) := by decide +kernel
theorem dX0_init_45 : decode cX0_init 45 = .ok (.return_, 1) := by decide +kernel
theorem dX1_init_0 : decode cX1_init 0 = .ok (.aload_n 0, 1) := by decide +kernel
theorem dX1_init_1 : decode cX1_init 1 = .ok (.invokespecial 3, 3) := by decide +kernel
theorem dX1_init_4 : decode cX1_init 4 = .ok (.aload_n 0, 1) := by decide +kernel
theorem dX1_init_5 : decode cX1_init 5 = .ok (.sipush 626, 3) := by decide +kernel
theorem dX1_init_8 : decode cX1_init 8 = .ok (.newarray .int, 2) := by decide +kernel
theorem dX1_init_10 : decode cX1_init 10 = .ok (.putfield 9, 3) := by decide +kernel
theorem dX1_init_13 : decode cX1_init 13 = .ok (.aload_n 0, 1) := by decide +kernel
theorem dX1_init_14 : decode cX1_init 14 = .ok (.sipush 626, 3) := by decide +kernel
theorem dX1_init_17 : decode cX1_init 17 = .ok (.newarray .int, 2) := by decide +kernel
theorem dX1_init_19 : decode cX1_init 19 = .ok (.putfield 15, 3) := by decide +kernel
theorem dX1_init_22 : decode cX1_init 22 = .ok (.aload_n 0, 1) := by decide +kernel
theorem dX1_init_23 : decode cX1_init 23 = .ok (.sipush 626, 3) := by decide +kernel
theorem dX1_init_26 : decode cX1_init 26 = .ok (.newarray .int, 2) := by decide +kernel
theorem dX1_init_28 : decode cX1_init 28 = .ok (.putfield 18, 3) := by decide +kernel
theorem dX1_init_31 : decode cX1_init 31 = .ok (.aload_n 0, 1) := by decide +kernel
theorem dX1_init_32 : decode cX1_init 32 = .ok (.sipush 626, 3) := by decide +kernel
theorem dX1_init_35 : decode cX1_init 35 = .ok (.newarray .int, 2) := by decide +kernel
theorem dX1_init_37 : decode cX1_init 37 = .ok (.putfield 21, 3) := by decide +kernel
theorem dX1_init_40 : decode cX1_init 40 = .ok (.aload_n 0, 1) := by decide +kernel
theorem dX1_init_41 : decode cX1_init 41 = .ok (.sipush 1024, 3) := by decide +kernel
theorem dX1_init_44 : decode cX1_init 44 = .ok (.newarray .int, 2) := by decide +kernel
theorem dX1_init_46 : decode cX1_init 46 = .ok (.putfield 24, 3) := by decide +kernel
theorem dX1_init_49 : decode cX1_init 49 = .ok (.aload_n 0, 1) := by decide +kernel
theorem dX1_init_50 : decode cX1_init 50 = .ok (.bipush 8, 2) := by decide +kernel
theorem dX1_init_52 : decode cX1_init 52 = .ok (.newarray .int, 2) := by decide +kernel
theorem dX1_init_54 : decode cX1_init 54 = .ok (.putfield 27, 3) := by decide +kernel
theorem dX1_init_57 : decode cX1_init 57 = .ok (.aload_n 0, 1) := by decide +kernel
theorem dX1_init_58 : decode cX1_init 58 = .ok (.sipush 256, 3) := by decide +kernel
theorem dX1_init_61 : decode cX1_init 61 = .ok (.newarray .int, 2) := by decide +kernel
theorem dX1_init_63 : decode cX1_init 63 = .ok (.putfield 30, 3) := by decide +kernel
theorem dX1_init_66 : decode cX1_init 66 = .ok (.aload_n 0, 1) := by decide +kernel
theorem dX1_init_67 : decode cX1_init 67 = .ok (.sipush 256, 3) := by decide +kernel
theorem dX1_init_70 : decode cX1_init 70 = .ok (.newarray .int, 2) := by decide +kernel
theorem dX1_init_72 : decode cX1_init 72 = .ok (.putfield 33, 3) := by decide +kernel
theorem dX1_init_75 : decode cX1_init 75 = .ok (.aload_n 0, 1) := by decide +kernel
theorem dX1_init_76 : decode cX1_init 76 = .ok (.sipush 626, 3) := by decide +kernel
theorem dX1_init_79 : decode cX1_init 79 = .ok (.newarray .int, 2) := by decide +kernel
theorem dX1_init_81 : decode cX1_init 81 = .ok (.putfield 36, 3) := by decide +kernel
theorem dX1_init_84 : decode cX1_init 84 = .ok (.return_, 1) := by decide +kernel
set_option maxRecDepth 20000 in
theorem ggX1_startOver_J7_fill_53178 : GoodIn wsX1_startOver wsJ7_fill_53178 := goodIn_r _ [12] (by decide +kernel) (by decide +kernel)
set_option maxRecDepth 20000 in
theorem gX1_startOver_J7_fill_53178 : GoodIn wsX1_startOver (va_wsS RX1 43 yJ7_fill_53178 wsJ7_fill_53178) := goodIn_app (goodIn_of _ (by decide +kernel)) ggX1_startOver_J7_fill_53178
set_option maxRecDepth 20000 in
theorem ggX1_startOver_X1_answersOf : GoodIn wsX1_startOver wsX1_answersOf := goodIn_r _ [17, 3, 18, 19, 20, 21, 22, 23, 24, 25, 26, 27] (by decide +kernel) (by decide +kernel)
set_option maxRecDepth 20000 in
theorem gX1_startOver_X1_answersOf : GoodIn wsX1_startOver (wsV RX1 55 RX1 yX1_answersOf wsX1_answersOf) := goodIn_app (goodIn_of _ (by decide +kernel)) ggX1_startOver_X1_answersOf
theorem dX1_startOver_0 : decode cX1_startOver 0 = .ok (.aload_n 0, 1) := by decide +kernel
theorem dX1_startOver_1 : decode cX1_startOver 1 = .ok (.iconst 0, 1) := by decide +kernel
theorem dX1_startOver_2 : decode cX1_startOver 2 = .ok (.putfield 39, 3) := by decide +kernel
theorem dX1_startOver_5 : decode cX1_startOver 5 = .ok (.aload_n 0, 1) := by decide +kernel
theorem dX1_startOver_6 : decode cX1_startOver 6 = .ok (.getfield 24, 3) := by decide +kernel
theorem dX1_startOver_9 : decode cX1_startOver 9 = .ok (.iconst (-1), 1) := by decide +kernel
theorem dX1_startOver_10 : decode cX1_startOver 10 = .ok (.invokestatic 43, 3) := by decide +kernel
theorem dX1_startOver_13 : decode cX1_startOver 13 = .ok (.aload_n 1, 1) := by decide +kernel
theorem dX1_startOver_14 : decode cX1_startOver 14 = .ok (.iconst 0, 1) := by decide +kernel
theorem dX1_startOver_15 : decode cX1_startOver 15 = .ok (.aload_n 0, 1) := by decide +kernel
theorem dX1_startOver_16 : decode cX1_startOver 16 = .ok (.getfield 27, 3) := by decide +kernel
theorem dX1_startOver_19 : decode cX1_startOver 19 = .ok (.iconst 0, 1) := by decide +kernel
theorem dX1_startOver_20 : decode cX1_startOver 20 = .ok (.bipush 8, 2) := by decide +kernel
theorem dX1_startOver_22 : decode cX1_startOver 22 = .ok (.invokestatic 49, 3) := by decide +kernel
theorem dX1_startOver_25 : decode cX1_startOver 25 = .ok (.iconst 0, 1) := by decide +kernel
theorem dX1_startOver_26 : decode cX1_startOver 26 = .ok (.istore_n 2, 1) := by decide +kernel
theorem dX1_startOver_27 : decode cX1_startOver 27 = .ok (.iload_n 2, 1) := by decide +kernel
theorem dX1_startOver_28 : decode cX1_startOver 28 = .ok (.sipush 256, 3) := by decide +kernel
theorem dX1_startOver_31 : decode cX1_startOver 31 = .ok (.if_icmp .ge 20, 3) := by decide +kernel
theorem dX1_startOver_34 : decode cX1_startOver 34 = .ok (.aload_n 0, 1) := by decide +kernel
theorem dX1_startOver_35 : decode cX1_startOver 35 = .ok (.getfield 30, 3) := by decide +kernel
theorem dX1_startOver_38 : decode cX1_startOver 38 = .ok (.iload_n 2, 1) := by decide +kernel
theorem dX1_startOver_39 : decode cX1_startOver 39 = .ok (.aload_n 0, 1) := by decide +kernel
theorem dX1_startOver_40 : decode cX1_startOver 40 = .ok (.iload_n 2, 1) := by decide +kernel
theorem dX1_startOver_41 : decode cX1_startOver 41 = .ok (.invokevirtual 55, 3) := by decide +kernel
theorem dX1_startOver_44 : decode cX1_startOver 44 = .ok (.iastore, 1) := by decide +kernel
theorem dX1_startOver_45 : decode cX1_startOver 45 = .ok (.iinc 2 1, 3) := by decide +kernel
theorem dX1_startOver_48 : decode cX1_startOver 48 = .ok (.goto (-21), 3) := by decide +kernel
theorem dX1_startOver_51 : decode cX1_startOver 51 = .ok (.return_, 1) := by decide +kernel
theorem dX1_answersOf_0 : decode cX1_answersOf 0 = .ok (.iconst 0, 1) := by decide +kernel
theorem dX1_answersOf_1 : decode cX1_answersOf 1 = .ok (.istore_n 2, 1) := by decide +kernel
theorem dX1_answersOf_2 : decode cX1_answersOf 2 = .ok (.iconst 0, 1) := by decide +kernel
theorem dX1_answersOf_3 : decode cX1_answersOf 3 = .ok (.istore_n 3, 1) := by decide +kernel
theorem dX1_answersOf_4 : decode cX1_answersOf 4 = .ok (.iload_n 3, 1) := by decide +kernel
theorem dX1_answersOf_5 : decode cX1_answersOf 5 = .ok (.bipush 8, 2) := by decide +kernel
theorem dX1_answersOf_7 : decode cX1_answersOf 7 = .ok (.if_icmp .ge 31, 3) := by decide +kernel
theorem dX1_answersOf_10 : decode cX1_answersOf 10 = .ok (.iload_n 1, 1) := by decide +kernel
theorem dX1_answersOf_11 : decode cX1_answersOf 11 = .ok (.bipush 7, 2) := by decide +kernel
theorem dX1_answersOf_13 : decode cX1_answersOf 13 = .ok (.iload_n 3, 1) := by decide +kernel
theorem dX1_answersOf_14 : decode cX1_answersOf 14 = .ok (.isub, 1) := by decide +kernel
theorem dX1_answersOf_15 : decode cX1_answersOf 15 = .ok (.ishr, 1) := by decide +kernel
theorem dX1_answersOf_16 : decode cX1_answersOf 16 = .ok (.iconst 1, 1) := by decide +kernel
theorem dX1_answersOf_17 : decode cX1_answersOf 17 = .ok (.iand, 1) := by decide +kernel
theorem dX1_answersOf_18 : decode cX1_answersOf 18 = .ok (.istore 4, 2) := by decide +kernel
theorem dX1_answersOf_20 : decode cX1_answersOf 20 = .ok (.iload_n 2, 1) := by decide +kernel
theorem dX1_answersOf_21 : decode cX1_answersOf 21 = .ok (.iload 4, 2) := by decide +kernel
theorem dX1_answersOf_23 : decode cX1_answersOf 23 = .ok (.aload_n 0, 1) := by decide +kernel
theorem dX1_answersOf_24 : decode cX1_answersOf 24 = .ok (.getfield 27, 3) := by decide +kernel
theorem dX1_answersOf_27 : decode cX1_answersOf 27 = .ok (.iload_n 3, 1) := by decide +kernel
theorem dX1_answersOf_28 : decode cX1_answersOf 28 = .ok (.iaload, 1) := by decide +kernel
theorem dX1_answersOf_29 : decode cX1_answersOf 29 = .ok (.ishl, 1) := by decide +kernel
theorem dX1_answersOf_30 : decode cX1_answersOf 30 = .ok (.ior, 1) := by decide +kernel
theorem dX1_answersOf_31 : decode cX1_answersOf 31 = .ok (.istore_n 2, 1) := by decide +kernel
theorem dX1_answersOf_32 : decode cX1_answersOf 32 = .ok (.iinc 3 1, 3) := by decide +kernel
theorem dX1_answersOf_35 : decode cX1_answersOf 35 = .ok (.goto (-31), 3) := by decide +kernel
theorem dX1_answersOf_38 : decode cX1_answersOf 38 = .ok (.iload_n 2, 1) := by decide +kernel
theorem dX1_answersOf_39 : decode cX1_answersOf 39 = .ok (.sipush 255, 3) := by decide +kernel
theorem dX1_answersOf_42 : decode cX1_answersOf 42 = .ok (.iand, 1) := by decide +kernel
theorem dX1_answersOf_43 : decode cX1_answersOf 43 = .ok (.ireturn, 1) := by decide +kernel
set_option maxRecDepth 20000 in
theorem ggX1_lay_X1_part : GoodIn wsX1_lay wsX1_part := goodIn_r _ [8, 9, 10, 11, 12, 13, 14, 15, 7, 16, 17, 18, 19, 20, 21, 22, 23, 24, 25, 26, 27, 28] (by decide +kernel) (by decide +kernel)
set_option maxRecDepth 20000 in
theorem gX1_lay_X1_part : GoodIn wsX1_lay (wsV RX1 59 RX1 yX1_part wsX1_part) := goodIn_app (goodIn_of _ (by decide +kernel)) ggX1_lay_X1_part
theorem dX1_lay_0 : decode cX1_lay 0 = .ok (.iconst 0, 1) := by decide +kernel
theorem dX1_lay_1 : decode cX1_lay 1 = .ok (.istore_n 2, 1) := by decide +kernel
theorem dX1_lay_2 : decode cX1_lay 2 = .ok (.iload_n 2, 1) := by decide +kernel
theorem dX1_lay_3 : decode cX1_lay 3 = .ok (.sipush 256, 3) := by decide +kernel
theorem dX1_lay_6 : decode cX1_lay 6 = .ok (.if_icmp .ge 32, 3) := by decide +kernel
theorem dX1_lay_9 : decode cX1_lay 9 = .ok (.aload_n 0, 1) := by decide +kernel
theorem dX1_lay_10 : decode cX1_lay 10 = .ok (.getfield 33, 3) := by decide +kernel
theorem dX1_lay_13 : decode cX1_lay 13 = .ok (.iload_n 2, 1) := by decide +kernel
theorem dX1_lay_14 : decode cX1_lay 14 = .ok (.aload_n 1, 1) := by decide +kernel
theorem dX1_lay_15 : decode cX1_lay 15 = .ok (.aload_n 0, 1) := by decide +kernel
theorem dX1_lay_16 : decode cX1_lay 16 = .ok (.getfield 30, 3) := by decide +kernel
theorem dX1_lay_19 : decode cX1_lay 19 = .ok (.iload_n 2, 1) := by decide +kernel
theorem dX1_lay_20 : decode cX1_lay 20 = .ok (.iaload, 1) := by decide +kernel
theorem dX1_lay_21 : decode cX1_lay 21 = .ok (.baload, 1) := by decide +kernel
theorem dX1_lay_22 : decode cX1_lay 22 = .ok (.ifCond .eq 8, 3) := by decide +kernel
theorem dX1_lay_25 : decode cX1_lay 25 = .ok (.bipush (-2), 2) := by decide +kernel
theorem dX1_lay_27 : decode cX1_lay 27 = .ok (.goto 4, 3) := by decide +kernel
theorem dX1_lay_30 : decode cX1_lay 30 = .ok (.iconst (-1), 1) := by decide +kernel
theorem dX1_lay_31 : decode cX1_lay 31 = .ok (.iastore, 1) := by decide +kernel
theorem dX1_lay_32 : decode cX1_lay 32 = .ok (.iinc 2 1, 3) := by decide +kernel
theorem dX1_lay_35 : decode cX1_lay 35 = .ok (.goto (-33), 3) := by decide +kernel
theorem dX1_lay_38 : decode cX1_lay 38 = .ok (.bipush 7, 2) := by decide +kernel
theorem dX1_lay_40 : decode cX1_lay 40 = .ok (.istore_n 2, 1) := by decide +kernel
theorem dX1_lay_41 : decode cX1_lay 41 = .ok (.iload_n 2, 1) := by decide +kernel
theorem dX1_lay_42 : decode cX1_lay 42 = .ok (.ifCond .lt 58, 3) := by decide +kernel
theorem dX1_lay_45 : decode cX1_lay 45 = .ok (.iconst 0, 1) := by decide +kernel
theorem dX1_lay_46 : decode cX1_lay 46 = .ok (.istore_n 3, 1) := by decide +kernel
theorem dX1_lay_47 : decode cX1_lay 47 = .ok (.iload_n 3, 1) := by decide +kernel
theorem dX1_lay_48 : decode cX1_lay 48 = .ok (.iconst 1, 1) := by decide +kernel
theorem dX1_lay_49 : decode cX1_lay 49 = .ok (.iload_n 2, 1) := by decide +kernel
theorem dX1_lay_50 : decode cX1_lay 50 = .ok (.ishl, 1) := by decide +kernel
theorem dX1_lay_51 : decode cX1_lay 51 = .ok (.if_icmp .ge 43, 3) := by decide +kernel
theorem dX1_lay_54 : decode cX1_lay 54 = .ok (.aload_n 0, 1) := by decide +kernel
theorem dX1_lay_55 : decode cX1_lay 55 = .ok (.getfield 33, 3) := by decide +kernel
theorem dX1_lay_58 : decode cX1_lay 58 = .ok (.iload_n 3, 1) := by decide +kernel
theorem dX1_lay_59 : decode cX1_lay 59 = .ok (.aload_n 0, 1) := by decide +kernel
theorem dX1_lay_60 : decode cX1_lay 60 = .ok (.aload_n 0, 1) := by decide +kernel
theorem dX1_lay_61 : decode cX1_lay 61 = .ok (.getfield 27, 3) := by decide +kernel
theorem dX1_lay_64 : decode cX1_lay 64 = .ok (.iload_n 2, 1) := by decide +kernel
theorem dX1_lay_65 : decode cX1_lay 65 = .ok (.iaload, 1) := by decide +kernel
theorem dX1_lay_66 : decode cX1_lay 66 = .ok (.aload_n 0, 1) := by decide +kernel
theorem dX1_lay_67 : decode cX1_lay 67 = .ok (.getfield 33, 3) := by decide +kernel
theorem dX1_lay_70 : decode cX1_lay 70 = .ok (.iconst 2, 1) := by decide +kernel
theorem dX1_lay_71 : decode cX1_lay 71 = .ok (.iload_n 3, 1) := by decide +kernel
theorem dX1_lay_72 : decode cX1_lay 72 = .ok (.imul, 1) := by decide +kernel
theorem dX1_lay_73 : decode cX1_lay 73 = .ok (.iaload, 1) := by decide +kernel
theorem dX1_lay_74 : decode cX1_lay 74 = .ok (.aload_n 0, 1) := by decide +kernel
theorem dX1_lay_75 : decode cX1_lay 75 = .ok (.getfield 33, 3) := by decide +kernel
theorem dX1_lay_78 : decode cX1_lay 78 = .ok (.iconst 2, 1) := by decide +kernel
theorem dX1_lay_79 : decode cX1_lay 79 = .ok (.iload_n 3, 1) := by decide +kernel
theorem dX1_lay_80 : decode cX1_lay 80 = .ok (.imul, 1) := by decide +kernel
theorem dX1_lay_81 : decode cX1_lay 81 = .ok (.iconst 1, 1) := by decide +kernel
theorem dX1_lay_82 : decode cX1_lay 82 = .ok (.iadd, 1) := by decide +kernel
theorem dX1_lay_83 : decode cX1_lay 83 = .ok (.iaload, 1) := by decide +kernel
theorem dX1_lay_84 : decode cX1_lay 84 = .ok (.invokevirtual 59, 3) := by decide +kernel
theorem dX1_lay_87 : decode cX1_lay 87 = .ok (.iastore, 1) := by decide +kernel
theorem dX1_lay_88 : decode cX1_lay 88 = .ok (.iinc 3 1, 3) := by decide +kernel
theorem dX1_lay_91 : decode cX1_lay 91 = .ok (.goto (-44), 3) := by decide +kernel
theorem dX1_lay_94 : decode cX1_lay 94 = .ok (.iinc 2 (-1), 3) := by decide +kernel
theorem dX1_lay_97 : decode cX1_lay 97 = .ok (.goto (-56), 3) := by decide +kernel
theorem dX1_lay_100 : decode cX1_lay 100 = .ok (.aload_n 0, 1) := by decide +kernel
theorem dX1_lay_101 : decode cX1_lay 101 = .ok (.getfield 33, 3) := by decide +kernel
theorem dX1_lay_104 : decode cX1_lay 104 = .ok (.iconst 0, 1) := by decide +kernel
theorem dX1_lay_105 : decode cX1_lay 105 = .ok (.iaload, 1) := by decide +kernel
theorem dX1_lay_106 : decode cX1_lay 106 = .ok (.ireturn, 1) := by decide +kernel
set_option maxRecDepth 20000 in
theorem ggX1_part_X1_make : GoodIn wsX1_part wsX1_make := goodIn_r _ [9, 10, 1, 2, 3, 4, 11, 12, 13, 14, 15, 16, 17, 18, 19, 20, 21] (by decide +kernel) (by decide +kernel)
set_option maxRecDepth 20000 in
theorem gX1_part_X1_make : GoodIn wsX1_part (wsV RX1 63 RX1 yX1_make wsX1_make) := goodIn_app (goodIn_of _ (by decide +kernel)) ggX1_part_X1_make
theorem dX1_part_0 : decode cX1_part 0 = .ok (.iload_n 2, 1) := by decide +kernel
theorem dX1_part_1 : decode cX1_part 1 = .ok (.iload_n 3, 1) := by decide +kernel
theorem dX1_part_2 : decode cX1_part 2 = .ok (.if_icmp .ne 5, 3) := by decide +kernel
theorem dX1_part_5 : decode cX1_part 5 = .ok (.iload_n 2, 1) := by decide +kernel
theorem dX1_part_6 : decode cX1_part 6 = .ok (.ireturn, 1) := by decide +kernel
theorem dX1_part_7 : decode cX1_part 7 = .ok (.iload_n 2, 1) := by decide +kernel
theorem dX1_part_8 : decode cX1_part 8 = .ok (.bipush 31, 2) := by decide +kernel
theorem dX1_part_10 : decode cX1_part 10 = .ok (.imul, 1) := by decide +kernel
theorem dX1_part_11 : decode cX1_part 11 = .ok (.iload_n 3, 1) := by decide +kernel
theorem dX1_part_12 : decode cX1_part 12 = .ok (.iadd, 1) := by decide +kernel
theorem dX1_part_13 : decode cX1_part 13 = .ok (.bipush 31, 2) := by decide +kernel
theorem dX1_part_15 : decode cX1_part 15 = .ok (.imul, 1) := by decide +kernel
theorem dX1_part_16 : decode cX1_part 16 = .ok (.iload_n 1, 1) := by decide +kernel
theorem dX1_part_17 : decode cX1_part 17 = .ok (.iadd, 1) := by decide +kernel
theorem dX1_part_18 : decode cX1_part 18 = .ok (.istore 4, 2) := by decide +kernel
theorem dX1_part_20 : decode cX1_part 20 = .ok (.iconst 0, 1) := by decide +kernel
theorem dX1_part_21 : decode cX1_part 21 = .ok (.istore 5, 2) := by decide +kernel
theorem dX1_part_23 : decode cX1_part 23 = .ok (.iload 5, 2) := by decide +kernel
theorem dX1_part_25 : decode cX1_part 25 = .ok (.sipush 1024, 3) := by decide +kernel
theorem dX1_part_28 : decode cX1_part 28 = .ok (.if_icmp .ge 80, 3) := by decide +kernel
theorem dX1_part_31 : decode cX1_part 31 = .ok (.iload 4, 2) := by decide +kernel
theorem dX1_part_33 : decode cX1_part 33 = .ok (.iload 5, 2) := by decide +kernel
theorem dX1_part_35 : decode cX1_part 35 = .ok (.iadd, 1) := by decide +kernel
theorem dX1_part_36 : decode cX1_part 36 = .ok (.sipush 1023, 3) := by decide +kernel
theorem dX1_part_39 : decode cX1_part 39 = .ok (.iand, 1) := by decide +kernel
theorem dX1_part_40 : decode cX1_part 40 = .ok (.istore 6, 2) := by decide +kernel
theorem dX1_part_42 : decode cX1_part 42 = .ok (.aload_n 0, 1) := by decide +kernel
theorem dX1_part_43 : decode cX1_part 43 = .ok (.getfield 24, 3) := by decide +kernel
theorem dX1_part_46 : decode cX1_part 46 = .ok (.iload 6, 2) := by decide +kernel
theorem dX1_part_48 : decode cX1_part 48 = .ok (.iaload, 1) := by decide +kernel
theorem dX1_part_49 : decode cX1_part 49 = .ok (.istore 7, 2) := by decide +kernel
theorem dX1_part_51 : decode cX1_part 51 = .ok (.iload 7, 2) := by decide +kernel
theorem dX1_part_53 : decode cX1_part 53 = .ok (.ifCond .ge 13, 3) := by decide +kernel
theorem dX1_part_56 : decode cX1_part 56 = .ok (.aload_n 0, 1) := by decide +kernel
theorem dX1_part_57 : decode cX1_part 57 = .ok (.iload 6, 2) := by decide +kernel
theorem dX1_part_59 : decode cX1_part 59 = .ok (.iload_n 1, 1) := by decide +kernel
theorem dX1_part_60 : decode cX1_part 60 = .ok (.iload_n 2, 1) := by decide +kernel
theorem dX1_part_61 : decode cX1_part 61 = .ok (.iload_n 3, 1) := by decide +kernel
theorem dX1_part_62 : decode cX1_part 62 = .ok (.invokevirtual 63, 3) := by decide +kernel
theorem dX1_part_65 : decode cX1_part 65 = .ok (.ireturn, 1) := by decide +kernel
theorem dX1_part_66 : decode cX1_part 66 = .ok (.aload_n 0, 1) := by decide +kernel
theorem dX1_part_67 : decode cX1_part 67 = .ok (.getfield 9, 3) := by decide +kernel
theorem dX1_part_70 : decode cX1_part 70 = .ok (.iload 7, 2) := by decide +kernel
theorem dX1_part_72 : decode cX1_part 72 = .ok (.iaload, 1) := by decide +kernel
theorem dX1_part_73 : decode cX1_part 73 = .ok (.iload_n 1, 1) := by decide +kernel
theorem dX1_part_74 : decode cX1_part 74 = .ok (.if_icmp .ne 28, 3) := by decide +kernel
theorem dX1_part_77 : decode cX1_part 77 = .ok (.aload_n 0, 1) := by decide +kernel
theorem dX1_part_78 : decode cX1_part 78 = .ok (.getfield 15, 3) := by decide +kernel
theorem dX1_part_81 : decode cX1_part 81 = .ok (.iload 7, 2) := by decide +kernel
theorem dX1_part_83 : decode cX1_part 83 = .ok (.iaload, 1) := by decide +kernel
theorem dX1_part_84 : decode cX1_part 84 = .ok (.iload_n 2, 1) := by decide +kernel
theorem dX1_part_85 : decode cX1_part 85 = .ok (.if_icmp .ne 17, 3) := by decide +kernel
theorem dX1_part_88 : decode cX1_part 88 = .ok (.aload_n 0, 1) := by decide +kernel
theorem dX1_part_89 : decode cX1_part 89 = .ok (.getfield 18, 3) := by decide +kernel
theorem dX1_part_92 : decode cX1_part 92 = .ok (.iload 7, 2) := by decide +kernel
theorem dX1_part_94 : decode cX1_part 94 = .ok (.iaload, 1) := by decide +kernel
theorem dX1_part_95 : decode cX1_part 95 = .ok (.iload_n 3, 1) := by decide +kernel
theorem dX1_part_96 : decode cX1_part 96 = .ok (.if_icmp .ne 6, 3) := by decide +kernel
theorem dX1_part_99 : decode cX1_part 99 = .ok (.iload 7, 2) := by decide +kernel
theorem dX1_part_101 : decode cX1_part 101 = .ok (.ireturn, 1) := by decide +kernel
theorem dX1_part_102 : decode cX1_part 102 = .ok (.iinc 5 1, 3) := by decide +kernel
theorem dX1_part_105 : decode cX1_part 105 = .ok (.goto (-82), 3) := by decide +kernel
theorem dX1_part_108 : decode cX1_part 108 = .ok (.iconst (-1), 1) := by decide +kernel
theorem dX1_part_109 : decode cX1_part 109 = .ok (.ireturn, 1) := by decide +kernel
theorem dX1_make_0 : decode cX1_make 0 = .ok (.aload_n 0, 1) := by decide +kernel
theorem dX1_make_1 : decode cX1_make 1 = .ok (.getfield 39, 3) := by decide +kernel
theorem dX1_make_4 : decode cX1_make 4 = .ok (.sipush 626, 3) := by decide +kernel
theorem dX1_make_7 : decode cX1_make 7 = .ok (.if_icmp .lt 5, 3) := by decide +kernel
theorem dX1_make_10 : decode cX1_make 10 = .ok (.iconst (-1), 1) := by decide +kernel
theorem dX1_make_11 : decode cX1_make 11 = .ok (.ireturn, 1) := by decide +kernel
theorem dX1_make_12 : decode cX1_make 12 = .ok (.aload_n 0, 1) := by decide +kernel
theorem dX1_make_13 : decode cX1_make 13 = .ok (.getfield 39, 3) := by decide +kernel
theorem dX1_make_16 : decode cX1_make 16 = .ok (.istore 5, 2) := by decide +kernel
theorem dX1_make_18 : decode cX1_make 18 = .ok (.aload_n 0, 1) := by decide +kernel
theorem dX1_make_19 : decode cX1_make 19 = .ok (.dup, 1) := by decide +kernel
theorem dX1_make_20 : decode cX1_make 20 = .ok (.getfield 39, 3) := by decide +kernel
theorem dX1_make_23 : decode cX1_make 23 = .ok (.iconst 1, 1) := by decide +kernel
theorem dX1_make_24 : decode cX1_make 24 = .ok (.iadd, 1) := by decide +kernel
theorem dX1_make_25 : decode cX1_make 25 = .ok (.putfield 39, 3) := by decide +kernel
theorem dX1_make_28 : decode cX1_make 28 = .ok (.aload_n 0, 1) := by decide +kernel
theorem dX1_make_29 : decode cX1_make 29 = .ok (.getfield 24, 3) := by decide +kernel
theorem dX1_make_32 : decode cX1_make 32 = .ok (.iload_n 1, 1) := by decide +kernel
theorem dX1_make_33 : decode cX1_make 33 = .ok (.iload 5, 2) := by decide +kernel
theorem dX1_make_35 : decode cX1_make 35 = .ok (.iastore, 1) := by decide +kernel
theorem dX1_make_36 : decode cX1_make 36 = .ok (.aload_n 0, 1) := by decide +kernel
theorem dX1_make_37 : decode cX1_make 37 = .ok (.getfield 9, 3) := by decide +kernel
theorem dX1_make_40 : decode cX1_make 40 = .ok (.iload 5, 2) := by decide +kernel
theorem dX1_make_42 : decode cX1_make 42 = .ok (.iload_n 2, 1) := by decide +kernel
theorem dX1_make_43 : decode cX1_make 43 = .ok (.iastore, 1) := by decide +kernel
theorem dX1_make_44 : decode cX1_make 44 = .ok (.aload_n 0, 1) := by decide +kernel
theorem dX1_make_45 : decode cX1_make 45 = .ok (.getfield 15, 3) := by decide +kernel
theorem dX1_make_48 : decode cX1_make 48 = .ok (.iload 5, 2) := by decide +kernel
theorem dX1_make_50 : decode cX1_make 50 = .ok (.iload_n 3, 1) := by decide +kernel
theorem dX1_make_51 : decode cX1_make 51 = .ok (.iastore, 1) := by decide +kernel
theorem dX1_make_52 : decode cX1_make 52 = .ok (.aload_n 0, 1) := by decide +kernel
theorem dX1_make_53 : decode cX1_make 53 = .ok (.getfield 18, 3) := by decide +kernel
theorem dX1_make_56 : decode cX1_make 56 = .ok (.iload 5, 2) := by decide +kernel
theorem dX1_make_58 : decode cX1_make 58 = .ok (.iload 4, 2) := by decide +kernel
theorem dX1_make_60 : decode cX1_make 60 = .ok (.iastore, 1) := by decide +kernel
theorem dX1_make_61 : decode cX1_make 61 = .ok (.aload_n 0, 1) := by decide +kernel
theorem dX1_make_62 : decode cX1_make 62 = .ok (.getfield 21, 3) := by decide +kernel
theorem dX1_make_65 : decode cX1_make 65 = .ok (.iload 5, 2) := by decide +kernel
theorem dX1_make_67 : decode cX1_make 67 = .ok (.iconst 0, 1) := by decide +kernel
theorem dX1_make_68 : decode cX1_make 68 = .ok (.iastore, 1) := by decide +kernel
theorem dX1_make_69 : decode cX1_make 69 = .ok (.iload 5, 2) := by decide +kernel
theorem dX1_make_71 : decode cX1_make 71 = .ok (.ireturn, 1) := by decide +kernel
set_option maxRecDepth 20000 in
theorem ggX1_putInRow_J7_fill_53178 : GoodIn wsX1_putInRow wsJ7_fill_53178 := goodIn_r _ [8] (by decide +kernel) (by decide +kernel)
set_option maxRecDepth 20000 in
theorem gX1_putInRow_J7_fill_53178 : GoodIn wsX1_putInRow (va_wsS RX1 43 yJ7_fill_53178 wsJ7_fill_53178) := goodIn_app (goodIn_of _ (by decide +kernel)) ggX1_putInRow_J7_fill_53178
set_option maxRecDepth 20000 in
theorem ggX1_putInRow_X1_walk : GoodIn wsX1_putInRow wsX1_walk := goodIn_r _ [12, 13, 1, 3, 4, 14, 15, 16, 11, 17, 9, 10, 29, 30, 31, 32, 33, 34, 35, 36, 37, 38, 22, 23, 24, 25, 26, 27, 28] (by decide +kernel) (by decide +kernel)
set_option maxRecDepth 20000 in
theorem gX1_putInRow_X1_walk : GoodIn wsX1_putInRow (va_wsS RX1 70 yX1_walk wsX1_walk) := goodIn_app (goodIn_of _ (by decide +kernel)) ggX1_putInRow_X1_walk
set_option maxRecDepth 20000 in
theorem ggX1_putInRow_X1_placeOrLeaf : GoodIn wsX1_putInRow wsX1_placeOrLeaf := goodIn_r _ [21, 1, 29, 30, 31, 32, 33, 34, 35, 36, 37, 38] (by decide +kernel) (by decide +kernel)
set_option maxRecDepth 20000 in
theorem gX1_putInRow_X1_placeOrLeaf : GoodIn wsX1_putInRow (wsV RX1 80 RX1 yX1_placeOrLeaf wsX1_placeOrLeaf) := goodIn_app (goodIn_of _ (by decide +kernel)) ggX1_putInRow_X1_placeOrLeaf
theorem dX1_putInRow_0 : decode cX1_putInRow 0 = .ok (.aload_n 1, 1) := by decide +kernel
theorem dX1_putInRow_1 : decode cX1_putInRow 1 = .ok (.iconst 0, 1) := by decide +kernel
theorem dX1_putInRow_2 : decode cX1_putInRow 2 = .ok (.putfield 67, 3) := by decide +kernel
theorem dX1_putInRow_5 : decode cX1_putInRow 5 = .ok (.aload_n 0, 1) := by decide +kernel
theorem dX1_putInRow_6 : decode cX1_putInRow 6 = .ok (.getfield 36, 3) := by decide +kernel
theorem dX1_putInRow_9 : decode cX1_putInRow 9 = .ok (.iconst (-1), 1) := by decide +kernel
theorem dX1_putInRow_10 : decode cX1_putInRow 10 = .ok (.invokestatic 43, 3) := by decide +kernel
theorem dX1_putInRow_13 : decode cX1_putInRow 13 = .ok (.aload_n 0, 1) := by decide +kernel
theorem dX1_putInRow_14 : decode cX1_putInRow 14 = .ok (.aload_n 1, 1) := by decide +kernel
theorem dX1_putInRow_15 : decode cX1_putInRow 15 = .ok (.iload_n 2, 1) := by decide +kernel
theorem dX1_putInRow_16 : decode cX1_putInRow 16 = .ok (.iconst 0, 1) := by decide +kernel
theorem dX1_putInRow_17 : decode cX1_putInRow 17 = .ok (.invokestatic 70, 3) := by decide +kernel
theorem dX1_putInRow_20 : decode cX1_putInRow 20 = .ok (.iconst 0, 1) := by decide +kernel
theorem dX1_putInRow_21 : decode cX1_putInRow 21 = .ok (.istore_n 3, 1) := by decide +kernel
theorem dX1_putInRow_22 : decode cX1_putInRow 22 = .ok (.iload_n 3, 1) := by decide +kernel
theorem dX1_putInRow_23 : decode cX1_putInRow 23 = .ok (.aload_n 1, 1) := by decide +kernel
theorem dX1_putInRow_24 : decode cX1_putInRow 24 = .ok (.getfield 67, 3) := by decide +kernel
theorem dX1_putInRow_27 : decode cX1_putInRow 27 = .ok (.if_icmp .ge 62, 3) := by decide +kernel
theorem dX1_putInRow_30 : decode cX1_putInRow 30 = .ok (.aload_n 1, 1) := by decide +kernel
theorem dX1_putInRow_31 : decode cX1_putInRow 31 = .ok (.getfield 74, 3) := by decide +kernel
theorem dX1_putInRow_34 : decode cX1_putInRow 34 = .ok (.iload_n 3, 1) := by decide +kernel
theorem dX1_putInRow_35 : decode cX1_putInRow 35 = .ok (.iaload, 1) := by decide +kernel
theorem dX1_putInRow_36 : decode cX1_putInRow 36 = .ok (.istore 4, 2) := by decide +kernel
theorem dX1_putInRow_38 : decode cX1_putInRow 38 = .ok (.aload_n 0, 1) := by decide +kernel
theorem dX1_putInRow_39 : decode cX1_putInRow 39 = .ok (.getfield 21, 3) := by decide +kernel
theorem dX1_putInRow_42 : decode cX1_putInRow 42 = .ok (.iload 4, 2) := by decide +kernel
theorem dX1_putInRow_44 : decode cX1_putInRow 44 = .ok (.dup2, 1) := by decide +kernel
theorem dX1_putInRow_45 : decode cX1_putInRow 45 = .ok (.iaload, 1) := by decide +kernel
theorem dX1_putInRow_46 : decode cX1_putInRow 46 = .ok (.iconst 1, 1) := by decide +kernel
theorem dX1_putInRow_47 : decode cX1_putInRow 47 = .ok (.iadd, 1) := by decide +kernel
theorem dX1_putInRow_48 : decode cX1_putInRow 48 = .ok (.iastore, 1) := by decide +kernel
theorem dX1_putInRow_49 : decode cX1_putInRow 49 = .ok (.aload_n 1, 1) := by decide +kernel
theorem dX1_putInRow_50 : decode cX1_putInRow 50 = .ok (.getfield 77, 3) := by decide +kernel
theorem dX1_putInRow_53 : decode cX1_putInRow 53 = .ok (.iload_n 3, 1) := by decide +kernel
theorem dX1_putInRow_54 : decode cX1_putInRow 54 = .ok (.aload_n 0, 1) := by decide +kernel
theorem dX1_putInRow_55 : decode cX1_putInRow 55 = .ok (.aload_n 0, 1) := by decide +kernel
theorem dX1_putInRow_56 : decode cX1_putInRow 56 = .ok (.getfield 15, 3) := by decide +kernel
theorem dX1_putInRow_59 : decode cX1_putInRow 59 = .ok (.iload 4, 2) := by decide +kernel
theorem dX1_putInRow_61 : decode cX1_putInRow 61 = .ok (.iaload, 1) := by decide +kernel
theorem dX1_putInRow_62 : decode cX1_putInRow 62 = .ok (.invokevirtual 80, 3) := by decide +kernel
theorem dX1_putInRow_65 : decode cX1_putInRow 65 = .ok (.iastore, 1) := by decide +kernel
theorem dX1_putInRow_66 : decode cX1_putInRow 66 = .ok (.aload_n 1, 1) := by decide +kernel
theorem dX1_putInRow_67 : decode cX1_putInRow 67 = .ok (.getfield 83, 3) := by decide +kernel
theorem dX1_putInRow_70 : decode cX1_putInRow 70 = .ok (.iload_n 3, 1) := by decide +kernel
theorem dX1_putInRow_71 : decode cX1_putInRow 71 = .ok (.aload_n 0, 1) := by decide +kernel
theorem dX1_putInRow_72 : decode cX1_putInRow 72 = .ok (.aload_n 0, 1) := by decide +kernel
theorem dX1_putInRow_73 : decode cX1_putInRow 73 = .ok (.getfield 18, 3) := by decide +kernel
theorem dX1_putInRow_76 : decode cX1_putInRow 76 = .ok (.iload 4, 2) := by decide +kernel
theorem dX1_putInRow_78 : decode cX1_putInRow 78 = .ok (.iaload, 1) := by decide +kernel
theorem dX1_putInRow_79 : decode cX1_putInRow 79 = .ok (.invokevirtual 80, 3) := by decide +kernel
theorem dX1_putInRow_82 : decode cX1_putInRow 82 = .ok (.iastore, 1) := by decide +kernel
theorem dX1_putInRow_83 : decode cX1_putInRow 83 = .ok (.iinc 3 1, 3) := by decide +kernel
theorem dX1_putInRow_86 : decode cX1_putInRow 86 = .ok (.goto (-64), 3) := by decide +kernel
theorem dX1_putInRow_89 : decode cX1_putInRow 89 = .ok (.return_, 1) := by decide +kernel
theorem dX1_placeOrLeaf_0 : decode cX1_placeOrLeaf 0 = .ok (.iload_n 1, 1) := by decide +kernel
theorem dX1_placeOrLeaf_1 : decode cX1_placeOrLeaf 1 = .ok (.ifCond .ge 7, 3) := by decide +kernel
theorem dX1_placeOrLeaf_4 : decode cX1_placeOrLeaf 4 = .ok (.iload_n 1, 1) := by decide +kernel
theorem dX1_placeOrLeaf_5 : decode cX1_placeOrLeaf 5 = .ok (.goto 9, 3) := by decide +kernel
theorem dX1_placeOrLeaf_8 : decode cX1_placeOrLeaf 8 = .ok (.aload_n 0, 1) := by decide +kernel
theorem dX1_placeOrLeaf_9 : decode cX1_placeOrLeaf 9 = .ok (.getfield 36, 3) := by decide +kernel
theorem dX1_placeOrLeaf_12 : decode cX1_placeOrLeaf 12 = .ok (.iload_n 1, 1) := by decide +kernel
theorem dX1_placeOrLeaf_13 : decode cX1_placeOrLeaf 13 = .ok (.iaload, 1) := by decide +kernel
theorem dX1_placeOrLeaf_14 : decode cX1_placeOrLeaf 14 = .ok (.ireturn, 1) := by decide +kernel
set_option maxRecDepth 20000 in
theorem ggX1_walk_X1_putLast : GoodIn wsX1_walk wsX1_putLast := goodIn_r _ [9, 2, 22, 23, 24, 25, 26, 27, 28, 12, 13, 14, 15, 16, 17, 18, 19, 20, 21] (by decide +kernel) (by decide +kernel)
set_option maxRecDepth 20000 in
theorem gX1_walk_X1_putLast : GoodIn wsX1_walk (wsV RX1 89 RX1 yX1_putLast wsX1_putLast) := goodIn_app (goodIn_of _ (by decide +kernel)) ggX1_walk_X1_putLast
set_option maxRecDepth 20000 in
theorem ggX1_walk_X1_walk : GoodIn wsX1_walk wsX1_walk := goodIn_r _ [0, 1, 2, 3, 4, 5, 6, 7, 8, 9, 10, 11, 12, 13, 14, 15, 16, 17, 18, 19, 20, 21, 22, 23, 24, 25, 26, 27, 28] (by decide +kernel) (by decide +kernel)
set_option maxRecDepth 20000 in
theorem gX1_walk_X1_walk : GoodIn wsX1_walk (va_wsS RX1 70 yX1_walk wsX1_walk) := goodIn_app (goodIn_of _ (by decide +kernel)) ggX1_walk_X1_walk
theorem dX1_walk_0 : decode cX1_walk 0 = .ok (.iload_n 2, 1) := by decide +kernel
theorem dX1_walk_1 : decode cX1_walk 1 = .ok (.ifCond .lt 17, 3) := by decide +kernel
theorem dX1_walk_4 : decode cX1_walk 4 = .ok (.iload_n 2, 1) := by decide +kernel
theorem dX1_walk_5 : decode cX1_walk 5 = .ok (.aload_n 0, 1) := by decide +kernel
theorem dX1_walk_6 : decode cX1_walk 6 = .ok (.getfield 39, 3) := by decide +kernel
theorem dX1_walk_9 : decode cX1_walk 9 = .ok (.if_icmp .ge 9, 3) := by decide +kernel
theorem dX1_walk_12 : decode cX1_walk 12 = .ok (.iload_n 3, 1) := by decide +kernel
theorem dX1_walk_13 : decode cX1_walk 13 = .ok (.bipush 8, 2) := by decide +kernel
theorem dX1_walk_15 : decode cX1_walk 15 = .ok (.if_icmp .lt 4, 3) := by decide +kernel
theorem dX1_walk_18 : decode cX1_walk 18 = .ok (.return_, 1) := by decide +kernel
theorem dX1_walk_19 : decode cX1_walk 19 = .ok (.aload_n 0, 1) := by decide +kernel
theorem dX1_walk_20 : decode cX1_walk 20 = .ok (.getfield 36, 3) := by decide +kernel
theorem dX1_walk_23 : decode cX1_walk 23 = .ok (.iload_n 2, 1) := by decide +kernel
theorem dX1_walk_24 : decode cX1_walk 24 = .ok (.iaload, 1) := by decide +kernel
theorem dX1_walk_25 : decode cX1_walk 25 = .ok (.istore 4, 2) := by decide +kernel
theorem dX1_walk_27 : decode cX1_walk 27 = .ok (.iload 4, 2) := by decide +kernel
theorem dX1_walk_29 : decode cX1_walk 29 = .ok (.ifCond .ge 20, 3) := by decide +kernel
theorem dX1_walk_32 : decode cX1_walk 32 = .ok (.aload_n 1, 1) := by decide +kernel
theorem dX1_walk_33 : decode cX1_walk 33 = .ok (.getfield 67, 3) := by decide +kernel
theorem dX1_walk_36 : decode cX1_walk 36 = .ok (.bipush 77, 2) := by decide +kernel
theorem dX1_walk_38 : decode cX1_walk 38 = .ok (.if_icmp .lt 7, 3) := by decide +kernel
theorem dX1_walk_41 : decode cX1_walk 41 = .ok (.iconst 1, 1) := by decide +kernel
theorem dX1_walk_42 : decode cX1_walk 42 = .ok (.goto 23, 3) := by decide +kernel
theorem dX1_walk_45 : decode cX1_walk 45 = .ok (.iconst 0, 1) := by decide +kernel
theorem dX1_walk_46 : decode cX1_walk 46 = .ok (.goto 19, 3) := by decide +kernel
theorem dX1_walk_49 : decode cX1_walk 49 = .ok (.iload_n 3, 1) := by decide +kernel
theorem dX1_walk_50 : decode cX1_walk 50 = .ok (.aload_n 1, 1) := by decide +kernel
theorem dX1_walk_51 : decode cX1_walk 51 = .ok (.getfield 86, 3) := by decide +kernel
theorem dX1_walk_54 : decode cX1_walk 54 = .ok (.iload 4, 2) := by decide +kernel
theorem dX1_walk_56 : decode cX1_walk 56 = .ok (.iaload, 1) := by decide +kernel
theorem dX1_walk_57 : decode cX1_walk 57 = .ok (.if_icmp .lt 7, 3) := by decide +kernel
theorem dX1_walk_60 : decode cX1_walk 60 = .ok (.iconst 1, 1) := by decide +kernel
theorem dX1_walk_61 : decode cX1_walk 61 = .ok (.goto 4, 3) := by decide +kernel
theorem dX1_walk_64 : decode cX1_walk 64 = .ok (.iconst 0, 1) := by decide +kernel
theorem dX1_walk_65 : decode cX1_walk 65 = .ok (.istore 5, 2) := by decide +kernel
theorem dX1_walk_67 : decode cX1_walk 67 = .ok (.iload 5, 2) := by decide +kernel
theorem dX1_walk_69 : decode cX1_walk 69 = .ok (.ifCond .eq 4, 3) := by decide +kernel
theorem dX1_walk_72 : decode cX1_walk 72 = .ok (.return_, 1) := by decide +kernel
theorem dX1_walk_73 : decode cX1_walk 73 = .ok (.iload 4, 2) := by decide +kernel
theorem dX1_walk_75 : decode cX1_walk 75 = .ok (.ifCond .ge 11, 3) := by decide +kernel
theorem dX1_walk_78 : decode cX1_walk 78 = .ok (.aload_n 0, 1) := by decide +kernel
theorem dX1_walk_79 : decode cX1_walk 79 = .ok (.aload_n 1, 1) := by decide +kernel
theorem dX1_walk_80 : decode cX1_walk 80 = .ok (.iload_n 2, 1) := by decide +kernel
theorem dX1_walk_81 : decode cX1_walk 81 = .ok (.invokevirtual 89, 3) := by decide +kernel
theorem dX1_walk_84 : decode cX1_walk 84 = .ok (.istore 4, 2) := by decide +kernel
theorem dX1_walk_86 : decode cX1_walk 86 = .ok (.aload_n 1, 1) := by decide +kernel
theorem dX1_walk_87 : decode cX1_walk 87 = .ok (.getfield 86, 3) := by decide +kernel
theorem dX1_walk_90 : decode cX1_walk 90 = .ok (.iload 4, 2) := by decide +kernel
theorem dX1_walk_92 : decode cX1_walk 92 = .ok (.iload_n 3, 1) := by decide +kernel
theorem dX1_walk_93 : decode cX1_walk 93 = .ok (.iastore, 1) := by decide +kernel
theorem dX1_walk_94 : decode cX1_walk 94 = .ok (.aload_n 0, 1) := by decide +kernel
theorem dX1_walk_95 : decode cX1_walk 95 = .ok (.aload_n 1, 1) := by decide +kernel
theorem dX1_walk_96 : decode cX1_walk 96 = .ok (.aload_n 0, 1) := by decide +kernel
theorem dX1_walk_97 : decode cX1_walk 97 = .ok (.getfield 15, 3) := by decide +kernel
theorem dX1_walk_100 : decode cX1_walk 100 = .ok (.iload_n 2, 1) := by decide +kernel
theorem dX1_walk_101 : decode cX1_walk 101 = .ok (.iaload, 1) := by decide +kernel
theorem dX1_walk_102 : decode cX1_walk 102 = .ok (.iload_n 3, 1) := by decide +kernel
theorem dX1_walk_103 : decode cX1_walk 103 = .ok (.iconst 1, 1) := by decide +kernel
theorem dX1_walk_104 : decode cX1_walk 104 = .ok (.iadd, 1) := by decide +kernel
theorem dX1_walk_105 : decode cX1_walk 105 = .ok (.invokestatic 70, 3) := by decide +kernel
theorem dX1_walk_108 : decode cX1_walk 108 = .ok (.aload_n 0, 1) := by decide +kernel
theorem dX1_walk_109 : decode cX1_walk 109 = .ok (.aload_n 1, 1) := by decide +kernel
theorem dX1_walk_110 : decode cX1_walk 110 = .ok (.aload_n 0, 1) := by decide +kernel
theorem dX1_walk_111 : decode cX1_walk 111 = .ok (.getfield 18, 3) := by decide +kernel
theorem dX1_walk_114 : decode cX1_walk 114 = .ok (.iload_n 2, 1) := by decide +kernel
theorem dX1_walk_115 : decode cX1_walk 115 = .ok (.iaload, 1) := by decide +kernel
theorem dX1_walk_116 : decode cX1_walk 116 = .ok (.iload_n 3, 1) := by decide +kernel
theorem dX1_walk_117 : decode cX1_walk 117 = .ok (.iconst 1, 1) := by decide +kernel
theorem dX1_walk_118 : decode cX1_walk 118 = .ok (.iadd, 1) := by decide +kernel
theorem dX1_walk_119 : decode cX1_walk 119 = .ok (.invokestatic 70, 3) := by decide +kernel
theorem dX1_walk_122 : decode cX1_walk 122 = .ok (.return_, 1) := by decide +kernel
theorem dX1_putLast_0 : decode cX1_putLast 0 = .ok (.aload_n 1, 1) := by decide +kernel
theorem dX1_putLast_1 : decode cX1_putLast 1 = .ok (.getfield 67, 3) := by decide +kernel
theorem dX1_putLast_4 : decode cX1_putLast 4 = .ok (.istore_n 3, 1) := by decide +kernel
theorem dX1_putLast_5 : decode cX1_putLast 5 = .ok (.aload_n 1, 1) := by decide +kernel
theorem dX1_putLast_6 : decode cX1_putLast 6 = .ok (.dup, 1) := by decide +kernel
theorem dX1_putLast_7 : decode cX1_putLast 7 = .ok (.getfield 67, 3) := by decide +kernel
theorem dX1_putLast_10 : decode cX1_putLast 10 = .ok (.iconst 1, 1) := by decide +kernel
theorem dX1_putLast_11 : decode cX1_putLast 11 = .ok (.iadd, 1) := by decide +kernel
theorem dX1_putLast_12 : decode cX1_putLast 12 = .ok (.putfield 67, 3) := by decide +kernel
theorem dX1_putLast_15 : decode cX1_putLast 15 = .ok (.aload_n 1, 1) := by decide +kernel
theorem dX1_putLast_16 : decode cX1_putLast 16 = .ok (.getfield 74, 3) := by decide +kernel
theorem dX1_putLast_19 : decode cX1_putLast 19 = .ok (.iload_n 3, 1) := by decide +kernel
theorem dX1_putLast_20 : decode cX1_putLast 20 = .ok (.iload_n 2, 1) := by decide +kernel
theorem dX1_putLast_21 : decode cX1_putLast 21 = .ok (.iastore, 1) := by decide +kernel
theorem dX1_putLast_22 : decode cX1_putLast 22 = .ok (.aload_n 0, 1) := by decide +kernel
theorem dX1_putLast_23 : decode cX1_putLast 23 = .ok (.getfield 36, 3) := by decide +kernel
theorem dX1_putLast_26 : decode cX1_putLast 26 = .ok (.iload_n 2, 1) := by decide +kernel
theorem dX1_putLast_27 : decode cX1_putLast 27 = .ok (.iload_n 3, 1) := by decide +kernel
theorem dX1_putLast_28 : decode cX1_putLast 28 = .ok (.iastore, 1) := by decide +kernel
theorem dX1_putLast_29 : decode cX1_putLast 29 = .ok (.iload_n 3, 1) := by decide +kernel
theorem dX1_putLast_30 : decode cX1_putLast 30 = .ok (.ireturn, 1) := by decide +kernel
set_option maxRecDepth 20000 in
theorem ggX2_init_X1_init : GoodIn wsX2_init wsX1_init := goodIn_r _ [19, 20, 2, 3, 6, 21, 22, 23, 24, 25, 26, 27, 28, 29, 44, 45, 46, 47, 48, 49, 50, 51, 52, 53] (by decide +kernel) (by decide +kernel)
set_option maxRecDepth 20000 in
theorem gX2_init_X1_init_n21 : GoodIn wsX2_init (wsX1_init) := ggX2_init_X1_init
set_option maxRecDepth 20000 in
theorem ggX2_init_X0_init : GoodIn wsX2_init wsX0_init := goodIn_r _ [31, 32, 2, 3, 12, 33, 6, 34, 35, 36, 37, 54, 55, 56, 57, 58, 59, 60] (by decide +kernel) (by decide +kernel)
set_option maxRecDepth 20000 in
theorem gX2_init_X0_init_n36 : GoodIn wsX2_init (wsX0_init) := ggX2_init_X0_init
theorem dJ9_max_7cf53_0 : decode cJ9_max_7cf53 0 = .ok (.iload_n 0, 1) := by decide +kernel
theorem dJ9_max_7cf53_1 : decode cJ9_max_7cf53 1 = .ok (.iload_n 1, 1) := by decide +kernel
theorem dJ9_max_7cf53_2 : decode cJ9_max_7cf53 2 = .ok (.if_icmp .lt 7, 3) := by decide +kernel
theorem dJ9_max_7cf53_5 : decode cJ9_max_7cf53 5 = .ok (.iload_n 0, 1) := by decide +kernel
theorem dJ9_max_7cf53_6 : decode cJ9_max_7cf53 6 = .ok (.goto 4, 3) := by decide +kernel
theorem dJ9_max_7cf53_9 : decode cJ9_max_7cf53 9 = .ok (.iload_n 1, 1) := by decide +kernel
theorem dJ9_max_7cf53_10 : decode cJ9_max_7cf53 10 = .ok (.ireturn, 1) := by decide +kernel
theorem dJ9_min_7cf53_0 : decode cJ9_min_7cf53 0 = .ok (.iload_n 0, 1) := by decide +kernel
theorem dJ9_min_7cf53_1 : decode cJ9_min_7cf53 1 = .ok (.iload_n 1, 1) := by decide +kernel
theorem dJ9_min_7cf53_2 : decode cJ9_min_7cf53 2 = .ok (.if_icmp .gt 7, 3) := by decide +kernel
theorem dJ9_min_7cf53_5 : decode cJ9_min_7cf53 5 = .ok (.iload_n 0, 1) := by decide +kernel
theorem dJ9_min_7cf53_6 : decode cJ9_min_7cf53 6 = .ok (.goto 4, 3) := by decide +kernel
theorem dJ9_min_7cf53_9 : decode cJ9_min_7cf53 9 = .ok (.iload_n 1, 1) := by decide +kernel
theorem dJ9_min_7cf53_10 : decode cJ9_min_7cf53 10 = .ok (.ireturn, 1) := by decide +kernel
theorem dJ7_fill_53178_0 : decode cJ7_fill_53178 0 = .ok (.iconst 0, 1) := by decide +kernel
theorem dJ7_fill_53178_1 : decode cJ7_fill_53178 1 = .ok (.istore_n 2, 1) := by decide +kernel
theorem dJ7_fill_53178_2 : decode cJ7_fill_53178 2 = .ok (.aload_n 0, 1) := by decide +kernel
theorem dJ7_fill_53178_3 : decode cJ7_fill_53178 3 = .ok (.arraylength, 1) := by decide +kernel
theorem dJ7_fill_53178_4 : decode cJ7_fill_53178 4 = .ok (.istore_n 3, 1) := by decide +kernel
theorem dJ7_fill_53178_5 : decode cJ7_fill_53178 5 = .ok (.iload_n 2, 1) := by decide +kernel
theorem dJ7_fill_53178_6 : decode cJ7_fill_53178 6 = .ok (.iload_n 3, 1) := by decide +kernel
theorem dJ7_fill_53178_7 : decode cJ7_fill_53178 7 = .ok (.if_icmp .ge 13, 3) := by decide +kernel
theorem dJ7_fill_53178_10 : decode cJ7_fill_53178 10 = .ok (.aload_n 0, 1) := by decide +kernel
theorem dJ7_fill_53178_11 : decode cJ7_fill_53178 11 = .ok (.iload_n 2, 1) := by decide +kernel
theorem dJ7_fill_53178_12 : decode cJ7_fill_53178 12 = .ok (.iload_n 1, 1) := by decide +kernel
theorem dJ7_fill_53178_13 : decode cJ7_fill_53178 13 = .ok (.iastore, 1) := by decide +kernel
theorem dJ7_fill_53178_14 : decode cJ7_fill_53178 14 = .ok (.iinc 2 1, 3) := by decide +kernel
theorem dJ7_fill_53178_17 : decode cJ7_fill_53178 17 = .ok (.goto (-12), 3) := by decide +kernel
theorem dJ7_fill_53178_20 : decode cJ7_fill_53178 20 = .ok (.return_, 1) := by decide +kernel
end
section
theorem dX2_init_0 : decode cX2_init 0 = .ok (.aload_n 0, 1) := by decide +kernel
theorem dX2_init_1 : decode cX2_init 1 = .ok (.invokespecial 1, 3) := by decide +kernel
theorem dX2_init_4 : decode cX2_init 4 = .ok (.aload_n 0, 1) := by decide +kernel
theorem dX2_init_5 : decode cX2_init 5 = .ok (.bipush 12, 2) := by decide +kernel
theorem dX2_init_7 : decode cX2_init 7 = .ok (.anewarray 9, 3) := by decide +kernel
theorem dX2_init_10 : decode cX2_init 10 = .ok (.putfield 11, 3) := by decide +kernel
theorem dX2_init_13 : decode cX2_init 13 = .ok (.aload_n 0, 1) := by decide +kernel
theorem dX2_init_14 : decode cX2_init 14 = .ok (.bipush 8, 2) := by decide +kernel
theorem dX2_init_16 : decode cX2_init 16 = .ok (.newarray .int, 2) := by decide +kernel
theorem dX2_init_18 : decode cX2_init 18 = .ok (.putfield 15, 3) := by decide +kernel
theorem dX2_init_21 : decode cX2_init 21 = .ok (.aload_n 0, 1) := by decide +kernel
theorem dX2_init_22 : decode cX2_init 22 = .ok (.new 19, 3) := by decide +kernel
theorem dX2_init_25 : decode cX2_init 25 = .ok (.dup, 1) := by decide +kernel
theorem dX2_init_26 : decode cX2_init 26 = .ok (.invokespecial 21, 3) := by decide +kernel
theorem dX2_init_29 : decode cX2_init 29 = .ok (.putfield 22, 3) := by decide +kernel
theorem dX2_init_32 : decode cX2_init 32 = .ok (.aload_n 0, 1) := by decide +kernel
theorem dX2_init_33 : decode cX2_init 33 = .ok (.sipush 256, 3) := by decide +kernel
theorem dX2_init_36 : decode cX2_init 36 = .ok (.newarray .boolean, 2) := by decide +kernel
theorem dX2_init_38 : decode cX2_init 38 = .ok (.putfield 26, 3) := by decide +kernel
theorem dX2_init_41 : decode cX2_init 41 = .ok (.aload_n 0, 1) := by decide +kernel
theorem dX2_init_42 : decode cX2_init 42 = .ok (.bipush 8, 2) := by decide +kernel
theorem dX2_init_44 : decode cX2_init 44 = .ok (.newarray .int, 2) := by decide +kernel
theorem dX2_init_46 : decode cX2_init 46 = .ok (.putfield 30, 3) := by decide +kernel
theorem dX2_init_49 : decode cX2_init 49 = .ok (.aload_n 0, 1) := by decide +kernel
theorem dX2_init_50 : decode cX2_init 50 = .ok (.new 19, 3) := by decide +kernel
theorem dX2_init_53 : decode cX2_init 53 = .ok (.dup, 1) := by decide +kernel
theorem dX2_init_54 : decode cX2_init 54 = .ok (.invokespecial 21, 3) := by decide +kernel
theorem dX2_init_57 : decode cX2_init 57 = .ok (.putfield 33, 3) := by decide +kernel
theorem dX2_init_60 : decode cX2_init 60 = .ok (.iconst 0, 1) := by decide +kernel
theorem dX2_init_61 : decode cX2_init 61 = .ok (.istore_n 1, 1) := by decide +kernel
theorem dX2_init_62 : decode cX2_init 62 = .ok (.iload_n 1, 1) := by decide +kernel
theorem dX2_init_63 : decode cX2_init 63 = .ok (.bipush 12, 2) := by decide +kernel
theorem dX2_init_65 : decode cX2_init 65 = .ok (.if_icmp .ge 22, 3) := by decide +kernel
theorem dX2_init_68 : decode cX2_init 68 = .ok (.aload_n 0, 1) := by decide +kernel
theorem dX2_init_69 : decode cX2_init 69 = .ok (.getfield 11, 3) := by decide +kernel
theorem dX2_init_72 : decode cX2_init 72 = .ok (.iload_n 1, 1) := by decide +kernel
theorem dX2_init_73 : decode cX2_init 73 = .ok (.new 9, 3) := by decide +kernel
theorem dX2_init_76 : decode cX2_init 76 = .ok (.dup, 1) := by decide +kernel
theorem dX2_init_77 : decode cX2_init 77 = .ok (.invokespecial 36, 3) := by decide +kernel
theorem dX2_init_80 : decode cX2_init 80 = .ok (.aastore, 1) := by decide +kernel
theorem dX2_init_81 : decode cX2_init 81 = .ok (.iinc 1 1, 3) := by decide +kernel
theorem dX2_init_84 : decode cX2_init 84 = .ok (.goto (-22), 3) := by decide +kernel
theorem dX2_init_87 : decode cX2_init 87 = .ok (.iconst 0, 1) := by decide +kernel
theorem dX2_init_88 : decode cX2_init 88 = .ok (.istore_n 1, 1) := by decide +kernel
theorem dX2_init_89 : decode cX2_init 89 = .ok (.iload_n 1, 1) := by decide +kernel
theorem dX2_init_90 : decode cX2_init 90 = .ok (.bipush 8, 2) := by decide +kernel
theorem dX2_init_92 : decode cX2_init 92 = .ok (.if_icmp .ge 16, 3) := by decide +kernel
theorem dX2_init_95 : decode cX2_init 95 = .ok (.aload_n 0, 1) := by decide +kernel
theorem dX2_init_96 : decode cX2_init 96 = .ok (.getfield 15, 3) := by decide +kernel
theorem dX2_init_99 : decode cX2_init 99 = .ok (.iload_n 1, 1) := by decide +kernel
theorem dX2_init_100 : decode cX2_init 100 = .ok (.iload_n 1, 1) := by decide +kernel
theorem dX2_init_101 : decode cX2_init 101 = .ok (.iastore, 1) := by decide +kernel
theorem dX2_init_102 : decode cX2_init 102 = .ok (.iinc 1 1, 3) := by decide +kernel
theorem dX2_init_105 : decode cX2_init 105 = .ok (.goto (-16), 3) := by decide +kernel
theorem dX2_init_108 : decode cX2_init 108 = .ok (.return_, 1) := by decide +kernel
set_option maxRecDepth 20000 in
theorem ggX2_leaf_X2_freeNumber : GoodIn wsX2_leaf wsX2_freeNumber := goodIn_ca (goodIn_r _ [6, 7, 8, 1, 70, 71, 72, 73, 74, 75, 76, 77, 78, 79, 80, 81, 82] (by decide +kernel) (by decide +kernel)) (goodIn_sub (fun _ h => List.mem_cons_of_mem _ (List.mem_append_right _ h)) (by decide +kernel))
set_option maxRecDepth 20000 in
theorem gX2_leaf_X2_freeNumber : GoodIn wsX2_leaf (wsV RX2 37 RX2 yX2_freeNumber wsX2_freeNumber) := goodIn_app (goodIn_of _ (by decide +kernel)) ggX2_leaf_X2_freeNumber
set_option maxRecDepth 20000 in
theorem ggX2_leaf_X2_keep : GoodIn wsX2_leaf wsX2_keep := goodIn_r _ [12, 1, 13, 14, 15, 5, 16, 17, 18, 19, 20, 21, 22, 23, 24, 25, 26, 27, 28, 29, 30, 31, 32, 33, 34, 35, 36, 37, 38, 39, 40, 41, 42, 43, 44, 45, 46, 47, 48, 49, 50, 51, 52, 53, 54, 55, 56, 57, 58, 59, 60, 61, 62, 63, 64, 65, 66, 67, 68, 69, 70, 71, 72, 73, 74, 75, 76, 77, 78, 79, 80, 81, 82, 83, 84, 85, 86, 87, 88, 89, 90, 91, 92] (by decide +kernel) (by decide +kernel)
set_option maxRecDepth 20000 in
theorem gX2_leaf_X2_keep : GoodIn wsX2_leaf (wsV RX2 44 RX2 yX2_keep wsX2_keep) := goodIn_app (goodIn_of _ (by decide +kernel)) ggX2_leaf_X2_keep
theorem dX2_leaf_0 : decode cX2_leaf 0 = .ok (.aload_n 0, 1) := by decide +kernel
theorem dX2_leaf_1 : decode cX2_leaf 1 = .ok (.invokevirtual 37, 3) := by decide +kernel
theorem dX2_leaf_4 : decode cX2_leaf 4 = .ok (.istore_n 2, 1) := by decide +kernel
theorem dX2_leaf_5 : decode cX2_leaf 5 = .ok (.aload_n 0, 1) := by decide +kernel
theorem dX2_leaf_6 : decode cX2_leaf 6 = .ok (.getfield 11, 3) := by decide +kernel
theorem dX2_leaf_9 : decode cX2_leaf 9 = .ok (.iload_n 2, 1) := by decide +kernel
theorem dX2_leaf_10 : decode cX2_leaf 10 = .ok (.aaload, 1) := by decide +kernel
theorem dX2_leaf_11 : decode cX2_leaf 11 = .ok (.getfield 41, 3) := by decide +kernel
theorem dX2_leaf_14 : decode cX2_leaf 14 = .ok (.astore_n 3, 1) := by decide +kernel
theorem dX2_leaf_15 : decode cX2_leaf 15 = .ok (.iconst 0, 1) := by decide +kernel
theorem dX2_leaf_16 : decode cX2_leaf 16 = .ok (.istore 4, 2) := by decide +kernel
theorem dX2_leaf_18 : decode cX2_leaf 18 = .ok (.iload 4, 2) := by decide +kernel
theorem dX2_leaf_20 : decode cX2_leaf 20 = .ok (.sipush 256, 3) := by decide +kernel
theorem dX2_leaf_23 : decode cX2_leaf 23 = .ok (.if_icmp .ge 14, 3) := by decide +kernel
theorem dX2_leaf_26 : decode cX2_leaf 26 = .ok (.aload_n 3, 1) := by decide +kernel
theorem dX2_leaf_27 : decode cX2_leaf 27 = .ok (.iload 4, 2) := by decide +kernel
theorem dX2_leaf_29 : decode cX2_leaf 29 = .ok (.iload_n 1, 1) := by decide +kernel
theorem dX2_leaf_30 : decode cX2_leaf 30 = .ok (.bastore, 1) := by decide +kernel
theorem dX2_leaf_31 : decode cX2_leaf 31 = .ok (.iinc 4 1, 3) := by decide +kernel
theorem dX2_leaf_34 : decode cX2_leaf 34 = .ok (.goto (-16), 3) := by decide +kernel
theorem dX2_leaf_37 : decode cX2_leaf 37 = .ok (.aload_n 0, 1) := by decide +kernel
theorem dX2_leaf_38 : decode cX2_leaf 38 = .ok (.iload_n 2, 1) := by decide +kernel
theorem dX2_leaf_39 : decode cX2_leaf 39 = .ok (.invokevirtual 44, 3) := by decide +kernel
theorem dX2_leaf_42 : decode cX2_leaf 42 = .ok (.ireturn, 1) := by decide +kernel
set_option maxRecDepth 20000 in
theorem ggX2_ask_X2_checkBelow : GoodIn wsX2_ask wsX2_checkBelow := goodIn_ca (goodIn_r _ [5, 6, 7] (by decide +kernel) (by decide +kernel)) (goodIn_sub (fun _ h => List.mem_cons_of_mem _ (List.mem_append_left _ (List.mem_append_right _ h))) (by decide +kernel))
set_option maxRecDepth 20000 in
theorem gX2_ask_X2_checkBelow : GoodIn wsX2_ask (va_wsS RX2 48 yX2_checkBelow wsX2_checkBelow) := goodIn_app (goodIn_of _ (by decide +kernel)) ggX2_ask_X2_checkBelow
set_option maxRecDepth 20000 in
theorem ggX2_ask_X2_freeNumber : GoodIn wsX2_ask wsX2_freeNumber := goodIn_ca (goodIn_r _ [11, 12, 13, 1, 78, 79, 80, 81, 82, 83, 84, 85, 86, 87, 88, 89, 90] (by decide +kernel) (by decide +kernel)) (goodIn_sub (fun _ h => List.mem_cons_of_mem _ (List.mem_append_right _ h)) (by decide +kernel))
set_option maxRecDepth 20000 in
theorem gX2_ask_X2_freeNumber : GoodIn wsX2_ask (wsV RX2 37 RX2 yX2_freeNumber wsX2_freeNumber) := goodIn_app (goodIn_of _ (by decide +kernel)) ggX2_ask_X2_freeNumber
set_option maxRecDepth 20000 in
theorem ggX2_ask_X2_isYes : GoodIn wsX2_ask wsX2_isYes := goodIn_r _ [16] (by decide +kernel) (by decide +kernel)
set_option maxRecDepth 20000 in
theorem gX2_ask_X2_isYes : GoodIn wsX2_ask (va_wsS RX2 52 yX2_isYes wsX2_isYes) := goodIn_app (goodIn_of _ (by decide +kernel)) ggX2_ask_X2_isYes
set_option maxRecDepth 20000 in
theorem ggX2_ask_X2_keep : GoodIn wsX2_ask wsX2_keep := goodIn_r _ [20, 1, 21, 22, 23, 4, 24, 25, 26, 27, 28, 29, 30, 31, 32, 33, 34, 35, 36, 37, 38, 39, 40, 41, 42, 43, 44, 45, 46, 47, 48, 49, 50, 51, 52, 53, 54, 55, 56, 57, 58, 59, 60, 61, 62, 63, 64, 65, 66, 67, 68, 69, 70, 71, 72, 73, 74, 75, 76, 77, 78, 79, 80, 81, 82, 83, 84, 85, 86, 87, 88, 89, 90, 91, 92, 93, 94, 95, 96, 97, 98, 99, 100] (by decide +kernel) (by decide +kernel)
set_option maxRecDepth 20000 in
theorem gX2_ask_X2_keep : GoodIn wsX2_ask (wsV RX2 44 RX2 yX2_keep wsX2_keep) := goodIn_app (goodIn_of _ (by decide +kernel)) ggX2_ask_X2_keep
theorem dX2_ask_0 : decode cX2_ask 0 = .ok (.iload_n 1, 1) := by decide +kernel
theorem dX2_ask_1 : decode cX2_ask 1 = .ok (.bipush 8, 2) := by decide +kernel
theorem dX2_ask_3 : decode cX2_ask 3 = .ok (.invokestatic 48, 3) := by decide +kernel
theorem dX2_ask_6 : decode cX2_ask 6 = .ok (.aload_n 0, 1) := by decide +kernel
theorem dX2_ask_7 : decode cX2_ask 7 = .ok (.invokevirtual 37, 3) := by decide +kernel
theorem dX2_ask_10 : decode cX2_ask 10 = .ok (.istore_n 2, 1) := by decide +kernel
theorem dX2_ask_11 : decode cX2_ask 11 = .ok (.aload_n 0, 1) := by decide +kernel
theorem dX2_ask_12 : decode cX2_ask 12 = .ok (.getfield 11, 3) := by decide +kernel
theorem dX2_ask_15 : decode cX2_ask 15 = .ok (.iload_n 2, 1) := by decide +kernel
theorem dX2_ask_16 : decode cX2_ask 16 = .ok (.aaload, 1) := by decide +kernel
theorem dX2_ask_17 : decode cX2_ask 17 = .ok (.getfield 41, 3) := by decide +kernel
theorem dX2_ask_20 : decode cX2_ask 20 = .ok (.astore_n 3, 1) := by decide +kernel
theorem dX2_ask_21 : decode cX2_ask 21 = .ok (.iconst 0, 1) := by decide +kernel
theorem dX2_ask_22 : decode cX2_ask 22 = .ok (.istore 4, 2) := by decide +kernel
theorem dX2_ask_24 : decode cX2_ask 24 = .ok (.iload 4, 2) := by decide +kernel
theorem dX2_ask_26 : decode cX2_ask 26 = .ok (.sipush 256, 3) := by decide +kernel
theorem dX2_ask_29 : decode cX2_ask 29 = .ok (.if_icmp .ge 19, 3) := by decide +kernel
theorem dX2_ask_32 : decode cX2_ask 32 = .ok (.aload_n 3, 1) := by decide +kernel
theorem dX2_ask_33 : decode cX2_ask 33 = .ok (.iload 4, 2) := by decide +kernel
theorem dX2_ask_35 : decode cX2_ask 35 = .ok (.iload 4, 2) := by decide +kernel
theorem dX2_ask_37 : decode cX2_ask 37 = .ok (.iload_n 1, 1) := by decide +kernel
theorem dX2_ask_38 : decode cX2_ask 38 = .ok (.invokestatic 52, 3) := by decide +kernel
theorem dX2_ask_41 : decode cX2_ask 41 = .ok (.bastore, 1) := by decide +kernel
theorem dX2_ask_42 : decode cX2_ask 42 = .ok (.iinc 4 1, 3) := by decide +kernel
theorem dX2_ask_45 : decode cX2_ask 45 = .ok (.goto (-21), 3) := by decide +kernel
theorem dX2_ask_48 : decode cX2_ask 48 = .ok (.aload_n 0, 1) := by decide +kernel
theorem dX2_ask_49 : decode cX2_ask 49 = .ok (.iload_n 2, 1) := by decide +kernel
theorem dX2_ask_50 : decode cX2_ask 50 = .ok (.invokevirtual 44, 3) := by decide +kernel
theorem dX2_ask_53 : decode cX2_ask 53 = .ok (.ireturn, 1) := by decide +kernel
set_option maxRecDepth 20000 in
theorem ggX2_join_X2_foldAt : GoodIn wsX2_join wsX2_foldAt := goodIn_ca (goodIn_r _ [6, 7, 8, 1, 85, 86, 87, 88, 89, 90, 91, 92, 93, 94, 95, 96, 97] (by decide +kernel) (by decide +kernel)) (goodIn_sub (fun _ h => List.mem_cons_of_mem _ (List.mem_append_left _ (List.mem_append_right _ h))) (by decide +kernel))
set_option maxRecDepth 20000 in
theorem gX2_join_X2_foldAt : GoodIn wsX2_join (wsV RX2 56 RX2 yX2_foldAt wsX2_foldAt) := goodIn_app (goodIn_of _ (by decide +kernel)) ggX2_join_X2_foldAt
set_option maxRecDepth 20000 in
theorem ggX2_join_X2_checkBelow : GoodIn wsX2_join wsX2_checkBelow := goodIn_ca (goodIn_r _ [11, 7, 8] (by decide +kernel) (by decide +kernel)) (goodIn_sub (fun _ h => List.mem_cons_of_mem _ (List.mem_append_left _ (List.mem_append_right _ h))) (by decide +kernel))
set_option maxRecDepth 20000 in
theorem gX2_join_X2_checkBelow : GoodIn wsX2_join (va_wsS RX2 48 yX2_checkBelow wsX2_checkBelow) := goodIn_app (goodIn_of _ (by decide +kernel)) ggX2_join_X2_checkBelow
set_option maxRecDepth 20000 in
theorem ggX2_join_X2_freeNumber : GoodIn wsX2_join wsX2_freeNumber := goodIn_ca (goodIn_r _ [15, 16, 17, 1, 85, 86, 87, 88, 89, 90, 91, 92, 93, 94, 95, 96, 97] (by decide +kernel) (by decide +kernel)) (goodIn_sub (fun _ h => List.mem_cons_of_mem _ (List.mem_append_right _ h)) (by decide +kernel))
set_option maxRecDepth 20000 in
theorem gX2_join_X2_freeNumber : GoodIn wsX2_join (wsV RX2 37 RX2 yX2_freeNumber wsX2_freeNumber) := goodIn_app (goodIn_of _ (by decide +kernel)) ggX2_join_X2_freeNumber
set_option maxRecDepth 20000 in
theorem ggX2_join_X2_sayJoined : GoodIn wsX2_join wsX2_sayJoined := goodIn_r _ [20, 21, 22, 5, 23, 91, 92, 93, 94, 95, 96, 97] (by decide +kernel) (by decide +kernel)
set_option maxRecDepth 20000 in
theorem gX2_join_X2_sayJoined : GoodIn wsX2_join (va_wsS RX2 60 yX2_sayJoined wsX2_sayJoined) := goodIn_app (goodIn_of _ (by decide +kernel)) ggX2_join_X2_sayJoined
set_option maxRecDepth 20000 in
theorem ggX2_join_X2_keep : GoodIn wsX2_join wsX2_keep := goodIn_r _ [27, 1, 28, 29, 30, 5, 31, 32, 33, 34, 35, 36, 37, 38, 39, 40, 41, 42, 43, 44, 45, 46, 47, 48, 49, 50, 51, 52, 53, 54, 55, 56, 57, 58, 59, 60, 61, 62, 63, 64, 65, 66, 67, 68, 69, 70, 71, 72, 73, 74, 75, 76, 77, 78, 79, 80, 81, 82, 83, 84, 85, 86, 87, 88, 89, 90, 91, 92, 93, 94, 95, 96, 97, 98, 99, 100, 101, 102, 103, 104, 105, 106, 107] (by decide +kernel) (by decide +kernel)
set_option maxRecDepth 20000 in
theorem gX2_join_X2_keep : GoodIn wsX2_join (wsV RX2 44 RX2 yX2_keep wsX2_keep) := goodIn_app (goodIn_of _ (by decide +kernel)) ggX2_join_X2_keep
theorem dX2_join_0 : decode cX2_join 0 = .ok (.aload_n 0, 1) := by decide +kernel
theorem dX2_join_1 : decode cX2_join 1 = .ok (.iload_n 1, 1) := by decide +kernel
theorem dX2_join_2 : decode cX2_join 2 = .ok (.invokevirtual 56, 3) := by decide +kernel
theorem dX2_join_5 : decode cX2_join 5 = .ok (.astore 4, 2) := by decide +kernel
theorem dX2_join_7 : decode cX2_join 7 = .ok (.aload_n 0, 1) := by decide +kernel
theorem dX2_join_8 : decode cX2_join 8 = .ok (.iload_n 2, 1) := by decide +kernel
theorem dX2_join_9 : decode cX2_join 9 = .ok (.invokevirtual 56, 3) := by decide +kernel
theorem dX2_join_12 : decode cX2_join 12 = .ok (.astore 5, 2) := by decide +kernel
theorem dX2_join_14 : decode cX2_join 14 = .ok (.iload_n 3, 1) := by decide +kernel
theorem dX2_join_15 : decode cX2_join 15 = .ok (.bipush 6, 2) := by decide +kernel
theorem dX2_join_17 : decode cX2_join 17 = .ok (.invokestatic 48, 3) := by decide +kernel
theorem dX2_join_20 : decode cX2_join 20 = .ok (.aload_n 0, 1) := by decide +kernel
theorem dX2_join_21 : decode cX2_join 21 = .ok (.invokevirtual 37, 3) := by decide +kernel
theorem dX2_join_24 : decode cX2_join 24 = .ok (.istore 6, 2) := by decide +kernel
theorem dX2_join_26 : decode cX2_join 26 = .ok (.aload 4, 2) := by decide +kernel
theorem dX2_join_28 : decode cX2_join 28 = .ok (.aload 5, 2) := by decide +kernel
theorem dX2_join_30 : decode cX2_join 30 = .ok (.iload_n 3, 1) := by decide +kernel
theorem dX2_join_31 : decode cX2_join 31 = .ok (.aload_n 0, 1) := by decide +kernel
theorem dX2_join_32 : decode cX2_join 32 = .ok (.getfield 11, 3) := by decide +kernel
theorem dX2_join_35 : decode cX2_join 35 = .ok (.iload 6, 2) := by decide +kernel
theorem dX2_join_37 : decode cX2_join 37 = .ok (.aaload, 1) := by decide +kernel
theorem dX2_join_38 : decode cX2_join 38 = .ok (.getfield 41, 3) := by decide +kernel
theorem dX2_join_41 : decode cX2_join 41 = .ok (.invokestatic 60, 3) := by decide +kernel
theorem dX2_join_44 : decode cX2_join 44 = .ok (.aload_n 0, 1) := by decide +kernel
theorem dX2_join_45 : decode cX2_join 45 = .ok (.iload 6, 2) := by decide +kernel
theorem dX2_join_47 : decode cX2_join 47 = .ok (.invokevirtual 44, 3) := by decide +kernel
theorem dX2_join_50 : decode cX2_join 50 = .ok (.ireturn, 1) := by decide +kernel
set_option maxRecDepth 20000 in
theorem ggX2_choose_X2_foldAt : GoodIn wsX2_choose wsX2_foldAt := goodIn_ca (goodIn_r _ [6, 7, 8, 1, 76, 77, 78, 79, 80, 81, 82, 83, 84, 85, 86, 87, 88] (by decide +kernel) (by decide +kernel)) (goodIn_sub (fun _ h => List.mem_cons_of_mem _ (List.mem_append_left _ (List.mem_append_right _ h))) (by decide +kernel))
set_option maxRecDepth 20000 in
theorem gX2_choose_X2_foldAt : GoodIn wsX2_choose (wsV RX2 56 RX2 yX2_foldAt wsX2_foldAt) := goodIn_app (goodIn_of _ (by decide +kernel)) ggX2_choose_X2_foldAt
set_option maxRecDepth 20000 in
theorem ggX2_choose_X2_freeNumber : GoodIn wsX2_choose wsX2_freeNumber := goodIn_ca (goodIn_r _ [12, 13, 14, 1, 76, 77, 78, 79, 80, 81, 82, 83, 84, 85, 86, 87, 88] (by decide +kernel) (by decide +kernel)) (goodIn_sub (fun _ h => List.mem_cons_of_mem _ (List.mem_append_right _ h)) (by decide +kernel))
set_option maxRecDepth 20000 in
theorem gX2_choose_X2_freeNumber : GoodIn wsX2_choose (wsV RX2 37 RX2 yX2_freeNumber wsX2_freeNumber) := goodIn_app (goodIn_of _ (by decide +kernel)) ggX2_choose_X2_freeNumber
set_option maxRecDepth 20000 in
theorem ggX2_choose_X2_keep : GoodIn wsX2_choose wsX2_keep := goodIn_r _ [18, 1, 19, 20, 21, 5, 22, 23, 24, 25, 26, 27, 28, 29, 30, 31, 32, 33, 34, 35, 36, 37, 38, 39, 40, 41, 42, 43, 44, 45, 46, 47, 48, 49, 50, 51, 52, 53, 54, 55, 56, 57, 58, 59, 60, 61, 62, 63, 64, 65, 66, 67, 68, 69, 70, 71, 72, 73, 74, 75, 76, 77, 78, 79, 80, 81, 82, 83, 84, 85, 86, 87, 88, 89, 90, 91, 92, 93, 94, 95, 96, 97, 98] (by decide +kernel) (by decide +kernel)
set_option maxRecDepth 20000 in
theorem gX2_choose_X2_keep : GoodIn wsX2_choose (wsV RX2 44 RX2 yX2_keep wsX2_keep) := goodIn_app (goodIn_of _ (by decide +kernel)) ggX2_choose_X2_keep
theorem dX2_choose_0 : decode cX2_choose 0 = .ok (.aload_n 0, 1) := by decide +kernel
theorem dX2_choose_1 : decode cX2_choose 1 = .ok (.iload_n 1, 1) := by decide +kernel
theorem dX2_choose_2 : decode cX2_choose 2 = .ok (.invokevirtual 56, 3) := by decide +kernel
theorem dX2_choose_5 : decode cX2_choose 5 = .ok (.astore 4, 2) := by decide +kernel
theorem dX2_choose_7 : decode cX2_choose 7 = .ok (.aload_n 0, 1) := by decide +kernel
theorem dX2_choose_8 : decode cX2_choose 8 = .ok (.iload_n 2, 1) := by decide +kernel
theorem dX2_choose_9 : decode cX2_choose 9 = .ok (.invokevirtual 56, 3) := by decide +kernel
theorem dX2_choose_12 : decode cX2_choose 12 = .ok (.astore 5, 2) := by decide +kernel
theorem dX2_choose_14 : decode cX2_choose 14 = .ok (.aload_n 0, 1) := by decide +kernel
theorem dX2_choose_15 : decode cX2_choose 15 = .ok (.iload_n 3, 1) := by decide +kernel
theorem dX2_choose_16 : decode cX2_choose 16 = .ok (.invokevirtual 56, 3) := by decide +kernel
theorem dX2_choose_19 : decode cX2_choose 19 = .ok (.astore 6, 2) := by decide +kernel
theorem dX2_choose_21 : decode cX2_choose 21 = .ok (.aload_n 0, 1) := by decide +kernel
theorem dX2_choose_22 : decode cX2_choose 22 = .ok (.invokevirtual 37, 3) := by decide +kernel
theorem dX2_choose_25 : decode cX2_choose 25 = .ok (.istore 7, 2) := by decide +kernel
theorem dX2_choose_27 : decode cX2_choose 27 = .ok (.aload_n 0, 1) := by decide +kernel
theorem dX2_choose_28 : decode cX2_choose 28 = .ok (.getfield 11, 3) := by decide +kernel
theorem dX2_choose_31 : decode cX2_choose 31 = .ok (.iload 7, 2) := by decide +kernel
theorem dX2_choose_33 : decode cX2_choose 33 = .ok (.aaload, 1) := by decide +kernel
theorem dX2_choose_34 : decode cX2_choose 34 = .ok (.getfield 41, 3) := by decide +kernel
theorem dX2_choose_37 : decode cX2_choose 37 = .ok (.astore 8, 2) := by decide +kernel
theorem dX2_choose_39 : decode cX2_choose 39 = .ok (.iconst 0, 1) := by decide +kernel
theorem dX2_choose_40 : decode cX2_choose 40 = .ok (.istore 9, 2) := by decide +kernel
theorem dX2_choose_42 : decode cX2_choose 42 = .ok (.iload 9, 2) := by decide +kernel
theorem dX2_choose_44 : decode cX2_choose 44 = .ok (.sipush 256, 3) := by decide +kernel
theorem dX2_choose_47 : decode cX2_choose 47 = .ok (.if_icmp .ge 44, 3) := by decide +kernel
theorem dX2_choose_50 : decode cX2_choose 50 = .ok (.aload 8, 2) := by decide +kernel
theorem dX2_choose_52 : decode cX2_choose 52 = .ok (.iload 9, 2) := by decide +kernel
theorem dX2_choose_54 : decode cX2_choose 54 = .ok (.aload 4, 2) := by decide +kernel
theorem dX2_choose_56 : decode cX2_choose 56 = .ok (.getfield 41, 3) := by decide +kernel
theorem dX2_choose_59 : decode cX2_choose 59 = .ok (.iload 9, 2) := by decide +kernel
theorem dX2_choose_61 : decode cX2_choose 61 = .ok (.baload, 1) := by decide +kernel
theorem dX2_choose_62 : decode cX2_choose 62 = .ok (.ifCond .eq 14, 3) := by decide +kernel
theorem dX2_choose_65 : decode cX2_choose 65 = .ok (.aload 5, 2) := by decide +kernel
theorem dX2_choose_67 : decode cX2_choose 67 = .ok (.getfield 41, 3) := by decide +kernel
theorem dX2_choose_70 : decode cX2_choose 70 = .ok (.iload 9, 2) := by decide +kernel
theorem dX2_choose_72 : decode cX2_choose 72 = .ok (.baload, 1) := by decide +kernel
theorem dX2_choose_73 : decode cX2_choose 73 = .ok (.goto 11, 3) := by decide +kernel
theorem dX2_choose_76 : decode cX2_choose 76 = .ok (.aload 6, 2) := by decide +kernel
theorem dX2_choose_78 : decode cX2_choose 78 = .ok (.getfield 41, 3) := by decide +kernel
theorem dX2_choose_81 : decode cX2_choose 81 = .ok (.iload 9, 2) := by decide +kernel
theorem dX2_choose_83 : decode cX2_choose 83 = .ok (.baload, 1) := by decide +kernel
theorem dX2_choose_84 : decode cX2_choose 84 = .ok (.bastore, 1) := by decide +kernel
theorem dX2_choose_85 : decode cX2_choose 85 = .ok (.iinc 9 1, 3) := by decide +kernel
theorem dX2_choose_88 : decode cX2_choose 88 = .ok (.goto (-46), 3) := by decide +kernel
theorem dX2_choose_91 : decode cX2_choose 91 = .ok (.aload_n 0, 1) := by decide +kernel
theorem dX2_choose_92 : decode cX2_choose 92 = .ok (.iload 7, 2) := by decide +kernel
theorem dX2_choose_94 : decode cX2_choose 94 = .ok (.invokevirtual 44, 3) := by decide +kernel
theorem dX2_choose_97 : decode cX2_choose 97 = .ok (.ireturn, 1) := by decide +kernel
set_option maxRecDepth 20000 in
theorem ggX2_given_X2_foldAt : GoodIn wsX2_given wsX2_foldAt := goodIn_ca (goodIn_r _ [6, 7, 8, 1, 82, 83, 84, 85, 86, 87, 88, 89, 90, 91, 92, 93, 94] (by decide +kernel) (by decide +kernel)) (goodIn_sub (fun _ h => List.mem_cons_of_mem _ (List.mem_append_left _ (List.mem_append_right _ h))) (by decide +kernel))
set_option maxRecDepth 20000 in
theorem gX2_given_X2_foldAt : GoodIn wsX2_given (wsV RX2 56 RX2 yX2_foldAt wsX2_foldAt) := goodIn_app (goodIn_of _ (by decide +kernel)) ggX2_given_X2_foldAt
set_option maxRecDepth 20000 in
theorem ggX2_given_X2_checkBelow : GoodIn wsX2_given wsX2_checkBelow := goodIn_ca (goodIn_r _ [11, 7, 8] (by decide +kernel) (by decide +kernel)) (goodIn_sub (fun _ h => List.mem_cons_of_mem _ (List.mem_append_left _ (List.mem_append_right _ h))) (by decide +kernel))
set_option maxRecDepth 20000 in
theorem gX2_given_X2_checkBelow : GoodIn wsX2_given (va_wsS RX2 48 yX2_checkBelow wsX2_checkBelow) := goodIn_app (goodIn_of _ (by decide +kernel)) ggX2_given_X2_checkBelow
set_option maxRecDepth 20000 in
theorem ggX2_given_X2_freeNumber : GoodIn wsX2_given wsX2_freeNumber := goodIn_ca (goodIn_r _ [15, 16, 17, 1, 82, 83, 84, 85, 86, 87, 88, 89, 90, 91, 92, 93, 94] (by decide +kernel) (by decide +kernel)) (goodIn_sub (fun _ h => List.mem_cons_of_mem _ (List.mem_append_right _ h)) (by decide +kernel))
set_option maxRecDepth 20000 in
theorem gX2_given_X2_freeNumber : GoodIn wsX2_given (wsV RX2 37 RX2 yX2_freeNumber wsX2_freeNumber) := goodIn_app (goodIn_of _ (by decide +kernel)) ggX2_given_X2_freeNumber
set_option maxRecDepth 20000 in
theorem ggX2_given_X2_withAnswer : GoodIn wsX2_given wsX2_withAnswer := goodIn_r _ [20] (by decide +kernel) (by decide +kernel)
set_option maxRecDepth 20000 in
theorem gX2_given_X2_withAnswer : GoodIn wsX2_given (va_wsS RX2 64 yX2_withAnswer wsX2_withAnswer) := goodIn_app (goodIn_of _ (by decide +kernel)) ggX2_given_X2_withAnswer
set_option maxRecDepth 20000 in
theorem ggX2_given_X2_keep : GoodIn wsX2_given wsX2_keep := goodIn_r _ [24, 1, 25, 26, 27, 5, 28, 29, 30, 31, 32, 33, 34, 35, 36, 37, 38, 39, 40, 41, 42, 43, 44, 45, 46, 47, 48, 49, 50, 51, 52, 53, 54, 55, 56, 57, 58, 59, 60, 61, 62, 63, 64, 65, 66, 67, 68, 69, 70, 71, 72, 73, 74, 75, 76, 77, 78, 79, 80, 81, 82, 83, 84, 85, 86, 87, 88, 89, 90, 91, 92, 93, 94, 95, 96, 97, 98, 99, 100, 101, 102, 103, 104] (by decide +kernel) (by decide +kernel)
set_option maxRecDepth 20000 in
theorem gX2_given_X2_keep : GoodIn wsX2_given (wsV RX2 44 RX2 yX2_keep wsX2_keep) := goodIn_app (goodIn_of _ (by decide +kernel)) ggX2_given_X2_keep
theorem dX2_given_0 : decode cX2_given 0 = .ok (.aload_n 0, 1) := by decide +kernel
theorem dX2_given_1 : decode cX2_given 1 = .ok (.iload_n 1, 1) := by decide +kernel
theorem dX2_given_2 : decode cX2_given 2 = .ok (.invokevirtual 56, 3) := by decide +kernel
theorem dX2_given_5 : decode cX2_given 5 = .ok (.astore 4, 2) := by decide +kernel
theorem dX2_given_7 : decode cX2_given 7 = .ok (.iload_n 2, 1) := by decide +kernel
theorem dX2_given_8 : decode cX2_given 8 = .ok (.bipush 8, 2) := by decide +kernel
theorem dX2_given_10 : decode cX2_given 10 = .ok (.invokestatic 48, 3) := by decide +kernel
theorem dX2_given_13 : decode cX2_given 13 = .ok (.aload_n 0, 1) := by decide +kernel
theorem dX2_given_14 : decode cX2_given 14 = .ok (.invokevirtual 37, 3) := by decide +kernel
theorem dX2_given_17 : decode cX2_given 17 = .ok (.istore 5, 2) := by decide +kernel
theorem dX2_given_19 : decode cX2_given 19 = .ok (.aload_n 0, 1) := by decide +kernel
theorem dX2_given_20 : decode cX2_given 20 = .ok (.getfield 11, 3) := by decide +kernel
theorem dX2_given_23 : decode cX2_given 23 = .ok (.iload 5, 2) := by decide +kernel
theorem dX2_given_25 : decode cX2_given 25 = .ok (.aaload, 1) := by decide +kernel
theorem dX2_given_26 : decode cX2_given 26 = .ok (.getfield 41, 3) := by decide +kernel
theorem dX2_given_29 : decode cX2_given 29 = .ok (.astore 6, 2) := by decide +kernel
theorem dX2_given_31 : decode cX2_given 31 = .ok (.iconst 0, 1) := by decide +kernel
theorem dX2_given_32 : decode cX2_given 32 = .ok (.istore 7, 2) := by decide +kernel
theorem dX2_given_34 : decode cX2_given 34 = .ok (.iload 7, 2) := by decide +kernel
theorem dX2_given_36 : decode cX2_given 36 = .ok (.sipush 256, 3) := by decide +kernel
theorem dX2_given_39 : decode cX2_given 39 = .ok (.if_icmp .ge 27, 3) := by decide +kernel
theorem dX2_given_42 : decode cX2_given 42 = .ok (.aload 6, 2) := by decide +kernel
theorem dX2_given_44 : decode cX2_given 44 = .ok (.iload 7, 2) := by decide +kernel
theorem dX2_given_46 : decode cX2_given 46 = .ok (.aload 4, 2) := by decide +kernel
theorem dX2_given_48 : decode cX2_given 48 = .ok (.getfield 41, 3) := by decide +kernel
theorem dX2_given_51 : decode cX2_given 51 = .ok (.iload 7, 2) := by decide +kernel
theorem dX2_given_53 : decode cX2_given 53 = .ok (.iload_n 2, 1) := by decide +kernel
theorem dX2_given_54 : decode cX2_given 54 = .ok (.iload_n 3, 1) := by decide +kernel
theorem dX2_given_55 : decode cX2_given 55 = .ok (.invokestatic 64, 3) := by decide +kernel
theorem dX2_given_58 : decode cX2_given 58 = .ok (.baload, 1) := by decide +kernel
theorem dX2_given_59 : decode cX2_given 59 = .ok (.bastore, 1) := by decide +kernel
theorem dX2_given_60 : decode cX2_given 60 = .ok (.iinc 7 1, 3) := by decide +kernel
theorem dX2_given_63 : decode cX2_given 63 = .ok (.goto (-29), 3) := by decide +kernel
theorem dX2_given_66 : decode cX2_given 66 = .ok (.aload_n 0, 1) := by decide +kernel
theorem dX2_given_67 : decode cX2_given 67 = .ok (.iload 5, 2) := by decide +kernel
theorem dX2_given_69 : decode cX2_given 69 = .ok (.invokevirtual 44, 3) := by decide +kernel
theorem dX2_given_72 : decode cX2_given 72 = .ok (.ireturn, 1) := by decide +kernel
set_option maxRecDepth 20000 in
theorem ggX2_without_X2_foldAt : GoodIn wsX2_without wsX2_foldAt := goodIn_ca (goodIn_r _ [6, 7, 8, 1, 82, 83, 84, 85, 86, 87, 88, 89, 90, 91, 92, 93, 94] (by decide +kernel) (by decide +kernel)) (goodIn_sub (fun _ h => List.mem_cons_of_mem _ (List.mem_append_left _ (List.mem_append_right _ h))) (by decide +kernel))
set_option maxRecDepth 20000 in
theorem gX2_without_X2_foldAt : GoodIn wsX2_without (wsV RX2 56 RX2 yX2_foldAt wsX2_foldAt) := goodIn_app (goodIn_of _ (by decide +kernel)) ggX2_without_X2_foldAt
set_option maxRecDepth 20000 in
theorem ggX2_without_X2_checkBelow : GoodIn wsX2_without wsX2_checkBelow := goodIn_ca (goodIn_r _ [11, 7, 8] (by decide +kernel) (by decide +kernel)) (goodIn_sub (fun _ h => List.mem_cons_of_mem _ (List.mem_append_left _ (List.mem_append_right _ h))) (by decide +kernel))
set_option maxRecDepth 20000 in
theorem gX2_without_X2_checkBelow : GoodIn wsX2_without (va_wsS RX2 48 yX2_checkBelow wsX2_checkBelow) := goodIn_app (goodIn_of _ (by decide +kernel)) ggX2_without_X2_checkBelow
set_option maxRecDepth 20000 in
theorem ggX2_without_X2_freeNumber : GoodIn wsX2_without wsX2_freeNumber := goodIn_ca (goodIn_r _ [15, 16, 17, 1, 82, 83, 84, 85, 86, 87, 88, 89, 90, 91, 92, 93, 94] (by decide +kernel) (by decide +kernel)) (goodIn_sub (fun _ h => List.mem_cons_of_mem _ (List.mem_append_right _ h)) (by decide +kernel))
set_option maxRecDepth 20000 in
theorem gX2_without_X2_freeNumber : GoodIn wsX2_without (wsV RX2 37 RX2 yX2_freeNumber wsX2_freeNumber) := goodIn_app (goodIn_of _ (by decide +kernel)) ggX2_without_X2_freeNumber
set_option maxRecDepth 20000 in
theorem ggX2_without_X2_withAnswer : GoodIn wsX2_without wsX2_withAnswer := goodIn_r _ [20] (by decide +kernel) (by decide +kernel)
set_option maxRecDepth 20000 in
theorem gX2_without_X2_withAnswer : GoodIn wsX2_without (va_wsS RX2 64 yX2_withAnswer wsX2_withAnswer) := goodIn_app (goodIn_of _ (by decide +kernel)) ggX2_without_X2_withAnswer
set_option maxRecDepth 20000 in
theorem ggX2_without_X2_keep : GoodIn wsX2_without wsX2_keep := goodIn_r _ [24, 1, 25, 26, 27, 5, 28, 29, 30, 31, 32, 33, 34, 35, 36, 37, 38, 39, 40, 41, 42, 43, 44, 45, 46, 47, 48, 49, 50, 51, 52, 53, 54, 55, 56, 57, 58, 59, 60, 61, 62, 63, 64, 65, 66, 67, 68, 69, 70, 71, 72, 73, 74, 75, 76, 77, 78, 79, 80, 81, 82, 83, 84, 85, 86, 87, 88, 89, 90, 91, 92, 93, 94, 95, 96, 97, 98, 99, 100, 101, 102, 103, 104] (by decide +kernel) (by decide +kernel)
set_option maxRecDepth 20000 in
theorem gX2_without_X2_keep : GoodIn wsX2_without (wsV RX2 44 RX2 yX2_keep wsX2_keep) := goodIn_app (goodIn_of _ (by decide +kernel)) ggX2_without_X2_keep
theorem dX2_without_0 : decode cX2_without 0 = .ok (.aload_n 0, 1) := by decide +kernel
theorem dX2_without_1 : decode cX2_without 1 = .ok (.iload_n 1, 1) := by decide +kernel
theorem dX2_without_2 : decode cX2_without 2 = .ok (.invokevirtual 56, 3) := by decide +kernel
theorem dX2_without_5 : decode cX2_without 5 = .ok (.astore 4, 2) := by decide +kernel
theorem dX2_without_7 : decode cX2_without 7 = .ok (.iload_n 2, 1) := by decide +kernel
theorem dX2_without_8 : decode cX2_without 8 = .ok (.bipush 8, 2) := by decide +kernel
theorem dX2_without_10 : decode cX2_without 10 = .ok (.invokestatic 48, 3) := by decide +kernel
theorem dX2_without_13 : decode cX2_without 13 = .ok (.aload_n 0, 1) := by decide +kernel
theorem dX2_without_14 : decode cX2_without 14 = .ok (.invokevirtual 37, 3) := by decide +kernel
theorem dX2_without_17 : decode cX2_without 17 = .ok (.istore 5, 2) := by decide +kernel
theorem dX2_without_19 : decode cX2_without 19 = .ok (.aload_n 0, 1) := by decide +kernel
theorem dX2_without_20 : decode cX2_without 20 = .ok (.getfield 11, 3) := by decide +kernel
theorem dX2_without_23 : decode cX2_without 23 = .ok (.iload 5, 2) := by decide +kernel
theorem dX2_without_25 : decode cX2_without 25 = .ok (.aaload, 1) := by decide +kernel
theorem dX2_without_26 : decode cX2_without 26 = .ok (.getfield 41, 3) := by decide +kernel
theorem dX2_without_29 : decode cX2_without 29 = .ok (.astore 6, 2) := by decide +kernel
theorem dX2_without_31 : decode cX2_without 31 = .ok (.iconst 0, 1) := by decide +kernel
theorem dX2_without_32 : decode cX2_without 32 = .ok (.istore 7, 2) := by decide +kernel
theorem dX2_without_34 : decode cX2_without 34 = .ok (.iload 7, 2) := by decide +kernel
theorem dX2_without_36 : decode cX2_without 36 = .ok (.sipush 256, 3) := by decide +kernel
theorem dX2_without_39 : decode cX2_without 39 = .ok (.if_icmp .ge 81, 3) := by decide +kernel
theorem dX2_without_42 : decode cX2_without 42 = .ok (.aload 4, 2) := by decide +kernel
theorem dX2_without_44 : decode cX2_without 44 = .ok (.getfield 41, 3) := by decide +kernel
theorem dX2_without_47 : decode cX2_without 47 = .ok (.iload 7, 2) := by decide +kernel
theorem dX2_without_49 : decode cX2_without 49 = .ok (.iload_n 2, 1) := by decide +kernel
theorem dX2_without_50 : decode cX2_without 50 = .ok (.iconst 0, 1) := by decide +kernel
theorem dX2_without_51 : decode cX2_without 51 = .ok (.invokestatic 64, 3) := by decide +kernel
theorem dX2_without_54 : decode cX2_without 54 = .ok (.baload, 1) := by decide +kernel
theorem dX2_without_55 : decode cX2_without 55 = .ok (.istore 8, 2) := by decide +kernel
theorem dX2_without_57 : decode cX2_without 57 = .ok (.aload 4, 2) := by decide +kernel
theorem dX2_without_59 : decode cX2_without 59 = .ok (.getfield 41, 3) := by decide +kernel
theorem dX2_without_62 : decode cX2_without 62 = .ok (.iload 7, 2) := by decide +kernel
theorem dX2_without_64 : decode cX2_without 64 = .ok (.iload_n 2, 1) := by decide +kernel
theorem dX2_without_65 : decode cX2_without 65 = .ok (.iconst 1, 1) := by decide +kernel
theorem dX2_without_66 : decode cX2_without 66 = .ok (.invokestatic 64, 3) := by decide +kernel
theorem dX2_without_69 : decode cX2_without 69 = .ok (.baload, 1) := by decide +kernel
theorem dX2_without_70 : decode cX2_without 70 = .ok (.istore 9, 2) := by decide +kernel
theorem dX2_without_72 : decode cX2_without 72 = .ok (.aload 6, 2) := by decide +kernel
theorem dX2_without_74 : decode cX2_without 74 = .ok (.iload 7, 2) := by decide +kernel
theorem dX2_without_76 : decode cX2_without 76 = .ok (.iload_n 3, 1) := by decide +kernel
theorem dX2_without_77 : decode cX2_without 77 = .ok (.ifCond .eq 21, 3) := by decide +kernel
theorem dX2_without_80 : decode cX2_without 80 = .ok (.iload 8, 2) := by decide +kernel
theorem dX2_without_82 : decode cX2_without 82 = .ok (.ifCond .eq 12, 3) := by decide +kernel
theorem dX2_without_85 : decode cX2_without 85 = .ok (.iload 9, 2) := by decide +kernel
theorem dX2_without_87 : decode cX2_without 87 = .ok (.ifCond .eq 7, 3) := by decide +kernel
theorem dX2_without_90 : decode cX2_without 90 = .ok (.iconst 1, 1) := by decide +kernel
theorem dX2_without_91 : decode cX2_without 91 = .ok (.goto 22, 3) := by decide +kernel
theorem dX2_without_94 : decode cX2_without 94 = .ok (.iconst 0, 1) := by decide +kernel
theorem dX2_without_95 : decode cX2_without 95 = .ok (.goto 18, 3) := by decide +kernel
theorem dX2_without_98 : decode cX2_without 98 = .ok (.iload 8, 2) := by decide +kernel
theorem dX2_without_100 : decode cX2_without 100 = .ok (.ifCond .ne 8, 3) := by decide +kernel
theorem dX2_without_103 : decode cX2_without 103 = .ok (.iload 9, 2) := by decide +kernel
theorem dX2_without_105 : decode cX2_without 105 = .ok (.ifCond .eq 7, 3) := by decide +kernel
theorem dX2_without_108 : decode cX2_without 108 = .ok (.iconst 1, 1) := by decide +kernel
theorem dX2_without_109 : decode cX2_without 109 = .ok (.goto 4, 3) := by decide +kernel
theorem dX2_without_112 : decode cX2_without 112 = .ok (.iconst 0, 1) := by decide +kernel
theorem dX2_without_113 : decode cX2_without 113 = .ok (.bastore, 1) := by decide +kernel
theorem dX2_without_114 : decode cX2_without 114 = .ok (.iinc 7 1, 3) := by decide +kernel
theorem dX2_without_117 : decode cX2_without 117 = .ok (.goto (-83), 3) := by decide +kernel
theorem dX2_without_120 : decode cX2_without 120 = .ok (.aload_n 0, 1) := by decide +kernel
theorem dX2_without_121 : decode cX2_without 121 = .ok (.iload 5, 2) := by decide +kernel
theorem dX2_without_123 : decode cX2_without 123 = .ok (.invokevirtual 44, 3) := by decide +kernel
theorem dX2_without_126 : decode cX2_without 126 = .ok (.ireturn, 1) := by decide +kernel
set_option maxRecDepth 20000 in
theorem ggX2_drop_X2_foldAt : GoodIn wsX2_drop wsX2_foldAt := goodIn_ca (goodIn_r _ [5, 6, 7, 8, 77, 78, 79, 80, 81, 82, 70, 71, 72, 73, 74, 75, 76] (by decide +kernel) (by decide +kernel)) (goodIn_sub (fun _ h => List.mem_cons_of_mem _ (List.mem_append_right _ h)) (by decide +kernel))
set_option maxRecDepth 20000 in
theorem gX2_drop_X2_foldAt : GoodIn wsX2_drop (wsV RX2 56 RX2 yX2_foldAt wsX2_foldAt) := goodIn_app (goodIn_of _ (by decide +kernel)) ggX2_drop_X2_foldAt
set_option maxRecDepth 20000 in
theorem ggX2_drop_X2_layAll : GoodIn wsX2_drop wsX2_layAll := goodIn_r _ [12, 13, 14, 8, 15, 16, 17, 18, 19, 20, 21, 22, 23, 24, 25, 26, 27, 28, 29, 30, 31, 32, 33, 34, 35, 36, 37, 38, 39, 40, 41, 42, 43, 44, 45, 46, 47, 48, 49, 50, 51, 52, 53, 54, 55, 56, 57, 58, 59, 60, 61, 62, 63, 64, 65, 77, 78, 79, 80, 81, 82, 70, 71, 72, 73, 74, 75, 76, 83, 84, 85, 86, 87, 88, 89, 90, 91, 92] (by decide +kernel) (by decide +kernel)
set_option maxRecDepth 20000 in
theorem gX2_drop_X2_layAll : GoodIn wsX2_drop (wsV RX2 72 RX2 yX2_layAll wsX2_layAll) := goodIn_app (goodIn_of _ (by decide +kernel)) ggX2_drop_X2_layAll
set_option maxRecDepth 20000 in
theorem ggX2_drop_X2_countKept : GoodIn wsX2_drop wsX2_countKept := goodIn_r _ [69, 8, 77, 78, 79, 80, 81, 82, 70, 71, 72, 73, 74, 75, 76] (by decide +kernel) (by decide +kernel)
set_option maxRecDepth 20000 in
theorem gX2_drop_X2_countKept : GoodIn wsX2_drop (wsV RX2 75 RX2 yX2_countKept wsX2_countKept) := goodIn_app (goodIn_of _ (by decide +kernel)) ggX2_drop_X2_countKept
theorem dX2_drop_0 : decode cX2_drop 0 = .ok (.aload_n 0, 1) := by decide +kernel
theorem dX2_drop_1 : decode cX2_drop 1 = .ok (.iload_n 1, 1) := by decide +kernel
theorem dX2_drop_2 : decode cX2_drop 2 = .ok (.invokevirtual 56, 3) := by decide +kernel
theorem dX2_drop_5 : decode cX2_drop 5 = .ok (.iconst 0, 1) := by decide +kernel
theorem dX2_drop_6 : decode cX2_drop 6 = .ok (.putfield 68, 3) := by decide +kernel
theorem dX2_drop_9 : decode cX2_drop 9 = .ok (.aload_n 0, 1) := by decide +kernel
theorem dX2_drop_10 : decode cX2_drop 10 = .ok (.invokevirtual 72, 3) := by decide +kernel
theorem dX2_drop_13 : decode cX2_drop 13 = .ok (.aload_n 0, 1) := by decide +kernel
theorem dX2_drop_14 : decode cX2_drop 14 = .ok (.invokevirtual 75, 3) := by decide +kernel
theorem dX2_drop_17 : decode cX2_drop 17 = .ok (.ireturn, 1) := by decide +kernel
set_option maxRecDepth 20000 in
theorem ggX2_swap_X2_checkBelow : GoodIn wsX2_swap wsX2_checkBelow := goodIn_ca (goodIn_r _ [6, 7, 8] (by decide +kernel) (by decide +kernel)) (goodIn_sub (fun _ h => List.mem_cons_of_mem _ (List.mem_append_right _ h)) (by decide +kernel))
set_option maxRecDepth 20000 in
theorem gX2_swap_X2_checkBelow : GoodIn wsX2_swap (va_wsS RX2 48 yX2_checkBelow wsX2_checkBelow) := goodIn_app (goodIn_of _ (by decide +kernel)) ggX2_swap_X2_checkBelow
set_option maxRecDepth 20000 in
theorem ggX2_swap_X2_exchange : GoodIn wsX2_swap wsX2_exchange := goodIn_r _ [11] (by decide +kernel) (by decide +kernel)
set_option maxRecDepth 20000 in
theorem gX2_swap_X2_exchange : GoodIn wsX2_swap (va_wsS RX2 78 yX2_exchange wsX2_exchange) := goodIn_app (goodIn_of _ (by decide +kernel)) ggX2_swap_X2_exchange
set_option maxRecDepth 20000 in
theorem ggX2_swap_X2_layAll : GoodIn wsX2_swap wsX2_layAll := goodIn_r _ [15, 2, 1, 16, 17, 18, 19, 20, 21, 22, 23, 24, 25, 26, 27, 28, 29, 30, 31, 32, 33, 34, 35, 36, 37, 38, 39, 40, 41, 42, 43, 44, 45, 46, 47, 48, 49, 50, 51, 52, 53, 54, 55, 56, 57, 58, 59, 60, 61, 62, 63, 64, 65, 66, 67, 68, 69, 70, 71, 72, 73, 84, 85, 86, 87, 88, 89, 90, 74, 75, 76, 77, 78, 79, 80, 81, 82, 83] (by decide +kernel) (by decide +kernel)
set_option maxRecDepth 20000 in
theorem gX2_swap_X2_layAll : GoodIn wsX2_swap (wsV RX2 72 RX2 yX2_layAll wsX2_layAll) := goodIn_app (goodIn_of _ (by decide +kernel)) ggX2_swap_X2_layAll
theorem dX2_swap_0 : decode cX2_swap 0 = .ok (.iload_n 1, 1) := by decide +kernel
theorem dX2_swap_1 : decode cX2_swap 1 = .ok (.bipush 7, 2) := by decide +kernel
theorem dX2_swap_3 : decode cX2_swap 3 = .ok (.invokestatic 48, 3) := by decide +kernel
theorem dX2_swap_6 : decode cX2_swap 6 = .ok (.aload_n 0, 1) := by decide +kernel
theorem dX2_swap_7 : decode cX2_swap 7 = .ok (.getfield 15, 3) := by decide +kernel
theorem dX2_swap_10 : decode cX2_swap 10 = .ok (.iload_n 1, 1) := by decide +kernel
theorem dX2_swap_11 : decode cX2_swap 11 = .ok (.invokestatic 78, 3) := by decide +kernel
theorem dX2_swap_14 : decode cX2_swap 14 = .ok (.aload_n 0, 1) := by decide +kernel
theorem dX2_swap_15 : decode cX2_swap 15 = .ok (.invokevirtual 72, 3) := by decide +kernel
theorem dX2_swap_18 : decode cX2_swap 18 = .ok (.aload_n 0, 1) := by decide +kernel
theorem dX2_swap_19 : decode cX2_swap 19 = .ok (.getfield 22, 3) := by decide +kernel
theorem dX2_swap_22 : decode cX2_swap 22 = .ok (.getfield 82, 3) := by decide +kernel
theorem dX2_swap_25 : decode cX2_swap 25 = .ok (.ireturn, 1) := by decide +kernel
set_option maxRecDepth 20000 in
theorem ggX2_order_X2_checkBelow : GoodIn wsX2_order wsX2_checkBelow := goodIn_ca (goodIn_r _ [5, 6, 7] (by decide +kernel) (by decide +kernel)) (goodIn_sub (fun _ h => List.mem_cons_of_mem _ (List.mem_append_right _ h)) (by decide +kernel))
set_option maxRecDepth 20000 in
theorem gX2_order_X2_checkBelow : GoodIn wsX2_order (va_wsS RX2 48 yX2_checkBelow wsX2_checkBelow) := goodIn_app (goodIn_of _ (by decide +kernel)) ggX2_order_X2_checkBelow
theorem dX2_order_0 : decode cX2_order 0 = .ok (.iload_n 1, 1) := by decide +kernel
theorem dX2_order_1 : decode cX2_order 1 = .ok (.bipush 8, 2) := by decide +kernel
theorem dX2_order_3 : decode cX2_order 3 = .ok (.invokestatic 48, 3) := by decide +kernel
theorem dX2_order_6 : decode cX2_order 6 = .ok (.aload_n 0, 1) := by decide +kernel
theorem dX2_order_7 : decode cX2_order 7 = .ok (.getfield 15, 3) := by decide +kernel
theorem dX2_order_10 : decode cX2_order 10 = .ok (.iload_n 1, 1) := by decide +kernel
theorem dX2_order_11 : decode cX2_order 11 = .ok (.iaload, 1) := by decide +kernel
theorem dX2_order_12 : decode cX2_order 12 = .ok (.ireturn, 1) := by decide +kernel
set_option maxRecDepth 20000 in
theorem ggX2_says_X2_foldAt : GoodIn wsX2_says wsX2_foldAt := goodIn_ca (goodIn_r _ [7, 8, 9, 10, 18, 19, 20, 21, 22, 23, 11, 12, 13, 14, 15, 16, 17] (by decide +kernel) (by decide +kernel)) (goodIn_sub (fun _ h => List.mem_cons_of_mem _ (List.mem_append_right _ h)) (by decide +kernel))
set_option maxRecDepth 20000 in
theorem gX2_says_X2_foldAt : GoodIn wsX2_says (wsV RX2 56 RX2 yX2_foldAt wsX2_foldAt) := goodIn_app (goodIn_of _ (by decide +kernel)) ggX2_says_X2_foldAt
theorem dX2_says_0 : decode cX2_says 0 = .ok (.aload_n 0, 1) := by decide +kernel
theorem dX2_says_1 : decode cX2_says 1 = .ok (.iload_n 1, 1) := by decide +kernel
theorem dX2_says_2 : decode cX2_says 2 = .ok (.invokevirtual 56, 3) := by decide +kernel
theorem dX2_says_5 : decode cX2_says 5 = .ok (.astore_n 3, 1) := by decide +kernel
theorem dX2_says_6 : decode cX2_says 6 = .ok (.iload_n 2, 1) := by decide +kernel
theorem dX2_says_7 : decode cX2_says 7 = .ok (.ifCond .lt 10, 3) := by decide +kernel
theorem dX2_says_10 : decode cX2_says 10 = .ok (.iload_n 2, 1) := by decide +kernel
theorem dX2_says_11 : decode cX2_says 11 = .ok (.sipush 256, 3) := by decide +kernel
theorem dX2_says_14 : decode cX2_says 14 = .ok (.if_icmp .lt 13, 3) := by decide +kernel
theorem dX2_says_17 : decode cX2_says 17 = .ok (.new 86, 3) := by decide +kernel
theorem dX2_says_20 : decode cX2_says 20 = .ok (.dup, 1) := by decide +kernel
theorem dX2_says_21 : decode cX2_says 21 = .ok (.ldc 88, 2) := by decide +kernel
theorem dX2_says_23 : decode cX2_says 23 = .ok (.invokespecial 90, 3) := by decide +kernel
theorem dX2_says_26 : decode cX2_says 26 = .ok (.athrow, 1) := by decide +kernel
theorem dX2_says_27 : decode cX2_says 27 = .ok (.aload_n 3, 1) := by decide +kernel
theorem dX2_says_28 : decode cX2_says 28 = .ok (.getfield 41, 3) := by decide +kernel
theorem dX2_says_31 : decode cX2_says 31 = .ok (.iload_n 2, 1) := by decide +kernel
theorem dX2_says_32 : decode cX2_says 32 = .ok (.baload, 1) := by decide +kernel
theorem dX2_says_33 : decode cX2_says 33 = .ok (.ireturn, 1) := by decide +kernel
set_option maxRecDepth 20000 in
theorem ggX2_fork_X2_foldAt : GoodIn wsX2_fork wsX2_foldAt := goodIn_ca (goodIn_r _ [5, 6, 7, 8, 24, 25, 26, 27, 28, 29, 17, 18, 19, 20, 21, 22, 23] (by decide +kernel) (by decide +kernel)) (goodIn_sub (fun _ h => List.mem_cons_of_mem _ (List.mem_append_right _ h)) (by decide +kernel))
set_option maxRecDepth 20000 in
theorem gX2_fork_X2_foldAt : GoodIn wsX2_fork (wsV RX2 56 RX2 yX2_foldAt wsX2_foldAt) := goodIn_app (goodIn_of _ (by decide +kernel)) ggX2_fork_X2_foldAt
set_option maxRecDepth 20000 in
theorem ggX2_fork_X2_checkBelow : GoodIn wsX2_fork wsX2_checkBelow := goodIn_ca (goodIn_r _ [11, 6, 7] (by decide +kernel) (by decide +kernel)) (goodIn_sub (fun _ h => List.mem_cons_of_mem _ (List.mem_append_right _ h)) (by decide +kernel))
set_option maxRecDepth 20000 in
theorem gX2_fork_X2_checkBelow : GoodIn wsX2_fork (va_wsS RX2 48 yX2_checkBelow wsX2_checkBelow) := goodIn_app (goodIn_of _ (by decide +kernel)) ggX2_fork_X2_checkBelow
set_option maxRecDepth 20000 in
theorem ggX2_fork_X2_tellFork : GoodIn wsX2_fork wsX2_tellFork := goodIn_r _ [15, 16, 17, 18, 19, 20, 21, 22, 23, 24, 25, 26, 27, 28, 29, 30, 31, 32, 33, 34, 35, 36, 37, 38, 39] (by decide +kernel) (by decide +kernel)
set_option maxRecDepth 20000 in
theorem gX2_fork_X2_tellFork : GoodIn wsX2_fork (wsV RX2 94 RX2 yX2_tellFork wsX2_tellFork) := goodIn_app (goodIn_of _ (by decide +kernel)) ggX2_fork_X2_tellFork
theorem dX2_fork_0 : decode cX2_fork 0 = .ok (.aload_n 0, 1) := by decide +kernel
theorem dX2_fork_1 : decode cX2_fork 1 = .ok (.iload_n 1, 1) := by decide +kernel
theorem dX2_fork_2 : decode cX2_fork 2 = .ok (.invokevirtual 56, 3) := by decide +kernel
theorem dX2_fork_5 : decode cX2_fork 5 = .ok (.astore 4, 2) := by decide +kernel
theorem dX2_fork_7 : decode cX2_fork 7 = .ok (.iload_n 2, 1) := by decide +kernel
theorem dX2_fork_8 : decode cX2_fork 8 = .ok (.aload 4, 2) := by decide +kernel
theorem dX2_fork_10 : decode cX2_fork 10 = .ok (.getfield 93, 3) := by decide +kernel
theorem dX2_fork_13 : decode cX2_fork 13 = .ok (.invokestatic 48, 3) := by decide +kernel
theorem dX2_fork_16 : decode cX2_fork 16 = .ok (.iload_n 3, 1) := by decide +kernel
theorem dX2_fork_17 : decode cX2_fork 17 = .ok (.iconst 5, 1) := by decide +kernel
theorem dX2_fork_18 : decode cX2_fork 18 = .ok (.invokestatic 48, 3) := by decide +kernel
theorem dX2_fork_21 : decode cX2_fork 21 = .ok (.aload_n 0, 1) := by decide +kernel
theorem dX2_fork_22 : decode cX2_fork 22 = .ok (.aload 4, 2) := by decide +kernel
theorem dX2_fork_24 : decode cX2_fork 24 = .ok (.iload_n 2, 1) := by decide +kernel
theorem dX2_fork_25 : decode cX2_fork 25 = .ok (.iload_n 3, 1) := by decide +kernel
theorem dX2_fork_26 : decode cX2_fork 26 = .ok (.invokevirtual 94, 3) := by decide +kernel
theorem dX2_fork_29 : decode cX2_fork 29 = .ok (.ireturn, 1) := by decide +kernel
set_option maxRecDepth 20000 in
theorem ggX2_about_X2_foldAt : GoodIn wsX2_about wsX2_foldAt := goodIn_ca (goodIn_r _ [5, 6, 7, 8, 56, 57, 58, 59, 60, 61, 62, 63, 64, 65, 66, 67, 68] (by decide +kernel) (by decide +kernel)) (goodIn_sub (fun _ h => List.mem_cons_of_mem _ (List.mem_append_right _ h)) (by decide +kernel))
set_option maxRecDepth 20000 in
theorem gX2_about_X2_foldAt : GoodIn wsX2_about (wsV RX2 56 RX2 yX2_foldAt wsX2_foldAt) := goodIn_app (goodIn_of _ (by decide +kernel)) ggX2_about_X2_foldAt
set_option maxRecDepth 20000 in
theorem ggX2_about_X2_checkBelow : GoodIn wsX2_about wsX2_checkBelow := goodIn_ca (goodIn_r _ [11, 6, 7] (by decide +kernel) (by decide +kernel)) (goodIn_sub (fun _ h => List.mem_cons_of_mem _ (List.mem_append_right _ h)) (by decide +kernel))
set_option maxRecDepth 20000 in
theorem gX2_about_X2_checkBelow : GoodIn wsX2_about (va_wsS RX2 48 yX2_checkBelow wsX2_checkBelow) := goodIn_app (goodIn_of _ (by decide +kernel)) ggX2_about_X2_checkBelow
set_option maxRecDepth 20000 in
theorem ggX2_about_X2_tellFold : GoodIn wsX2_about wsX2_tellFold := goodIn_r _ [15, 16, 17, 4, 18, 19, 20, 21, 22, 23, 24, 25, 26, 27, 28, 29, 30, 31, 32, 33, 34, 35, 36, 37, 38, 39, 40, 41, 42, 43, 44, 45, 46, 47, 48, 49, 50, 51, 52, 53, 54, 55, 62, 63, 64, 65, 66, 67, 68, 56, 57, 58, 59, 60, 61, 69, 70, 71, 72, 73, 74, 75, 76, 77, 78] (by decide +kernel) (by decide +kernel)
set_option maxRecDepth 20000 in
theorem gX2_about_X2_tellFold : GoodIn wsX2_about (wsV RX2 98 RX2 yX2_tellFold wsX2_tellFold) := goodIn_app (goodIn_of _ (by decide +kernel)) ggX2_about_X2_tellFold
theorem dX2_about_0 : decode cX2_about 0 = .ok (.aload_n 0, 1) := by decide +kernel
theorem dX2_about_1 : decode cX2_about 1 = .ok (.iload_n 1, 1) := by decide +kernel
theorem dX2_about_2 : decode cX2_about 2 = .ok (.invokevirtual 56, 3) := by decide +kernel
theorem dX2_about_5 : decode cX2_about 5 = .ok (.astore_n 3, 1) := by decide +kernel
theorem dX2_about_6 : decode cX2_about 6 = .ok (.iload_n 2, 1) := by decide +kernel
theorem dX2_about_7 : decode cX2_about 7 = .ok (.bipush 8, 2) := by decide +kernel
theorem dX2_about_9 : decode cX2_about 9 = .ok (.invokestatic 48, 3) := by decide +kernel
theorem dX2_about_12 : decode cX2_about 12 = .ok (.aload_n 0, 1) := by decide +kernel
theorem dX2_about_13 : decode cX2_about 13 = .ok (.aload_n 3, 1) := by decide +kernel
theorem dX2_about_14 : decode cX2_about 14 = .ok (.iload_n 2, 1) := by decide +kernel
theorem dX2_about_15 : decode cX2_about 15 = .ok (.invokevirtual 98, 3) := by decide +kernel
theorem dX2_about_18 : decode cX2_about 18 = .ok (.ireturn, 1) := by decide +kernel
set_option maxRecDepth 20000 in
theorem ggX2_asked_X2_foldAt : GoodIn wsX2_asked wsX2_foldAt := goodIn_ca (goodIn_r _ [6, 7, 8, 9, 18, 19, 20, 21, 22, 23, 24, 25, 26, 27, 28, 29, 30] (by decide +kernel) (by decide +kernel)) (goodIn_sub (fun _ h => List.mem_cons_of_mem _ (List.mem_append_right _ h)) (by decide +kernel))
set_option maxRecDepth 20000 in
theorem gX2_asked_X2_foldAt : GoodIn wsX2_asked (wsV RX2 56 RX2 yX2_foldAt wsX2_foldAt) := goodIn_app (goodIn_of _ (by decide +kernel)) ggX2_asked_X2_foldAt
set_option maxRecDepth 20000 in
theorem ggX2_asked_X2_countAsked : GoodIn wsX2_asked wsX2_countAsked := goodIn_r _ [13, 14, 15, 16, 5, 17, 24, 25, 26, 27, 28, 29, 30, 18, 19, 20, 21, 22, 23, 31, 32, 33, 34, 35, 36, 37, 38, 39, 40] (by decide +kernel) (by decide +kernel)
set_option maxRecDepth 20000 in
theorem gX2_asked_X2_countAsked : GoodIn wsX2_asked (wsV RX2 102 RX2 yX2_countAsked wsX2_countAsked) := goodIn_app (goodIn_of _ (by decide +kernel)) ggX2_asked_X2_countAsked
theorem dX2_asked_0 : decode cX2_asked 0 = .ok (.aload_n 0, 1) := by decide +kernel
theorem dX2_asked_1 : decode cX2_asked 1 = .ok (.iload_n 1, 1) := by decide +kernel
theorem dX2_asked_2 : decode cX2_asked 2 = .ok (.invokevirtual 56, 3) := by decide +kernel
theorem dX2_asked_5 : decode cX2_asked 5 = .ok (.astore_n 2, 1) := by decide +kernel
theorem dX2_asked_6 : decode cX2_asked 6 = .ok (.iconst 0, 1) := by decide +kernel
theorem dX2_asked_7 : decode cX2_asked 7 = .ok (.istore_n 3, 1) := by decide +kernel
theorem dX2_asked_8 : decode cX2_asked 8 = .ok (.iconst 0, 1) := by decide +kernel
theorem dX2_asked_9 : decode cX2_asked 9 = .ok (.istore 4, 2) := by decide +kernel
theorem dX2_asked_11 : decode cX2_asked 11 = .ok (.iload 4, 2) := by decide +kernel
theorem dX2_asked_13 : decode cX2_asked 13 = .ok (.sipush 256, 3) := by decide +kernel
theorem dX2_asked_16 : decode cX2_asked 16 = .ok (.if_icmp .ge 19, 3) := by decide +kernel
theorem dX2_asked_19 : decode cX2_asked 19 = .ok (.iload_n 3, 1) := by decide +kernel
theorem dX2_asked_20 : decode cX2_asked 20 = .ok (.aload_n 0, 1) := by decide +kernel
theorem dX2_asked_21 : decode cX2_asked 21 = .ok (.aload_n 2, 1) := by decide +kernel
theorem dX2_asked_22 : decode cX2_asked 22 = .ok (.iload 4, 2) := by decide +kernel
theorem dX2_asked_24 : decode cX2_asked 24 = .ok (.invokevirtual 102, 3) := by decide +kernel
theorem dX2_asked_27 : decode cX2_asked 27 = .ok (.iadd, 1) := by decide +kernel
theorem dX2_asked_28 : decode cX2_asked 28 = .ok (.istore_n 3, 1) := by decide +kernel
theorem dX2_asked_29 : decode cX2_asked 29 = .ok (.iinc 4 1, 3) := by decide +kernel
theorem dX2_asked_32 : decode cX2_asked 32 = .ok (.goto (-21), 3) := by decide +kernel
theorem dX2_asked_35 : decode cX2_asked 35 = .ok (.iload_n 3, 1) := by decide +kernel
theorem dX2_asked_36 : decode cX2_asked 36 = .ok (.i2d, 1) := by decide +kernel
theorem dX2_asked_37 : decode cX2_asked 37 = .ok (.ldc2_w 105, 3) := by decide +kernel
theorem dX2_asked_40 : decode cX2_asked 40 = .ok (.ddiv, 1) := by decide +kernel
theorem dX2_asked_41 : decode cX2_asked 41 = .ok (.dreturn, 1) := by decide +kernel
set_option maxRecDepth 20000 in
theorem ggX2_compare_X2_foldAt : GoodIn wsX2_compare wsX2_foldAt := goodIn_ca (goodIn_r _ [5, 6, 7, 8, 16, 17, 18, 19, 20, 21, 9, 10, 11, 12, 13, 14, 15] (by decide +kernel) (by decide +kernel)) (goodIn_sub (fun _ h => List.mem_cons_of_mem _ (List.mem_append_right _ h)) (by decide +kernel))
set_option maxRecDepth 20000 in
theorem gX2_compare_X2_foldAt : GoodIn wsX2_compare (wsV RX2 56 RX2 yX2_foldAt wsX2_foldAt) := goodIn_app (goodIn_of _ (by decide +kernel)) ggX2_compare_X2_foldAt
theorem dX2_compare_0 : decode cX2_compare 0 = .ok (.aload_n 0, 1) := by decide +kernel
theorem dX2_compare_1 : decode cX2_compare 1 = .ok (.iload_n 1, 1) := by decide +kernel
theorem dX2_compare_2 : decode cX2_compare 2 = .ok (.invokevirtual 56, 3) := by decide +kernel
theorem dX2_compare_5 : decode cX2_compare 5 = .ok (.astore_n 3, 1) := by decide +kernel
theorem dX2_compare_6 : decode cX2_compare 6 = .ok (.aload_n 0, 1) := by decide +kernel
theorem dX2_compare_7 : decode cX2_compare 7 = .ok (.iload_n 2, 1) := by decide +kernel
theorem dX2_compare_8 : decode cX2_compare 8 = .ok (.invokevirtual 56, 3) := by decide +kernel
theorem dX2_compare_11 : decode cX2_compare 11 = .ok (.astore 4, 2) := by decide +kernel
theorem dX2_compare_13 : decode cX2_compare 13 = .ok (.iconst 1, 1) := by decide +kernel
theorem dX2_compare_14 : decode cX2_compare 14 = .ok (.istore 5, 2) := by decide +kernel
theorem dX2_compare_16 : decode cX2_compare 16 = .ok (.iconst 1, 1) := by decide +kernel
theorem dX2_compare_17 : decode cX2_compare 17 = .ok (.istore 6, 2) := by decide +kernel
theorem dX2_compare_19 : decode cX2_compare 19 = .ok (.iconst 1, 1) := by decide +kernel
theorem dX2_compare_20 : decode cX2_compare 20 = .ok (.istore 7, 2) := by decide +kernel
theorem dX2_compare_22 : decode cX2_compare 22 = .ok (.iconst 0, 1) := by decide +kernel
theorem dX2_compare_23 : decode cX2_compare 23 = .ok (.istore 8, 2) := by decide +kernel
theorem dX2_compare_25 : decode cX2_compare 25 = .ok (.iload 8, 2) := by decide +kernel
theorem dX2_compare_27 : decode cX2_compare 27 = .ok (.sipush 256, 3) := by decide +kernel
theorem dX2_compare_30 : decode cX2_compare 30 = .ok (.if_icmp .ge 63, 3) := by decide +kernel
theorem dX2_compare_33 : decode cX2_compare 33 = .ok (.aload_n 3, 1) := by decide +kernel
theorem dX2_compare_34 : decode cX2_compare 34 = .ok (.getfield 41, 3) := by decide +kernel
theorem dX2_compare_37 : decode cX2_compare 37 = .ok (.iload 8, 2) := by decide +kernel
theorem dX2_compare_39 : decode cX2_compare 39 = .ok (.baload, 1) := by decide +kernel
theorem dX2_compare_40 : decode cX2_compare 40 = .ok (.istore 9, 2) := by decide +kernel
theorem dX2_compare_42 : decode cX2_compare 42 = .ok (.aload 4, 2) := by decide +kernel
theorem dX2_compare_44 : decode cX2_compare 44 = .ok (.getfield 41, 3) := by decide +kernel
theorem dX2_compare_47 : decode cX2_compare 47 = .ok (.iload 8, 2) := by decide +kernel
theorem dX2_compare_49 : decode cX2_compare 49 = .ok (.baload, 1) := by decide +kernel
theorem dX2_compare_50 : decode cX2_compare 50 = .ok (.istore 10, 2) := by decide +kernel
theorem dX2_compare_52 : decode cX2_compare 52 = .ok (.iload 9, 2) := by decide +kernel
theorem dX2_compare_54 : decode cX2_compare 54 = .ok (.ifCond .eq 14, 3) := by decide +kernel
theorem dX2_compare_57 : decode cX2_compare 57 = .ok (.iload 10, 2) := by decide +kernel
theorem dX2_compare_59 : decode cX2_compare 59 = .ok (.ifCond .eq 9, 3) := by decide +kernel
theorem dX2_compare_62 : decode cX2_compare 62 = .ok (.iconst 0, 1) := by decide +kernel
theorem dX2_compare_63 : decode cX2_compare 63 = .ok (.istore 7, 2) := by decide +kernel
theorem dX2_compare_65 : decode cX2_compare 65 = .ok (.goto 22, 3) := by decide +kernel
theorem dX2_compare_68 : decode cX2_compare 68 = .ok (.iload 9, 2) := by decide +kernel
theorem dX2_compare_70 : decode cX2_compare 70 = .ok (.ifCond .eq 9, 3) := by decide +kernel
theorem dX2_compare_73 : decode cX2_compare 73 = .ok (.iconst 0, 1) := by decide +kernel
theorem dX2_compare_74 : decode cX2_compare 74 = .ok (.istore 5, 2) := by decide +kernel
theorem dX2_compare_76 : decode cX2_compare 76 = .ok (.goto 11, 3) := by decide +kernel
theorem dX2_compare_79 : decode cX2_compare 79 = .ok (.iload 10, 2) := by decide +kernel
theorem dX2_compare_81 : decode cX2_compare 81 = .ok (.ifCond .eq 6, 3) := by decide +kernel
theorem dX2_compare_84 : decode cX2_compare 84 = .ok (.iconst 0, 1) := by decide +kernel
theorem dX2_compare_85 : decode cX2_compare 85 = .ok (.istore 6, 2) := by decide +kernel
theorem dX2_compare_87 : decode cX2_compare 87 = .ok (.iinc 8 1, 3) := by decide +kernel
theorem dX2_compare_90 : decode cX2_compare 90 = .ok (.goto (-65), 3) := by decide +kernel
theorem dX2_compare_93 : decode cX2_compare 93 = .ok (.iload 5, 2) := by decide +kernel
theorem dX2_compare_95 : decode cX2_compare 95 = .ok (.ifCond .eq 14, 3) := by decide +kernel
theorem dX2_compare_98 : decode cX2_compare 98 = .ok (.iload 6, 2) := by decide +kernel
theorem dX2_compare_100 : decode cX2_compare 100 = .ok (.ifCond .eq 7, 3) := by decide +kernel
theorem dX2_compare_103 : decode cX2_compare 103 = .ok (.iconst 0, 1) := by decide +kernel
theorem dX2_compare_104 : decode cX2_compare 104 = .ok (.goto 4, 3) := by decide +kernel
theorem dX2_compare_107 : decode cX2_compare 107 = .ok (.iconst 1, 1) := by decide +kernel
theorem dX2_compare_108 : decode cX2_compare 108 = .ok (.ireturn, 1) := by decide +kernel
theorem dX2_compare_109 : decode cX2_compare 109 = .ok (.iload 6, 2) := by decide +kernel
theorem dX2_compare_111 : decode cX2_compare 111 = .ok (.ifCond .eq 5, 3) := by decide +kernel
theorem dX2_compare_114 : decode cX2_compare 114 = .ok (.iconst 2, 1) := by decide +kernel
theorem dX2_compare_115 : decode cX2_compare 115 = .ok (.ireturn, 1) := by decide +kernel
theorem dX2_compare_116 : decode cX2_compare 116 = .ok (.iload 7, 2) := by decide +kernel
theorem dX2_compare_118 : decode cX2_compare 118 = .ok (.ifCond .eq 7, 3) := by decide +kernel
theorem dX2_compare_121 : decode cX2_compare 121 = .ok (.iconst 3, 1) := by decide +kernel
theorem dX2_compare_122 : decode cX2_compare 122 = .ok (.goto 4, 3) := by decide +kernel
theorem dX2_compare_125 : decode cX2_compare 125 = .ok (.iconst 4, 1) := by decide +kernel
theorem dX2_compare_126 : decode cX2_compare 126 = .ok (.ireturn, 1) := by decide +kernel
set_option maxRecDepth 20000 in
theorem ggX2_count_X2_checkBelow : GoodIn wsX2_count wsX2_checkBelow := goodIn_ca (goodIn_r _ [4, 5, 6] (by decide +kernel) (by decide +kernel)) (goodIn_sub (fun _ h => List.mem_cons_of_mem _ (List.mem_append_right _ h)) (by decide +kernel))
set_option maxRecDepth 20000 in
theorem gX2_count_X2_checkBelow : GoodIn wsX2_count (va_wsS RX2 48 yX2_checkBelow wsX2_checkBelow) := goodIn_app (goodIn_of _ (by decide +kernel)) ggX2_count_X2_checkBelow
set_option maxRecDepth 20000 in
theorem ggX2_count_X2_tellCount : GoodIn wsX2_count wsX2_tellCount := goodIn_r _ [10, 11, 12, 13, 14, 3, 15, 16, 17, 18, 19, 20, 21, 22, 23, 24, 25, 26, 27, 28, 29, 30, 31, 32, 33, 34, 35, 36, 37, 38, 39, 40, 41, 42, 43, 44, 45, 46, 47, 48, 49, 50, 51, 52] (by decide +kernel) (by decide +kernel)
set_option maxRecDepth 20000 in
theorem gX2_count_X2_tellCount : GoodIn wsX2_count (wsV RX2 107 RX2 yX2_tellCount wsX2_tellCount) := goodIn_app (goodIn_of _ (by decide +kernel)) ggX2_count_X2_tellCount
theorem dX2_count_0 : decode cX2_count 0 = .ok (.iload_n 1, 1) := by decide +kernel
theorem dX2_count_1 : decode cX2_count 1 = .ok (.iconst 5, 1) := by decide +kernel
theorem dX2_count_2 : decode cX2_count 2 = .ok (.invokestatic 48, 3) := by decide +kernel
theorem dX2_count_5 : decode cX2_count 5 = .ok (.aload_n 0, 1) := by decide +kernel
theorem dX2_count_6 : decode cX2_count 6 = .ok (.iload_n 1, 1) := by decide +kernel
theorem dX2_count_7 : decode cX2_count 7 = .ok (.invokevirtual 107, 3) := by decide +kernel
theorem dX2_count_10 : decode cX2_count 10 = .ok (.ireturn, 1) := by decide +kernel
set_option maxRecDepth 20000 in
theorem ggX2_has_X2_checkBelow : GoodIn wsX2_has wsX2_checkBelow := goodIn_ca (goodIn_r _ [5, 6, 7] (by decide +kernel) (by decide +kernel)) (goodIn_sub (fun _ h => List.mem_cons_of_mem _ (List.mem_append_right _ h)) (by decide +kernel))
set_option maxRecDepth 20000 in
theorem gX2_has_X2_checkBelow : GoodIn wsX2_has (va_wsS RX2 48 yX2_checkBelow wsX2_checkBelow) := goodIn_app (goodIn_of _ (by decide +kernel)) ggX2_has_X2_checkBelow
theorem dX2_has_0 : decode cX2_has 0 = .ok (.iload_n 1, 1) := by decide +kernel
theorem dX2_has_1 : decode cX2_has 1 = .ok (.bipush 12, 2) := by decide +kernel
theorem dX2_has_3 : decode cX2_has 3 = .ok (.invokestatic 48, 3) := by decide +kernel
theorem dX2_has_6 : decode cX2_has 6 = .ok (.aload_n 0, 1) := by decide +kernel
theorem dX2_has_7 : decode cX2_has 7 = .ok (.getfield 11, 3) := by decide +kernel
theorem dX2_has_10 : decode cX2_has 10 = .ok (.iload_n 1, 1) := by decide +kernel
theorem dX2_has_11 : decode cX2_has 11 = .ok (.aaload, 1) := by decide +kernel
theorem dX2_has_12 : decode cX2_has 12 = .ok (.getfield 68, 3) := by decide +kernel
theorem dX2_has_15 : decode cX2_has 15 = .ok (.ireturn, 1) := by decide +kernel
set_option maxRecDepth 20000 in
theorem ggX2_advise_X2_countForksAfterSwap : GoodIn wsX2_advise wsX2_countForksAfterSwap := goodIn_r _ [6, 7, 8, 9, 10, 11, 12, 13, 14, 15, 16, 5, 17, 18, 19, 20, 21, 22, 23, 24, 25, 26, 27, 28, 29, 30, 31, 32, 33, 34, 35, 36, 37, 38, 39, 40, 41, 42, 43, 44, 45, 46, 47, 48, 49, 50, 51, 52, 53, 54, 55, 56, 67, 68, 69, 70, 71, 72, 73, 57, 58, 59, 60, 61, 62, 63, 64, 65, 66] (by decide +kernel) (by decide +kernel)
set_option maxRecDepth 20000 in
theorem gX2_advise_X2_countForksAfterSwap : GoodIn wsX2_advise (wsV RX2 110 RX2 yX2_countForksAfterSwap wsX2_countForksAfterSwap) := goodIn_app (goodIn_of _ (by decide +kernel)) ggX2_advise_X2_countForksAfterSwap
theorem dX2_advise_0 : decode cX2_advise 0 = .ok (.iconst (-1), 1) := by decide +kernel
theorem dX2_advise_1 : decode cX2_advise 1 = .ok (.istore_n 1, 1) := by decide +kernel
theorem dX2_advise_2 : decode cX2_advise 2 = .ok (.aload_n 0, 1) := by decide +kernel
theorem dX2_advise_3 : decode cX2_advise 3 = .ok (.getfield 22, 3) := by decide +kernel
theorem dX2_advise_6 : decode cX2_advise 6 = .ok (.getfield 82, 3) := by decide +kernel
theorem dX2_advise_9 : decode cX2_advise 9 = .ok (.istore_n 2, 1) := by decide +kernel
theorem dX2_advise_10 : decode cX2_advise 10 = .ok (.iconst 0, 1) := by decide +kernel
theorem dX2_advise_11 : decode cX2_advise 11 = .ok (.istore_n 3, 1) := by decide +kernel
theorem dX2_advise_12 : decode cX2_advise 12 = .ok (.iload_n 3, 1) := by decide +kernel
theorem dX2_advise_13 : decode cX2_advise 13 = .ok (.bipush 7, 2) := by decide +kernel
theorem dX2_advise_15 : decode cX2_advise 15 = .ok (.if_icmp .ge 27, 3) := by decide +kernel
theorem dX2_advise_18 : decode cX2_advise 18 = .ok (.aload_n 0, 1) := by decide +kernel
theorem dX2_advise_19 : decode cX2_advise 19 = .ok (.iload_n 3, 1) := by decide +kernel
theorem dX2_advise_20 : decode cX2_advise 20 = .ok (.invokevirtual 110, 3) := by decide +kernel
theorem dX2_advise_23 : decode cX2_advise 23 = .ok (.istore 4, 2) := by decide +kernel
theorem dX2_advise_25 : decode cX2_advise 25 = .ok (.iload 4, 2) := by decide +kernel
theorem dX2_advise_27 : decode cX2_advise 27 = .ok (.iload_n 2, 1) := by decide +kernel
theorem dX2_advise_28 : decode cX2_advise 28 = .ok (.if_icmp .ge 8, 3) := by decide +kernel
theorem dX2_advise_31 : decode cX2_advise 31 = .ok (.iload 4, 2) := by decide +kernel
theorem dX2_advise_33 : decode cX2_advise 33 = .ok (.istore_n 2, 1) := by decide +kernel
theorem dX2_advise_34 : decode cX2_advise 34 = .ok (.iload_n 3, 1) := by decide +kernel
theorem dX2_advise_35 : decode cX2_advise 35 = .ok (.istore_n 1, 1) := by decide +kernel
theorem dX2_advise_36 : decode cX2_advise 36 = .ok (.iinc 3 1, 3) := by decide +kernel
theorem dX2_advise_39 : decode cX2_advise 39 = .ok (.goto (-27), 3) := by decide +kernel
theorem dX2_advise_42 : decode cX2_advise 42 = .ok (.iload_n 1, 1) := by decide +kernel
theorem dX2_advise_43 : decode cX2_advise 43 = .ok (.ireturn, 1) := by decide +kernel
set_option maxRecDepth 20000 in
theorem ggX2_would_X2_foldAt : GoodIn wsX2_would wsX2_foldAt := goodIn_ca (goodIn_r _ [8, 9, 10, 11, 57, 58, 59, 60, 61, 62, 73, 74, 75, 76, 77, 78, 79] (by decide +kernel) (by decide +kernel)) (goodIn_sub (fun _ h => List.mem_cons_of_mem _ (List.mem_append_right _ h)) (by decide +kernel))
set_option maxRecDepth 20000 in
theorem gX2_would_X2_foldAt : GoodIn wsX2_would (wsV RX2 56 RX2 yX2_foldAt wsX2_foldAt) := goodIn_app (goodIn_of _ (by decide +kernel)) ggX2_would_X2_foldAt
set_option maxRecDepth 20000 in
theorem ggX2_would_X2_checkBelow : GoodIn wsX2_would wsX2_checkBelow := goodIn_ca (goodIn_r _ [14, 9, 10] (by decide +kernel) (by decide +kernel)) (goodIn_sub (fun _ h => List.mem_cons_of_mem _ (List.mem_append_right _ h)) (by decide +kernel))
set_option maxRecDepth 20000 in
theorem gX2_would_X2_checkBelow : GoodIn wsX2_would (va_wsS RX2 48 yX2_checkBelow wsX2_checkBelow) := goodIn_app (goodIn_of _ (by decide +kernel)) ggX2_would_X2_checkBelow
set_option maxRecDepth 20000 in
theorem ggX2_would_X2_sayJoined : GoodIn wsX2_would wsX2_sayJoined := goodIn_r _ [17, 18, 19, 7, 20, 73, 74, 75, 76, 77, 78, 79] (by decide +kernel) (by decide +kernel)
set_option maxRecDepth 20000 in
theorem gX2_would_X2_sayJoined : GoodIn wsX2_would (va_wsS RX2 60 yX2_sayJoined wsX2_sayJoined) := goodIn_app (goodIn_of _ (by decide +kernel)) ggX2_would_X2_sayJoined
set_option maxRecDepth 20000 in
theorem ggX2_would_X1_startOver : GoodIn wsX2_would wsX1_startOver := goodIn_r _ [24, 25, 26, 27, 28, 29, 30, 31, 32, 33, 34, 35, 36, 37, 38, 39, 22, 40, 63, 64, 65, 66, 67, 68, 69, 70, 71, 72] (by decide +kernel) (by decide +kernel)
set_option maxRecDepth 20000 in
theorem gX2_would_X1_startOver_n113 : GoodIn wsX2_would (wsX1_startOver) := ggX2_would_X1_startOver
set_option maxRecDepth 20000 in
theorem ggX2_would_X1_lay : GoodIn wsX2_would wsX1_lay := goodIn_r _ [43, 44, 32, 27, 45, 46, 47, 22, 48, 26, 49, 50, 51, 52, 53, 54, 55, 25, 56, 63, 64, 65, 66, 67, 68, 69, 70, 71, 72] (by decide +kernel) (by decide +kernel)
set_option maxRecDepth 20000 in
theorem gX2_would_X1_lay_n117 : GoodIn wsX2_would (wsX1_lay) := ggX2_would_X1_lay
theorem dX2_would_0 : decode cX2_would 0 = .ok (.aload_n 0, 1) := by decide +kernel
theorem dX2_would_1 : decode cX2_would 1 = .ok (.iload_n 1, 1) := by decide +kernel
theorem dX2_would_2 : decode cX2_would 2 = .ok (.invokevirtual 56, 3) := by decide +kernel
theorem dX2_would_5 : decode cX2_would 5 = .ok (.astore 4, 2) := by decide +kernel
theorem dX2_would_7 : decode cX2_would 7 = .ok (.aload_n 0, 1) := by decide +kernel
theorem dX2_would_8 : decode cX2_would 8 = .ok (.iload_n 2, 1) := by decide +kernel
theorem dX2_would_9 : decode cX2_would 9 = .ok (.invokevirtual 56, 3) := by decide +kernel
theorem dX2_would_12 : decode cX2_would 12 = .ok (.astore 5, 2) := by decide +kernel
theorem dX2_would_14 : decode cX2_would 14 = .ok (.iload_n 3, 1) := by decide +kernel
theorem dX2_would_15 : decode cX2_would 15 = .ok (.bipush 6, 2) := by decide +kernel
theorem dX2_would_17 : decode cX2_would 17 = .ok (.invokestatic 48, 3) := by decide +kernel
theorem dX2_would_20 : decode cX2_would 20 = .ok (.aload 4, 2) := by decide +kernel
theorem dX2_would_22 : decode cX2_would 22 = .ok (.aload 5, 2) := by decide +kernel
theorem dX2_would_24 : decode cX2_would 24 = .ok (.iload_n 3, 1) := by decide +kernel
theorem dX2_would_25 : decode cX2_would 25 = .ok (.aload_n 0, 1) := by decide +kernel
theorem dX2_would_26 : decode cX2_would 26 = .ok (.getfield 26, 3) := by decide +kernel
theorem dX2_would_29 : decode cX2_would 29 = .ok (.invokestatic 60, 3) := by decide +kernel
theorem dX2_would_32 : decode cX2_would 32 = .ok (.aload_n 0, 1) := by decide +kernel
theorem dX2_would_33 : decode cX2_would 33 = .ok (.getfield 33, 3) := by decide +kernel
theorem dX2_would_36 : decode cX2_would 36 = .ok (.aload_n 0, 1) := by decide +kernel
theorem dX2_would_37 : decode cX2_would 37 = .ok (.getfield 15, 3) := by decide +kernel
theorem dX2_would_40 : decode cX2_would 40 = .ok (.invokevirtual 113, 3) := by decide +kernel
theorem dX2_would_43 : decode cX2_would 43 = .ok (.aload_n 0, 1) := by decide +kernel
theorem dX2_would_44 : decode cX2_would 44 = .ok (.getfield 33, 3) := by decide +kernel
theorem dX2_would_47 : decode cX2_would 47 = .ok (.aload_n 0, 1) := by decide +kernel
theorem dX2_would_48 : decode cX2_would 48 = .ok (.getfield 26, 3) := by decide +kernel
theorem dX2_would_51 : decode cX2_would 51 = .ok (.invokevirtual 117, 3) := by decide +kernel
theorem dX2_would_54 : decode cX2_would 54 = .ok (.pop, 1) := by decide +kernel
theorem dX2_would_55 : decode cX2_would 55 = .ok (.aload_n 0, 1) := by decide +kernel
theorem dX2_would_56 : decode cX2_would 56 = .ok (.getfield 33, 3) := by decide +kernel
theorem dX2_would_59 : decode cX2_would 59 = .ok (.getfield 82, 3) := by decide +kernel
theorem dX2_would_62 : decode cX2_would 62 = .ok (.ireturn, 1) := by decide +kernel
set_option maxRecDepth 20000 in
theorem ggX2_mean_X2_countKept : GoodIn wsX2_mean wsX2_countKept := goodIn_r _ [5, 6, 11, 12, 13, 14, 15, 16, 17, 18, 19, 20, 21, 22, 23] (by decide +kernel) (by decide +kernel)
set_option maxRecDepth 20000 in
theorem gX2_mean_X2_countKept : GoodIn wsX2_mean (wsV RX2 75 RX2 yX2_countKept wsX2_countKept) := goodIn_app (goodIn_of _ (by decide +kernel)) ggX2_mean_X2_countKept
set_option maxRecDepth 20000 in
theorem ggX2_mean_X2_addForks : GoodIn wsX2_mean wsX2_addForks := goodIn_r _ [10, 6, 11, 12, 13, 14, 15, 16, 17, 18, 19, 20, 21, 22, 23] (by decide +kernel) (by decide +kernel)
set_option maxRecDepth 20000 in
theorem gX2_mean_X2_addForks : GoodIn wsX2_mean (wsV RX2 121 RX2 yX2_addForks wsX2_addForks) := goodIn_app (goodIn_of _ (by decide +kernel)) ggX2_mean_X2_addForks
theorem dX2_mean_0 : decode cX2_mean 0 = .ok (.aload_n 0, 1) := by decide +kernel
theorem dX2_mean_1 : decode cX2_mean 1 = .ok (.invokevirtual 75, 3) := by decide +kernel
theorem dX2_mean_4 : decode cX2_mean 4 = .ok (.istore_n 1, 1) := by decide +kernel
theorem dX2_mean_5 : decode cX2_mean 5 = .ok (.iload_n 1, 1) := by decide +kernel
theorem dX2_mean_6 : decode cX2_mean 6 = .ok (.ifCond .ne 7, 3) := by decide +kernel
theorem dX2_mean_9 : decode cX2_mean 9 = .ok (.dconst 0, 1) := by decide +kernel
theorem dX2_mean_10 : decode cX2_mean 10 = .ok (.goto 11, 3) := by decide +kernel
theorem dX2_mean_13 : decode cX2_mean 13 = .ok (.aload_n 0, 1) := by decide +kernel
theorem dX2_mean_14 : decode cX2_mean 14 = .ok (.invokevirtual 121, 3) := by decide +kernel
theorem dX2_mean_17 : decode cX2_mean 17 = .ok (.i2d, 1) := by decide +kernel
theorem dX2_mean_18 : decode cX2_mean 18 = .ok (.iload_n 1, 1) := by decide +kernel
theorem dX2_mean_19 : decode cX2_mean 19 = .ok (.i2d, 1) := by decide +kernel
theorem dX2_mean_20 : decode cX2_mean 20 = .ok (.ddiv, 1) := by decide +kernel
theorem dX2_mean_21 : decode cX2_mean 21 = .ok (.dreturn, 1) := by decide +kernel
set_option maxRecDepth 20000 in
theorem ggX2_digest_X2_tellCount : GoodIn wsX2_digest wsX2_tellCount := goodIn_r _ [9, 10, 11, 12, 13, 8, 14, 4, 15, 16, 17, 18, 19, 20, 21, 22, 3, 23, 24, 25, 26, 78, 79, 80, 81, 82, 83, 91, 92, 93, 94, 95, 96, 97, 98, 99, 100, 84, 85, 86, 87, 88, 89, 90] (by decide +kernel) (by decide +kernel)
set_option maxRecDepth 20000 in
theorem gX2_digest_X2_tellCount : GoodIn wsX2_digest (wsV RX2 107 RX2 yX2_tellCount wsX2_tellCount) := goodIn_app (goodIn_of _ (by decide +kernel)) ggX2_digest_X2_tellCount
set_option maxRecDepth 20000 in
theorem ggX2_digest_X2_digestFold : GoodIn wsX2_digest wsX2_digestFold := goodIn_r _ [30, 2, 31, 32, 33, 8, 34, 35, 36, 37, 38, 39, 40, 41, 10, 42, 43, 44, 45, 46, 47, 48, 49, 50, 51, 52, 53, 54, 55, 56, 57, 58, 59, 60, 61, 62, 63, 64, 65, 66, 67, 68, 69, 70, 71, 72, 73, 74, 75, 76, 77, 84, 85, 86, 87, 88, 89, 90, 78, 79, 80, 81, 82, 83, 91, 92, 93, 94, 95, 96, 97, 98, 99, 100] (by decide +kernel) (by decide +kernel)
set_option maxRecDepth 20000 in
theorem gX2_digest_X2_digestFold : GoodIn wsX2_digest (wsV RX2 128 RX2 yX2_digestFold wsX2_digestFold) := goodIn_app (goodIn_of _ (by decide +kernel)) ggX2_digest_X2_digestFold
theorem dX2_digest_0 : decode cX2_digest 0 = .ok (.ldc2_w 124, 3) := by decide +kernel
theorem dX2_digest_3 : decode cX2_digest 3 = .ok (.lstore_n 1, 1) := by decide +kernel
theorem dX2_digest_4 : decode cX2_digest 4 = .ok (.iconst 0, 1) := by decide +kernel
theorem dX2_digest_5 : decode cX2_digest 5 = .ok (.istore_n 3, 1) := by decide +kernel
theorem dX2_digest_6 : decode cX2_digest 6 = .ok (.iload_n 3, 1) := by decide +kernel
theorem dX2_digest_7 : decode cX2_digest 7 = .ok (.iconst 5, 1) := by decide +kernel
theorem dX2_digest_8 : decode cX2_digest 8 = .ok (.if_icmp .ge 22, 3) := by decide +kernel
theorem dX2_digest_11 : decode cX2_digest 11 = .ok (.lload_n 1, 1) := by decide +kernel
theorem dX2_digest_12 : decode cX2_digest 12 = .ok (.ldc2_w 126, 3) := by decide +kernel
theorem dX2_digest_15 : decode cX2_digest 15 = .ok (.lmul, 1) := by decide +kernel
theorem dX2_digest_16 : decode cX2_digest 16 = .ok (.aload_n 0, 1) := by decide +kernel
theorem dX2_digest_17 : decode cX2_digest 17 = .ok (.iload_n 3, 1) := by decide +kernel
theorem dX2_digest_18 : decode cX2_digest 18 = .ok (.invokevirtual 107, 3) := by decide +kernel
theorem dX2_digest_21 : decode cX2_digest 21 = .ok (.i2l, 1) := by decide +kernel
theorem dX2_digest_22 : decode cX2_digest 22 = .ok (.ladd, 1) := by decide +kernel
theorem dX2_digest_23 : decode cX2_digest 23 = .ok (.lstore_n 1, 1) := by decide +kernel
theorem dX2_digest_24 : decode cX2_digest 24 = .ok (.iinc 3 1, 3) := by decide +kernel
theorem dX2_digest_27 : decode cX2_digest 27 = .ok (.goto (-21), 3) := by decide +kernel
theorem dX2_digest_30 : decode cX2_digest 30 = .ok (.iconst 0, 1) := by decide +kernel
theorem dX2_digest_31 : decode cX2_digest 31 = .ok (.istore_n 3, 1) := by decide +kernel
theorem dX2_digest_32 : decode cX2_digest 32 = .ok (.iload_n 3, 1) := by decide +kernel
theorem dX2_digest_33 : decode cX2_digest 33 = .ok (.bipush 8, 2) := by decide +kernel
theorem dX2_digest_35 : decode cX2_digest 35 = .ok (.if_icmp .ge 23, 3) := by decide +kernel
theorem dX2_digest_38 : decode cX2_digest 38 = .ok (.lload_n 1, 1) := by decide +kernel
theorem dX2_digest_39 : decode cX2_digest 39 = .ok (.ldc2_w 126, 3) := by decide +kernel
theorem dX2_digest_42 : decode cX2_digest 42 = .ok (.lmul, 1) := by decide +kernel
theorem dX2_digest_43 : decode cX2_digest 43 = .ok (.aload_n 0, 1) := by decide +kernel
theorem dX2_digest_44 : decode cX2_digest 44 = .ok (.getfield 15, 3) := by decide +kernel
theorem dX2_digest_47 : decode cX2_digest 47 = .ok (.iload_n 3, 1) := by decide +kernel
theorem dX2_digest_48 : decode cX2_digest 48 = .ok (.iaload, 1) := by decide +kernel
theorem dX2_digest_49 : decode cX2_digest 49 = .ok (.i2l, 1) := by decide +kernel
theorem dX2_digest_50 : decode cX2_digest 50 = .ok (.ladd, 1) := by decide +kernel
theorem dX2_digest_51 : decode cX2_digest 51 = .ok (.lstore_n 1, 1) := by decide +kernel
theorem dX2_digest_52 : decode cX2_digest 52 = .ok (.iinc 3 1, 3) := by decide +kernel
theorem dX2_digest_55 : decode cX2_digest 55 = .ok (.goto (-23), 3) := by decide +kernel
theorem dX2_digest_58 : decode cX2_digest 58 = .ok (.iconst 0, 1) := by decide +kernel
theorem dX2_digest_59 : decode cX2_digest 59 = .ok (.istore_n 3, 1) := by decide +kernel
theorem dX2_digest_60 : decode cX2_digest 60 = .ok (.iload_n 3, 1) := by decide +kernel
theorem dX2_digest_61 : decode cX2_digest 61 = .ok (.bipush 12, 2) := by decide +kernel
theorem dX2_digest_63 : decode cX2_digest 63 = .ok (.if_icmp .ge 47, 3) := by decide +kernel
theorem dX2_digest_66 : decode cX2_digest 66 = .ok (.aload_n 0, 1) := by decide +kernel
theorem dX2_digest_67 : decode cX2_digest 67 = .ok (.getfield 11, 3) := by decide +kernel
theorem dX2_digest_70 : decode cX2_digest 70 = .ok (.iload_n 3, 1) := by decide +kernel
theorem dX2_digest_71 : decode cX2_digest 71 = .ok (.aaload, 1) := by decide +kernel
theorem dX2_digest_72 : decode cX2_digest 72 = .ok (.astore 4, 2) := by decide +kernel
theorem dX2_digest_74 : decode cX2_digest 74 = .ok (.aload 4, 2) := by decide +kernel
theorem dX2_digest_76 : decode cX2_digest 76 = .ok (.getfield 68, 3) := by decide +kernel
theorem dX2_digest_79 : decode cX2_digest 79 = .ok (.ifCond .eq 19, 3) := by decide +kernel
theorem dX2_digest_82 : decode cX2_digest 82 = .ok (.aload_n 0, 1) := by decide +kernel
theorem dX2_digest_83 : decode cX2_digest 83 = .ok (.lload_n 1, 1) := by decide +kernel
theorem dX2_digest_84 : decode cX2_digest 84 = .ok (.ldc2_w 126, 3) := by decide +kernel
theorem dX2_digest_87 : decode cX2_digest 87 = .ok (.lmul, 1) := by decide +kernel
theorem dX2_digest_88 : decode cX2_digest 88 = .ok (.lconst 1, 1) := by decide +kernel
theorem dX2_digest_89 : decode cX2_digest 89 = .ok (.ladd, 1) := by decide +kernel
theorem dX2_digest_90 : decode cX2_digest 90 = .ok (.aload 4, 2) := by decide +kernel
theorem dX2_digest_92 : decode cX2_digest 92 = .ok (.invokevirtual 128, 3) := by decide +kernel
theorem dX2_digest_95 : decode cX2_digest 95 = .ok (.goto 8, 3) := by decide +kernel
theorem dX2_digest_98 : decode cX2_digest 98 = .ok (.lload_n 1, 1) := by decide +kernel
theorem dX2_digest_99 : decode cX2_digest 99 = .ok (.ldc2_w 126, 3) := by decide +kernel
theorem dX2_digest_102 : decode cX2_digest 102 = .ok (.lmul, 1) := by decide +kernel
theorem dX2_digest_103 : decode cX2_digest 103 = .ok (.lstore_n 1, 1) := by decide +kernel
theorem dX2_digest_104 : decode cX2_digest 104 = .ok (.iinc 3 1, 3) := by decide +kernel
theorem dX2_digest_107 : decode cX2_digest 107 = .ok (.goto (-47), 3) := by decide +kernel
theorem dX2_digest_110 : decode cX2_digest 110 = .ok (.lload_n 1, 1) := by decide +kernel
theorem dX2_digest_111 : decode cX2_digest 111 = .ok (.lreturn, 1) := by decide +kernel
set_option maxRecDepth 20000 in
theorem ggX2_digestFold_X2_tellFold : GoodIn wsX2_digestFold wsX2_tellFold := goodIn_r _ [6, 7, 8, 5, 9, 10, 11, 12, 13, 14, 15, 16, 17, 18, 19, 20, 21, 22, 23, 24, 25, 26, 27, 28, 29, 30, 31, 32, 33, 34, 35, 36, 37, 38, 39, 40, 41, 42, 43, 44, 45, 46, 51, 52, 53, 54, 55, 56, 57, 58, 59, 60, 61, 62, 63, 64, 65, 66, 67, 68, 69, 70, 71, 72, 73] (by decide +kernel) (by decide +kernel)
set_option maxRecDepth 20000 in
theorem gX2_digestFold_X2_tellFold : GoodIn wsX2_digestFold (wsV RX2 98 RX2 yX2_tellFold wsX2_tellFold) := goodIn_app (goodIn_of _ (by decide +kernel)) ggX2_digestFold_X2_tellFold
set_option maxRecDepth 20000 in
theorem ggX2_digestFold_X2_tellFork : GoodIn wsX2_digestFold wsX2_tellFork := goodIn_r _ [50, 14, 51, 52, 53, 54, 55, 56, 57, 58, 59, 60, 61, 62, 63, 64, 65, 66, 67, 68, 69, 70, 71, 72, 73] (by decide +kernel) (by decide +kernel)
set_option maxRecDepth 20000 in
theorem gX2_digestFold_X2_tellFork : GoodIn wsX2_digestFold (wsV RX2 94 RX2 yX2_tellFork wsX2_tellFork) := goodIn_app (goodIn_of _ (by decide +kernel)) ggX2_digestFold_X2_tellFork
theorem dX2_digestFold_0 : decode cX2_digestFold 0 = .ok (.lload_n 1, 1) := by decide +kernel
theorem dX2_digestFold_1 : decode cX2_digestFold 1 = .ok (.lstore 4, 2) := by decide +kernel
theorem dX2_digestFold_3 : decode cX2_digestFold 3 = .ok (.iconst 0, 1) := by decide +kernel
theorem dX2_digestFold_4 : decode cX2_digestFold 4 = .ok (.istore 6, 2) := by decide +kernel
theorem dX2_digestFold_6 : decode cX2_digestFold 6 = .ok (.iload 6, 2) := by decide +kernel
theorem dX2_digestFold_8 : decode cX2_digestFold 8 = .ok (.bipush 8, 2) := by decide +kernel
theorem dX2_digestFold_10 : decode cX2_digestFold 10 = .ok (.if_icmp .ge 26, 3) := by decide +kernel
theorem dX2_digestFold_13 : decode cX2_digestFold 13 = .ok (.lload 4, 2) := by decide +kernel
theorem dX2_digestFold_15 : decode cX2_digestFold 15 = .ok (.ldc2_w 126, 3) := by decide +kernel
theorem dX2_digestFold_18 : decode cX2_digestFold 18 = .ok (.lmul, 1) := by decide +kernel
theorem dX2_digestFold_19 : decode cX2_digestFold 19 = .ok (.aload_n 0, 1) := by decide +kernel
theorem dX2_digestFold_20 : decode cX2_digestFold 20 = .ok (.aload_n 3, 1) := by decide +kernel
theorem dX2_digestFold_21 : decode cX2_digestFold 21 = .ok (.iload 6, 2) := by decide +kernel
theorem dX2_digestFold_23 : decode cX2_digestFold 23 = .ok (.invokevirtual 98, 3) := by decide +kernel
theorem dX2_digestFold_26 : decode cX2_digestFold 26 = .ok (.i2l, 1) := by decide +kernel
theorem dX2_digestFold_27 : decode cX2_digestFold 27 = .ok (.ladd, 1) := by decide +kernel
theorem dX2_digestFold_28 : decode cX2_digestFold 28 = .ok (.lstore 4, 2) := by decide +kernel
theorem dX2_digestFold_30 : decode cX2_digestFold 30 = .ok (.iinc 6 1, 3) := by decide +kernel
theorem dX2_digestFold_33 : decode cX2_digestFold 33 = .ok (.goto (-27), 3) := by decide +kernel
theorem dX2_digestFold_36 : decode cX2_digestFold 36 = .ok (.iconst 0, 1) := by decide +kernel
theorem dX2_digestFold_37 : decode cX2_digestFold 37 = .ok (.istore 6, 2) := by decide +kernel
theorem dX2_digestFold_39 : decode cX2_digestFold 39 = .ok (.iload 6, 2) := by decide +kernel
theorem dX2_digestFold_41 : decode cX2_digestFold 41 = .ok (.aload_n 3, 1) := by decide +kernel
theorem dX2_digestFold_42 : decode cX2_digestFold 42 = .ok (.getfield 93, 3) := by decide +kernel
theorem dX2_digestFold_45 : decode cX2_digestFold 45 = .ok (.if_icmp .ge 43, 3) := by decide +kernel
theorem dX2_digestFold_48 : decode cX2_digestFold 48 = .ok (.iconst 0, 1) := by decide +kernel
theorem dX2_digestFold_49 : decode cX2_digestFold 49 = .ok (.istore 7, 2) := by decide +kernel
theorem dX2_digestFold_51 : decode cX2_digestFold 51 = .ok (.iload 7, 2) := by decide +kernel
theorem dX2_digestFold_53 : decode cX2_digestFold 53 = .ok (.iconst 5, 1) := by decide +kernel
theorem dX2_digestFold_54 : decode cX2_digestFold 54 = .ok (.if_icmp .ge 28, 3) := by decide +kernel
theorem dX2_digestFold_57 : decode cX2_digestFold 57 = .ok (.lload 4, 2) := by decide +kernel
theorem dX2_digestFold_59 : decode cX2_digestFold 59 = .ok (.ldc2_w 126, 3) := by decide +kernel
theorem dX2_digestFold_62 : decode cX2_digestFold 62 = .ok (.lmul, 1) := by decide +kernel
theorem dX2_digestFold_63 : decode cX2_digestFold 63 = .ok (.aload_n 0, 1) := by decide +kernel
theorem dX2_digestFold_64 : decode cX2_digestFold 64 = .ok (.aload_n 3, 1) := by decide +kernel
theorem dX2_digestFold_65 : decode cX2_digestFold 65 = .ok (.iload 6, 2) := by decide +kernel
theorem dX2_digestFold_67 : decode cX2_digestFold 67 = .ok (.iload 7, 2) := by decide +kernel
theorem dX2_digestFold_69 : decode cX2_digestFold 69 = .ok (.invokevirtual 94, 3) := by decide +kernel
theorem dX2_digestFold_72 : decode cX2_digestFold 72 = .ok (.i2l, 1) := by decide +kernel
theorem dX2_digestFold_73 : decode cX2_digestFold 73 = .ok (.ladd, 1) := by decide +kernel
theorem dX2_digestFold_74 : decode cX2_digestFold 74 = .ok (.lstore 4, 2) := by decide +kernel
theorem dX2_digestFold_76 : decode cX2_digestFold 76 = .ok (.iinc 7 1, 3) := by decide +kernel
theorem dX2_digestFold_79 : decode cX2_digestFold 79 = .ok (.goto (-28), 3) := by decide +kernel
theorem dX2_digestFold_82 : decode cX2_digestFold 82 = .ok (.iinc 6 1, 3) := by decide +kernel
theorem dX2_digestFold_85 : decode cX2_digestFold 85 = .ok (.goto (-46), 3) := by decide +kernel
theorem dX2_digestFold_88 : decode cX2_digestFold 88 = .ok (.lload 4, 2) := by decide +kernel
theorem dX2_digestFold_90 : decode cX2_digestFold 90 = .ok (.lreturn, 1) := by decide +kernel
theorem dX2_checkBelow_0 : decode cX2_checkBelow 0 = .ok (.iload_n 0, 1) := by decide +kernel
theorem dX2_checkBelow_1 : decode cX2_checkBelow 1 = .ok (.ifCond .lt 8, 3) := by decide +kernel
theorem dX2_checkBelow_4 : decode cX2_checkBelow 4 = .ok (.iload_n 0, 1) := by decide +kernel
theorem dX2_checkBelow_5 : decode cX2_checkBelow 5 = .ok (.iload_n 1, 1) := by decide +kernel
theorem dX2_checkBelow_6 : decode cX2_checkBelow 6 = .ok (.if_icmp .lt 13, 3) := by decide +kernel
theorem dX2_checkBelow_9 : decode cX2_checkBelow 9 = .ok (.new 132, 3) := by decide +kernel
theorem dX2_checkBelow_12 : decode cX2_checkBelow 12 = .ok (.dup, 1) := by decide +kernel
theorem dX2_checkBelow_13 : decode cX2_checkBelow 13 = .ok (.ldc 134, 2) := by decide +kernel
theorem dX2_checkBelow_15 : decode cX2_checkBelow 15 = .ok (.invokespecial 136, 3) := by decide +kernel
theorem dX2_checkBelow_18 : decode cX2_checkBelow 18 = .ok (.athrow, 1) := by decide +kernel
theorem dX2_checkBelow_19 : decode cX2_checkBelow 19 = .ok (.return_, 1) := by decide +kernel
theorem dX2_foldAt_0 : decode cX2_foldAt 0 = .ok (.iload_n 1, 1) := by decide +kernel
theorem dX2_foldAt_1 : decode cX2_foldAt 1 = .ok (.ifCond .lt 21, 3) := by decide +kernel
theorem dX2_foldAt_4 : decode cX2_foldAt 4 = .ok (.iload_n 1, 1) := by decide +kernel
theorem dX2_foldAt_5 : decode cX2_foldAt 5 = .ok (.bipush 12, 2) := by decide +kernel
theorem dX2_foldAt_7 : decode cX2_foldAt 7 = .ok (.if_icmp .ge 15, 3) := by decide +kernel
theorem dX2_foldAt_10 : decode cX2_foldAt 10 = .ok (.aload_n 0, 1) := by decide +kernel
theorem dX2_foldAt_11 : decode cX2_foldAt 11 = .ok (.getfield 11, 3) := by decide +kernel
theorem dX2_foldAt_14 : decode cX2_foldAt 14 = .ok (.iload_n 1, 1) := by decide +kernel
theorem dX2_foldAt_15 : decode cX2_foldAt 15 = .ok (.aaload, 1) := by decide +kernel
theorem dX2_foldAt_16 : decode cX2_foldAt 16 = .ok (.getfield 68, 3) := by decide +kernel
theorem dX2_foldAt_19 : decode cX2_foldAt 19 = .ok (.ifCond .ne 13, 3) := by decide +kernel
theorem dX2_foldAt_22 : decode cX2_foldAt 22 = .ok (.new 132, 3) := by decide +kernel
theorem dX2_foldAt_25 : decode cX2_foldAt 25 = .ok (.dup, 1) := by decide +kernel
theorem dX2_foldAt_26 : decode cX2_foldAt 26 = .ok (.ldc 137, 2) := by decide +kernel
theorem dX2_foldAt_28 : decode cX2_foldAt 28 = .ok (.invokespecial 136, 3) := by decide +kernel
theorem dX2_foldAt_31 : decode cX2_foldAt 31 = .ok (.athrow, 1) := by decide +kernel
theorem dX2_foldAt_32 : decode cX2_foldAt 32 = .ok (.aload_n 0, 1) := by decide +kernel
theorem dX2_foldAt_33 : decode cX2_foldAt 33 = .ok (.getfield 11, 3) := by decide +kernel
theorem dX2_foldAt_36 : decode cX2_foldAt 36 = .ok (.iload_n 1, 1) := by decide +kernel
theorem dX2_foldAt_37 : decode cX2_foldAt 37 = .ok (.aaload, 1) := by decide +kernel
theorem dX2_foldAt_38 : decode cX2_foldAt 38 = .ok (.areturn, 1) := by decide +kernel
theorem dX2_freeNumber_0 : decode cX2_freeNumber 0 = .ok (.iconst 0, 1) := by decide +kernel
theorem dX2_freeNumber_1 : decode cX2_freeNumber 1 = .ok (.istore_n 1, 1) := by decide +kernel
theorem dX2_freeNumber_2 : decode cX2_freeNumber 2 = .ok (.iload_n 1, 1) := by decide +kernel
theorem dX2_freeNumber_3 : decode cX2_freeNumber 3 = .ok (.bipush 12, 2) := by decide +kernel
theorem dX2_freeNumber_5 : decode cX2_freeNumber 5 = .ok (.if_icmp .ge 23, 3) := by decide +kernel
theorem dX2_freeNumber_8 : decode cX2_freeNumber 8 = .ok (.aload_n 0, 1) := by decide +kernel
theorem dX2_freeNumber_9 : decode cX2_freeNumber 9 = .ok (.getfield 11, 3) := by decide +kernel
theorem dX2_freeNumber_12 : decode cX2_freeNumber 12 = .ok (.iload_n 1, 1) := by decide +kernel
theorem dX2_freeNumber_13 : decode cX2_freeNumber 13 = .ok (.aaload, 1) := by decide +kernel
theorem dX2_freeNumber_14 : decode cX2_freeNumber 14 = .ok (.getfield 68, 3) := by decide +kernel
theorem dX2_freeNumber_17 : decode cX2_freeNumber 17 = .ok (.ifCond .ne 5, 3) := by decide +kernel
theorem dX2_freeNumber_20 : decode cX2_freeNumber 20 = .ok (.iload_n 1, 1) := by decide +kernel
theorem dX2_freeNumber_21 : decode cX2_freeNumber 21 = .ok (.ireturn, 1) := by decide +kernel
theorem dX2_freeNumber_22 : decode cX2_freeNumber 22 = .ok (.iinc 1 1, 3) := by decide +kernel
theorem dX2_freeNumber_25 : decode cX2_freeNumber 25 = .ok (.goto (-23), 3) := by decide +kernel
theorem dX2_freeNumber_28 : decode cX2_freeNumber 28 = .ok (.new 139, 3) := by decide +kernel
theorem dX2_freeNumber_31 : decode cX2_freeNumber 31 = .ok (.dup, 1) := by decide +kernel
theorem dX2_freeNumber_32 : decode cX2_freeNumber 32 = .ok (.ldc 141, 2) := by decide +kernel
theorem dX2_freeNumber_34 : decode cX2_freeNumber 34 = .ok (.invokespecial 143, 3) := by decide +kernel
theorem dX2_freeNumber_37 : decode cX2_freeNumber 37 = .ok (.athrow, 1) := by decide +kernel
set_option maxRecDepth 20000 in
theorem ggX2_keep_X2_layAll : GoodIn wsX2_keep wsX2_layAll := goodIn_r _ [6, 7, 8, 1, 9, 10, 11, 12, 13, 14, 15, 16, 17, 18, 19, 20, 21, 22, 23, 24, 25, 26, 27, 28, 29, 30, 31, 32, 33, 34, 35, 36, 37, 38, 39, 40, 41, 42, 43, 44, 45, 46, 47, 48, 49, 50, 51, 52, 53, 54, 55, 56, 57, 58, 59, 60, 61, 62, 63, 64, 65, 66, 67, 68, 69, 70, 71, 72, 73, 74, 75, 76, 77, 78, 79, 80, 81, 82] (by decide +kernel) (by decide +kernel)
set_option maxRecDepth 20000 in
theorem gX2_keep_X2_layAll : GoodIn wsX2_keep (wsV RX2 72 RX2 yX2_layAll wsX2_layAll) := goodIn_app (goodIn_of _ (by decide +kernel)) ggX2_keep_X2_layAll
theorem dX2_keep_0 : decode cX2_keep 0 = .ok (.aload_n 0, 1) := by decide +kernel
theorem dX2_keep_1 : decode cX2_keep 1 = .ok (.getfield 11, 3) := by decide +kernel
theorem dX2_keep_4 : decode cX2_keep 4 = .ok (.iload_n 1, 1) := by decide +kernel
theorem dX2_keep_5 : decode cX2_keep 5 = .ok (.aaload, 1) := by decide +kernel
theorem dX2_keep_6 : decode cX2_keep 6 = .ok (.iconst 1, 1) := by decide +kernel
theorem dX2_keep_7 : decode cX2_keep 7 = .ok (.putfield 68, 3) := by decide +kernel
theorem dX2_keep_10 : decode cX2_keep 10 = .ok (.aload_n 0, 1) := by decide +kernel
theorem dX2_keep_11 : decode cX2_keep 11 = .ok (.invokevirtual 72, 3) := by decide +kernel
theorem dX2_keep_14 : decode cX2_keep 14 = .ok (.iload_n 1, 1) := by decide +kernel
theorem dX2_keep_15 : decode cX2_keep 15 = .ok (.ireturn, 1) := by decide +kernel
set_option maxRecDepth 20000 in
theorem ggX2_layAll_X1_startOver : GoodIn wsX2_layAll wsX1_startOver := goodIn_r _ [7, 8, 9, 10, 11, 12, 13, 14, 15, 16, 17, 18, 19, 20, 21, 22, 5, 23, 68, 69, 70, 71, 72, 73, 74, 75, 76, 77] (by decide +kernel) (by decide +kernel)
set_option maxRecDepth 20000 in
theorem gX2_layAll_X1_startOver_n113 : GoodIn wsX2_layAll (wsX1_startOver) := ggX2_layAll_X1_startOver
set_option maxRecDepth 20000 in
theorem ggX2_layAll_X1_lay : GoodIn wsX2_layAll wsX1_lay := goodIn_r _ [26, 27, 15, 10, 28, 29, 30, 5, 31, 9, 32, 33, 34, 35, 36, 37, 38, 8, 39, 68, 69, 70, 71, 72, 73, 74, 75, 76, 77] (by decide +kernel) (by decide +kernel)
set_option maxRecDepth 20000 in
theorem gX2_layAll_X1_lay_n117 : GoodIn wsX2_layAll (wsX1_lay) := ggX2_layAll_X1_lay
set_option maxRecDepth 20000 in
theorem ggX2_layAll_X1_putInRow : GoodIn wsX2_layAll wsX1_putInRow := goodIn_r _ [42, 43, 39, 33, 34, 16, 17, 18, 19, 44, 45, 5, 46, 8, 47, 48, 49, 50, 51, 52, 53, 54, 61, 62, 63, 64, 65, 66, 67, 68, 69, 70, 71, 72, 73, 74, 75, 76, 77] (by decide +kernel) (by decide +kernel)
set_option maxRecDepth 20000 in
theorem gX2_layAll_X1_putInRow_n144 : GoodIn wsX2_layAll (wsX1_putInRow) := ggX2_layAll_X1_putInRow
theorem dX2_layAll_0 : decode cX2_layAll 0 = .ok (.aload_n 0, 1) := by decide +kernel
theorem dX2_layAll_1 : decode cX2_layAll 1 = .ok (.getfield 22, 3) := by decide +kernel
theorem dX2_layAll_4 : decode cX2_layAll 4 = .ok (.aload_n 0, 1) := by decide +kernel
theorem dX2_layAll_5 : decode cX2_layAll 5 = .ok (.getfield 15, 3) := by decide +kernel
theorem dX2_layAll_8 : decode cX2_layAll 8 = .ok (.invokevirtual 113, 3) := by decide +kernel
theorem dX2_layAll_11 : decode cX2_layAll 11 = .ok (.iconst 0, 1) := by decide +kernel
theorem dX2_layAll_12 : decode cX2_layAll 12 = .ok (.istore_n 1, 1) := by decide +kernel
theorem dX2_layAll_13 : decode cX2_layAll 13 = .ok (.iload_n 1, 1) := by decide +kernel
theorem dX2_layAll_14 : decode cX2_layAll 14 = .ok (.bipush 12, 2) := by decide +kernel
theorem dX2_layAll_16 : decode cX2_layAll 16 = .ok (.if_icmp .ge 42, 3) := by decide +kernel
theorem dX2_layAll_19 : decode cX2_layAll 19 = .ok (.aload_n 0, 1) := by decide +kernel
theorem dX2_layAll_20 : decode cX2_layAll 20 = .ok (.getfield 11, 3) := by decide +kernel
theorem dX2_layAll_23 : decode cX2_layAll 23 = .ok (.iload_n 1, 1) := by decide +kernel
theorem dX2_layAll_24 : decode cX2_layAll 24 = .ok (.aaload, 1) := by decide +kernel
theorem dX2_layAll_25 : decode cX2_layAll 25 = .ok (.astore_n 2, 1) := by decide +kernel
theorem dX2_layAll_26 : decode cX2_layAll 26 = .ok (.aload_n 2, 1) := by decide +kernel
theorem dX2_layAll_27 : decode cX2_layAll 27 = .ok (.getfield 68, 3) := by decide +kernel
theorem dX2_layAll_30 : decode cX2_layAll 30 = .ok (.ifCond .eq 22, 3) := by decide +kernel
theorem dX2_layAll_33 : decode cX2_layAll 33 = .ok (.aload_n 0, 1) := by decide +kernel
theorem dX2_layAll_34 : decode cX2_layAll 34 = .ok (.getfield 22, 3) := by decide +kernel
theorem dX2_layAll_37 : decode cX2_layAll 37 = .ok (.aload_n 2, 1) := by decide +kernel
theorem dX2_layAll_38 : decode cX2_layAll 38 = .ok (.aload_n 0, 1) := by decide +kernel
theorem dX2_layAll_39 : decode cX2_layAll 39 = .ok (.getfield 22, 3) := by decide +kernel
theorem dX2_layAll_42 : decode cX2_layAll 42 = .ok (.aload_n 2, 1) := by decide +kernel
theorem dX2_layAll_43 : decode cX2_layAll 43 = .ok (.getfield 41, 3) := by decide +kernel
theorem dX2_layAll_46 : decode cX2_layAll 46 = .ok (.invokevirtual 117, 3) := by decide +kernel
theorem dX2_layAll_49 : decode cX2_layAll 49 = .ok (.invokevirtual 144, 3) := by decide +kernel
theorem dX2_layAll_52 : decode cX2_layAll 52 = .ok (.iinc 1 1, 3) := by decide +kernel
theorem dX2_layAll_55 : decode cX2_layAll 55 = .ok (.goto (-42), 3) := by decide +kernel
theorem dX2_layAll_58 : decode cX2_layAll 58 = .ok (.return_, 1) := by decide +kernel
set_option maxRecDepth 20000 in
theorem ggX2_countForksAfterSwap_X2_exchange : GoodIn wsX2_countForksAfterSwap wsX2_exchange := goodIn_r _ [12] (by decide +kernel) (by decide +kernel)
set_option maxRecDepth 20000 in
theorem gX2_countForksAfterSwap_X2_exchange : GoodIn wsX2_countForksAfterSwap (va_wsS RX2 78 yX2_exchange wsX2_exchange) := goodIn_app (goodIn_of _ (by decide +kernel)) ggX2_countForksAfterSwap_X2_exchange
set_option maxRecDepth 20000 in
theorem ggX2_countForksAfterSwap_X1_startOver : GoodIn wsX2_countForksAfterSwap wsX1_startOver := goodIn_r _ [16, 17, 18, 19, 20, 4, 5, 6, 21, 22, 23, 24, 25, 26, 27, 28, 14, 29, 59, 60, 61, 62, 63, 64, 65, 66, 67, 68] (by decide +kernel) (by decide +kernel)
set_option maxRecDepth 20000 in
theorem gX2_countForksAfterSwap_X1_startOver_n113 : GoodIn wsX2_countForksAfterSwap (wsX1_startOver) := ggX2_countForksAfterSwap_X1_startOver
set_option maxRecDepth 20000 in
theorem ggX2_countForksAfterSwap_X1_lay : GoodIn wsX2_countForksAfterSwap wsX1_lay := goodIn_r _ [32, 33, 21, 19, 34, 35, 36, 14, 37, 18, 38, 39, 40, 41, 42, 43, 44, 17, 45, 59, 60, 61, 62, 63, 64, 65, 66, 67, 68] (by decide +kernel) (by decide +kernel)
set_option maxRecDepth 20000 in
theorem gX2_countForksAfterSwap_X1_lay_n117 : GoodIn wsX2_countForksAfterSwap (wsX1_lay) := ggX2_countForksAfterSwap_X1_lay
theorem dX2_countForksAfterSwap_0 : decode cX2_countForksAfterSwap 0 = .ok (.aload_n 0, 1) := by decide +kernel
theorem dX2_countForksAfterSwap_1 : decode cX2_countForksAfterSwap 1 = .ok (.getfield 15, 3) := by decide +kernel
theorem dX2_countForksAfterSwap_4 : decode cX2_countForksAfterSwap 4 = .ok (.iconst 0, 1) := by decide +kernel
theorem dX2_countForksAfterSwap_5 : decode cX2_countForksAfterSwap 5 = .ok (.aload_n 0, 1) := by decide +kernel
theorem dX2_countForksAfterSwap_6 : decode cX2_countForksAfterSwap 6 = .ok (.getfield 30, 3) := by decide +kernel
theorem dX2_countForksAfterSwap_9 : decode cX2_countForksAfterSwap 9 = .ok (.iconst 0, 1) := by decide +kernel
theorem dX2_countForksAfterSwap_10 : decode cX2_countForksAfterSwap 10 = .ok (.bipush 8, 2) := by decide +kernel
theorem dX2_countForksAfterSwap_12 : decode cX2_countForksAfterSwap 12 = .ok (.invokestatic 148, 3) := by decide +kernel
theorem dX2_countForksAfterSwap_15 : decode cX2_countForksAfterSwap 15 = .ok (.aload_n 0, 1) := by decide +kernel
theorem dX2_countForksAfterSwap_16 : decode cX2_countForksAfterSwap 16 = .ok (.getfield 30, 3) := by decide +kernel
theorem dX2_countForksAfterSwap_19 : decode cX2_countForksAfterSwap 19 = .ok (.iload_n 1, 1) := by decide +kernel
theorem dX2_countForksAfterSwap_20 : decode cX2_countForksAfterSwap 20 = .ok (.invokestatic 78, 3) := by decide +kernel
theorem dX2_countForksAfterSwap_23 : decode cX2_countForksAfterSwap 23 = .ok (.aload_n 0, 1) := by decide +kernel
theorem dX2_countForksAfterSwap_24 : decode cX2_countForksAfterSwap 24 = .ok (.getfield 33, 3) := by decide +kernel
theorem dX2_countForksAfterSwap_27 : decode cX2_countForksAfterSwap 27 = .ok (.aload_n 0, 1) := by decide +kernel
theorem dX2_countForksAfterSwap_28 : decode cX2_countForksAfterSwap 28 = .ok (.getfield 30, 3) := by decide +kernel
theorem dX2_countForksAfterSwap_31 : decode cX2_countForksAfterSwap 31 = .ok (.invokevirtual 113, 3) := by decide +kernel
theorem dX2_countForksAfterSwap_34 : decode cX2_countForksAfterSwap 34 = .ok (.iconst 0, 1) := by decide +kernel
theorem dX2_countForksAfterSwap_35 : decode cX2_countForksAfterSwap 35 = .ok (.istore_n 2, 1) := by decide +kernel
theorem dX2_countForksAfterSwap_36 : decode cX2_countForksAfterSwap 36 = .ok (.iload_n 2, 1) := by decide +kernel
theorem dX2_countForksAfterSwap_37 : decode cX2_countForksAfterSwap 37 = .ok (.bipush 12, 2) := by decide +kernel
theorem dX2_countForksAfterSwap_39 : decode cX2_countForksAfterSwap 39 = .ok (.if_icmp .ge 38, 3) := by decide +kernel
theorem dX2_countForksAfterSwap_42 : decode cX2_countForksAfterSwap 42 = .ok (.aload_n 0, 1) := by decide +kernel
theorem dX2_countForksAfterSwap_43 : decode cX2_countForksAfterSwap 43 = .ok (.getfield 11, 3) := by decide +kernel
theorem dX2_countForksAfterSwap_46 : decode cX2_countForksAfterSwap 46 = .ok (.iload_n 2, 1) := by decide +kernel
theorem dX2_countForksAfterSwap_47 : decode cX2_countForksAfterSwap 47 = .ok (.aaload, 1) := by decide +kernel
theorem dX2_countForksAfterSwap_48 : decode cX2_countForksAfterSwap 48 = .ok (.getfield 68, 3) := by decide +kernel
theorem dX2_countForksAfterSwap_51 : decode cX2_countForksAfterSwap 51 = .ok (.ifCond .eq 20, 3) := by decide +kernel
theorem dX2_countForksAfterSwap_54 : decode cX2_countForksAfterSwap 54 = .ok (.aload_n 0, 1) := by decide +kernel
theorem dX2_countForksAfterSwap_55 : decode cX2_countForksAfterSwap 55 = .ok (.getfield 33, 3) := by decide +kernel
theorem dX2_countForksAfterSwap_58 : decode cX2_countForksAfterSwap 58 = .ok (.aload_n 0, 1) := by decide +kernel
theorem dX2_countForksAfterSwap_59 : decode cX2_countForksAfterSwap 59 = .ok (.getfield 11, 3) := by decide +kernel
theorem dX2_countForksAfterSwap_62 : decode cX2_countForksAfterSwap 62 = .ok (.iload_n 2, 1) := by decide +kernel
theorem dX2_countForksAfterSwap_63 : decode cX2_countForksAfterSwap 63 = .ok (.aaload, 1) := by decide +kernel
theorem dX2_countForksAfterSwap_64 : decode cX2_countForksAfterSwap 64 = .ok (.getfield 41, 3) := by decide +kernel
theorem dX2_countForksAfterSwap_67 : decode cX2_countForksAfterSwap 67 = .ok (.invokevirtual 117, 3) := by decide +kernel
theorem dX2_countForksAfterSwap_70 : decode cX2_countForksAfterSwap 70 = .ok (.pop, 1) := by decide +kernel
theorem dX2_countForksAfterSwap_71 : decode cX2_countForksAfterSwap 71 = .ok (.iinc 2 1, 3) := by decide +kernel
theorem dX2_countForksAfterSwap_74 : decode cX2_countForksAfterSwap 74 = .ok (.goto (-38), 3) := by decide +kernel
theorem dX2_countForksAfterSwap_77 : decode cX2_countForksAfterSwap 77 = .ok (.aload_n 0, 1) := by decide +kernel
theorem dX2_countForksAfterSwap_78 : decode cX2_countForksAfterSwap 78 = .ok (.getfield 33, 3) := by decide +kernel
theorem dX2_countForksAfterSwap_81 : decode cX2_countForksAfterSwap 81 = .ok (.getfield 82, 3) := by decide +kernel
theorem dX2_countForksAfterSwap_84 : decode cX2_countForksAfterSwap 84 = .ok (.ireturn, 1) := by decide +kernel
theorem dX2_exchange_0 : decode cX2_exchange 0 = .ok (.aload_n 0, 1) := by decide +kernel
theorem dX2_exchange_1 : decode cX2_exchange 1 = .ok (.iload_n 1, 1) := by decide +kernel
theorem dX2_exchange_2 : decode cX2_exchange 2 = .ok (.iaload, 1) := by decide +kernel
theorem dX2_exchange_3 : decode cX2_exchange 3 = .ok (.istore_n 2, 1) := by decide +kernel
theorem dX2_exchange_4 : decode cX2_exchange 4 = .ok (.aload_n 0, 1) := by decide +kernel
theorem dX2_exchange_5 : decode cX2_exchange 5 = .ok (.iload_n 1, 1) := by decide +kernel
theorem dX2_exchange_6 : decode cX2_exchange 6 = .ok (.aload_n 0, 1) := by decide +kernel
theorem dX2_exchange_7 : decode cX2_exchange 7 = .ok (.iload_n 1, 1) := by decide +kernel
theorem dX2_exchange_8 : decode cX2_exchange 8 = .ok (.iconst 1, 1) := by decide +kernel
theorem dX2_exchange_9 : decode cX2_exchange 9 = .ok (.iadd, 1) := by decide +kernel
theorem dX2_exchange_10 : decode cX2_exchange 10 = .ok (.iaload, 1) := by decide +kernel
theorem dX2_exchange_11 : decode cX2_exchange 11 = .ok (.iastore, 1) := by decide +kernel
theorem dX2_exchange_12 : decode cX2_exchange 12 = .ok (.aload_n 0, 1) := by decide +kernel
theorem dX2_exchange_13 : decode cX2_exchange 13 = .ok (.iload_n 1, 1) := by decide +kernel
theorem dX2_exchange_14 : decode cX2_exchange 14 = .ok (.iconst 1, 1) := by decide +kernel
theorem dX2_exchange_15 : decode cX2_exchange 15 = .ok (.iadd, 1) := by decide +kernel
theorem dX2_exchange_16 : decode cX2_exchange 16 = .ok (.iload_n 2, 1) := by decide +kernel
theorem dX2_exchange_17 : decode cX2_exchange 17 = .ok (.iastore, 1) := by decide +kernel
theorem dX2_exchange_18 : decode cX2_exchange 18 = .ok (.return_, 1) := by decide +kernel
theorem dX2_isYes_0 : decode cX2_isYes 0 = .ok (.iload_n 0, 1) := by decide +kernel
theorem dX2_isYes_1 : decode cX2_isYes 1 = .ok (.iload_n 1, 1) := by decide +kernel
theorem dX2_isYes_2 : decode cX2_isYes 2 = .ok (.ishr, 1) := by decide +kernel
theorem dX2_isYes_3 : decode cX2_isYes 3 = .ok (.iconst 1, 1) := by decide +kernel
theorem dX2_isYes_4 : decode cX2_isYes 4 = .ok (.iand, 1) := by decide +kernel
theorem dX2_isYes_5 : decode cX2_isYes 5 = .ok (.iconst 1, 1) := by decide +kernel
theorem dX2_isYes_6 : decode cX2_isYes 6 = .ok (.if_icmp .ne 7, 3) := by decide +kernel
theorem dX2_isYes_9 : decode cX2_isYes 9 = .ok (.iconst 1, 1) := by decide +kernel
theorem dX2_isYes_10 : decode cX2_isYes 10 = .ok (.goto 4, 3) := by decide +kernel
theorem dX2_isYes_13 : decode cX2_isYes 13 = .ok (.iconst 0, 1) := by decide +kernel
theorem dX2_isYes_14 : decode cX2_isYes 14 = .ok (.ireturn, 1) := by decide +kernel
theorem dX2_withAnswer_0 : decode cX2_withAnswer 0 = .ok (.iconst 1, 1) := by decide +kernel
theorem dX2_withAnswer_1 : decode cX2_withAnswer 1 = .ok (.iload_n 1, 1) := by decide +kernel
theorem dX2_withAnswer_2 : decode cX2_withAnswer 2 = .ok (.ishl, 1) := by decide +kernel
theorem dX2_withAnswer_3 : decode cX2_withAnswer 3 = .ok (.istore_n 3, 1) := by decide +kernel
theorem dX2_withAnswer_4 : decode cX2_withAnswer 4 = .ok (.iload_n 2, 1) := by decide +kernel
theorem dX2_withAnswer_5 : decode cX2_withAnswer 5 = .ok (.ifCond .eq 9, 3) := by decide +kernel
theorem dX2_withAnswer_8 : decode cX2_withAnswer 8 = .ok (.iload_n 0, 1) := by decide +kernel
theorem dX2_withAnswer_9 : decode cX2_withAnswer 9 = .ok (.iload_n 3, 1) := by decide +kernel
theorem dX2_withAnswer_10 : decode cX2_withAnswer 10 = .ok (.ior, 1) := by decide +kernel
theorem dX2_withAnswer_11 : decode cX2_withAnswer 11 = .ok (.goto 8, 3) := by decide +kernel
theorem dX2_withAnswer_14 : decode cX2_withAnswer 14 = .ok (.iload_n 0, 1) := by decide +kernel
theorem dX2_withAnswer_15 : decode cX2_withAnswer 15 = .ok (.iload_n 3, 1) := by decide +kernel
theorem dX2_withAnswer_16 : decode cX2_withAnswer 16 = .ok (.iconst (-1), 1) := by decide +kernel
theorem dX2_withAnswer_17 : decode cX2_withAnswer 17 = .ok (.ixor, 1) := by decide +kernel
theorem dX2_withAnswer_18 : decode cX2_withAnswer 18 = .ok (.iand, 1) := by decide +kernel
theorem dX2_withAnswer_19 : decode cX2_withAnswer 19 = .ok (.ireturn, 1) := by decide +kernel
set_option maxRecDepth 20000 in
theorem ggX2_sayJoined_X2_joined : GoodIn wsX2_sayJoined wsX2_joined := goodIn_r _ [4] (by decide +kernel) (by decide +kernel)
set_option maxRecDepth 20000 in
theorem gX2_sayJoined_X2_joined : GoodIn wsX2_sayJoined (va_wsS RX2 154 yX2_joined wsX2_joined) := goodIn_app (goodIn_of _ (by decide +kernel)) ggX2_sayJoined_X2_joined
theorem dX2_sayJoined_0 : decode cX2_sayJoined 0 = .ok (.iconst 0, 1) := by decide +kernel
theorem dX2_sayJoined_1 : decode cX2_sayJoined 1 = .ok (.istore 4, 2) := by decide +kernel
theorem dX2_sayJoined_3 : decode cX2_sayJoined 3 = .ok (.iload 4, 2) := by decide +kernel
theorem dX2_sayJoined_5 : decode cX2_sayJoined 5 = .ok (.sipush 256, 3) := by decide +kernel
theorem dX2_sayJoined_8 : decode cX2_sayJoined 8 = .ok (.if_icmp .ge 31, 3) := by decide +kernel
theorem dX2_sayJoined_11 : decode cX2_sayJoined 11 = .ok (.aload_n 3, 1) := by decide +kernel
theorem dX2_sayJoined_12 : decode cX2_sayJoined 12 = .ok (.iload 4, 2) := by decide +kernel
theorem dX2_sayJoined_14 : decode cX2_sayJoined 14 = .ok (.aload_n 0, 1) := by decide +kernel
theorem dX2_sayJoined_15 : decode cX2_sayJoined 15 = .ok (.getfield 41, 3) := by decide +kernel
theorem dX2_sayJoined_18 : decode cX2_sayJoined 18 = .ok (.iload 4, 2) := by decide +kernel
theorem dX2_sayJoined_20 : decode cX2_sayJoined 20 = .ok (.baload, 1) := by decide +kernel
theorem dX2_sayJoined_21 : decode cX2_sayJoined 21 = .ok (.aload_n 1, 1) := by decide +kernel
theorem dX2_sayJoined_22 : decode cX2_sayJoined 22 = .ok (.getfield 41, 3) := by decide +kernel
theorem dX2_sayJoined_25 : decode cX2_sayJoined 25 = .ok (.iload 4, 2) := by decide +kernel
theorem dX2_sayJoined_27 : decode cX2_sayJoined 27 = .ok (.baload, 1) := by decide +kernel
theorem dX2_sayJoined_28 : decode cX2_sayJoined 28 = .ok (.iload_n 2, 1) := by decide +kernel
theorem dX2_sayJoined_29 : decode cX2_sayJoined 29 = .ok (.invokestatic 154, 3) := by decide +kernel
theorem dX2_sayJoined_32 : decode cX2_sayJoined 32 = .ok (.bastore, 1) := by decide +kernel
theorem dX2_sayJoined_33 : decode cX2_sayJoined 33 = .ok (.iinc 4 1, 3) := by decide +kernel
theorem dX2_sayJoined_36 : decode cX2_sayJoined 36 = .ok (.goto (-33), 3) := by decide +kernel
theorem dX2_sayJoined_39 : decode cX2_sayJoined 39 = .ok (.return_, 1) := by decide +kernel
theorem dX2_joined_0 : decode cX2_joined 0 = .ok (.iload_n 2, 1) := by decide +kernel
theorem dX2_joined_1 : decode cX2_joined 1 = .ok (.tableswitch 102 0 4 #[35, 49, 63, 74, 88], 35) := by decide +kernel
theorem dX2_joined_36 : decode cX2_joined 36 = .ok (.iload_n 0, 1) := by decide +kernel
theorem dX2_joined_37 : decode cX2_joined 37 = .ok (.ifCond .eq 11, 3) := by decide +kernel
theorem dX2_joined_40 : decode cX2_joined 40 = .ok (.iload_n 1, 1) := by decide +kernel
theorem dX2_joined_41 : decode cX2_joined 41 = .ok (.ifCond .eq 7, 3) := by decide +kernel
theorem dX2_joined_44 : decode cX2_joined 44 = .ok (.iconst 1, 1) := by decide +kernel
theorem dX2_joined_45 : decode cX2_joined 45 = .ok (.goto 4, 3) := by decide +kernel
theorem dX2_joined_48 : decode cX2_joined 48 = .ok (.iconst 0, 1) := by decide +kernel
theorem dX2_joined_49 : decode cX2_joined 49 = .ok (.ireturn, 1) := by decide +kernel
theorem dX2_joined_50 : decode cX2_joined 50 = .ok (.iload_n 0, 1) := by decide +kernel
theorem dX2_joined_51 : decode cX2_joined 51 = .ok (.ifCond .ne 7, 3) := by decide +kernel
theorem dX2_joined_54 : decode cX2_joined 54 = .ok (.iload_n 1, 1) := by decide +kernel
theorem dX2_joined_55 : decode cX2_joined 55 = .ok (.ifCond .eq 7, 3) := by decide +kernel
theorem dX2_joined_58 : decode cX2_joined 58 = .ok (.iconst 1, 1) := by decide +kernel
theorem dX2_joined_59 : decode cX2_joined 59 = .ok (.goto 4, 3) := by decide +kernel
theorem dX2_joined_62 : decode cX2_joined 62 = .ok (.iconst 0, 1) := by decide +kernel
theorem dX2_joined_63 : decode cX2_joined 63 = .ok (.ireturn, 1) := by decide +kernel
theorem dX2_joined_64 : decode cX2_joined 64 = .ok (.iload_n 0, 1) := by decide +kernel
theorem dX2_joined_65 : decode cX2_joined 65 = .ok (.iload_n 1, 1) := by decide +kernel
theorem dX2_joined_66 : decode cX2_joined 66 = .ok (.if_icmp .eq 7, 3) := by decide +kernel
theorem dX2_joined_69 : decode cX2_joined 69 = .ok (.iconst 1, 1) := by decide +kernel
theorem dX2_joined_70 : decode cX2_joined 70 = .ok (.goto 4, 3) := by decide +kernel
theorem dX2_joined_73 : decode cX2_joined 73 = .ok (.iconst 0, 1) := by decide +kernel
theorem dX2_joined_74 : decode cX2_joined 74 = .ok (.ireturn, 1) := by decide +kernel
theorem dX2_joined_75 : decode cX2_joined 75 = .ok (.iload_n 0, 1) := by decide +kernel
theorem dX2_joined_76 : decode cX2_joined 76 = .ok (.ifCond .eq 7, 3) := by decide +kernel
theorem dX2_joined_79 : decode cX2_joined 79 = .ok (.iload_n 1, 1) := by decide +kernel
theorem dX2_joined_80 : decode cX2_joined 80 = .ok (.ifCond .ne 7, 3) := by decide +kernel
theorem dX2_joined_83 : decode cX2_joined 83 = .ok (.iconst 1, 1) := by decide +kernel
theorem dX2_joined_84 : decode cX2_joined 84 = .ok (.goto 4, 3) := by decide +kernel
theorem dX2_joined_87 : decode cX2_joined 87 = .ok (.iconst 0, 1) := by decide +kernel
theorem dX2_joined_88 : decode cX2_joined 88 = .ok (.ireturn, 1) := by decide +kernel
theorem dX2_joined_89 : decode cX2_joined 89 = .ok (.iload_n 0, 1) := by decide +kernel
theorem dX2_joined_90 : decode cX2_joined 90 = .ok (.ifCond .ne 11, 3) := by decide +kernel
theorem dX2_joined_93 : decode cX2_joined 93 = .ok (.iload_n 1, 1) := by decide +kernel
theorem dX2_joined_94 : decode cX2_joined 94 = .ok (.ifCond .ne 7, 3) := by decide +kernel
theorem dX2_joined_97 : decode cX2_joined 97 = .ok (.iconst 1, 1) := by decide +kernel
theorem dX2_joined_98 : decode cX2_joined 98 = .ok (.goto 4, 3) := by decide +kernel
theorem dX2_joined_101 : decode cX2_joined 101 = .ok (.iconst 0, 1) := by decide +kernel
theorem dX2_joined_102 : decode cX2_joined 102 = .ok (.ireturn, 1) := by decide +kernel
theorem dX2_joined_103 : decode cX2_joined 103 = .ok (.iload_n 0, 1) := by decide +kernel
theorem dX2_joined_104 : decode cX2_joined 104 = .ok (.iload_n 1, 1) := by decide +kernel
theorem dX2_joined_105 : decode cX2_joined 105 = .ok (.if_icmp .ne 7, 3) := by decide +kernel
theorem dX2_joined_108 : decode cX2_joined 108 = .ok (.iconst 1, 1) := by decide +kernel
theorem dX2_joined_109 : decode cX2_joined 109 = .ok (.goto 4, 3) := by decide +kernel
theorem dX2_joined_112 : decode cX2_joined 112 = .ok (.iconst 0, 1) := by decide +kernel
theorem dX2_joined_113 : decode cX2_joined 113 = .ok (.ireturn, 1) := by decide +kernel
theorem dX2_tellFork_0 : decode cX2_tellFork 0 = .ok (.aload_n 1, 1) := by decide +kernel
theorem dX2_tellFork_1 : decode cX2_tellFork 1 = .ok (.getfield 158, 3) := by decide +kernel
theorem dX2_tellFork_4 : decode cX2_tellFork 4 = .ok (.iload_n 2, 1) := by decide +kernel
theorem dX2_tellFork_5 : decode cX2_tellFork 5 = .ok (.iaload, 1) := by decide +kernel
theorem dX2_tellFork_6 : decode cX2_tellFork 6 = .ok (.istore 4, 2) := by decide +kernel
theorem dX2_tellFork_8 : decode cX2_tellFork 8 = .ok (.iload_n 3, 1) := by decide +kernel
theorem dX2_tellFork_9 : decode cX2_tellFork 9 = .ok (.tableswitch 63 0 3 #[31, 42, 49, 56], 31) := by decide +kernel
theorem dX2_tellFork_40 : decode cX2_tellFork 40 = .ok (.aload_n 0, 1) := by decide +kernel
theorem dX2_tellFork_41 : decode cX2_tellFork 41 = .ok (.getfield 22, 3) := by decide +kernel
theorem dX2_tellFork_44 : decode cX2_tellFork 44 = .ok (.getfield 161, 3) := by decide +kernel
theorem dX2_tellFork_47 : decode cX2_tellFork 47 = .ok (.iload 4, 2) := by decide +kernel
theorem dX2_tellFork_49 : decode cX2_tellFork 49 = .ok (.iaload, 1) := by decide +kernel
theorem dX2_tellFork_50 : decode cX2_tellFork 50 = .ok (.ireturn, 1) := by decide +kernel
theorem dX2_tellFork_51 : decode cX2_tellFork 51 = .ok (.aload_n 1, 1) := by decide +kernel
theorem dX2_tellFork_52 : decode cX2_tellFork 52 = .ok (.getfield 164, 3) := by decide +kernel
theorem dX2_tellFork_55 : decode cX2_tellFork 55 = .ok (.iload_n 2, 1) := by decide +kernel
theorem dX2_tellFork_56 : decode cX2_tellFork 56 = .ok (.iaload, 1) := by decide +kernel
theorem dX2_tellFork_57 : decode cX2_tellFork 57 = .ok (.ireturn, 1) := by decide +kernel
theorem dX2_tellFork_58 : decode cX2_tellFork 58 = .ok (.aload_n 1, 1) := by decide +kernel
theorem dX2_tellFork_59 : decode cX2_tellFork 59 = .ok (.getfield 167, 3) := by decide +kernel
theorem dX2_tellFork_62 : decode cX2_tellFork 62 = .ok (.iload_n 2, 1) := by decide +kernel
theorem dX2_tellFork_63 : decode cX2_tellFork 63 = .ok (.iaload, 1) := by decide +kernel
theorem dX2_tellFork_64 : decode cX2_tellFork 64 = .ok (.ireturn, 1) := by decide +kernel
theorem dX2_tellFork_65 : decode cX2_tellFork 65 = .ok (.aload_n 1, 1) := by decide +kernel
theorem dX2_tellFork_66 : decode cX2_tellFork 66 = .ok (.getfield 170, 3) := by decide +kernel
theorem dX2_tellFork_69 : decode cX2_tellFork 69 = .ok (.iload_n 2, 1) := by decide +kernel
theorem dX2_tellFork_70 : decode cX2_tellFork 70 = .ok (.iaload, 1) := by decide +kernel
theorem dX2_tellFork_71 : decode cX2_tellFork 71 = .ok (.ireturn, 1) := by decide +kernel
theorem dX2_tellFork_72 : decode cX2_tellFork 72 = .ok (.aload_n 0, 1) := by decide +kernel
theorem dX2_tellFork_73 : decode cX2_tellFork 73 = .ok (.getfield 22, 3) := by decide +kernel
theorem dX2_tellFork_76 : decode cX2_tellFork 76 = .ok (.getfield 173, 3) := by decide +kernel
theorem dX2_tellFork_79 : decode cX2_tellFork 79 = .ok (.iload 4, 2) := by decide +kernel
theorem dX2_tellFork_81 : decode cX2_tellFork 81 = .ok (.iaload, 1) := by decide +kernel
theorem dX2_tellFork_82 : decode cX2_tellFork 82 = .ok (.ireturn, 1) := by decide +kernel
set_option maxRecDepth 20000 in
theorem ggX2_tellFold_X2_countYes : GoodIn wsX2_tellFold wsX2_countYes := goodIn_r _ [4, 42, 43, 44, 45, 46, 47, 48] (by decide +kernel) (by decide +kernel)
set_option maxRecDepth 20000 in
theorem gX2_tellFold_X2_countYes : GoodIn wsX2_tellFold (va_wsS RX2 176 yX2_countYes wsX2_countYes) := goodIn_app (goodIn_of _ (by decide +kernel)) ggX2_tellFold_X2_countYes
set_option maxRecDepth 20000 in
theorem ggX2_tellFold_X2_questionsThatMatter : GoodIn wsX2_tellFold wsX2_questionsThatMatter := goodIn_r _ [8, 9, 42, 43, 44, 45, 46, 47, 48, 49, 50, 51, 52, 53, 54, 55, 56, 57, 58, 59, 60, 61, 62, 63, 64] (by decide +kernel) (by decide +kernel)
set_option maxRecDepth 20000 in
theorem gX2_tellFold_X2_questionsThatMatter : GoodIn wsX2_tellFold (wsV RX2 180 RX2 yX2_questionsThatMatter wsX2_questionsThatMatter) := goodIn_app (goodIn_of _ (by decide +kernel)) ggX2_tellFold_X2_questionsThatMatter
set_option maxRecDepth 20000 in
theorem ggX2_tellFold_X2_leastAsked : GoodIn wsX2_tellFold wsX2_leastAsked := goodIn_r _ [13, 14, 15, 16, 17, 18, 19, 20, 3, 21, 9, 22, 23, 24, 42, 43, 44, 45, 46, 47, 48, 49, 50, 51, 52, 53, 54, 55, 56, 57, 58, 59, 60, 61, 62, 63, 64] (by decide +kernel) (by decide +kernel)
set_option maxRecDepth 20000 in
theorem gX2_tellFold_X2_leastAsked : GoodIn wsX2_tellFold (wsV RX2 183 RX2 yX2_leastAsked wsX2_leastAsked) := goodIn_app (goodIn_of _ (by decide +kernel)) ggX2_tellFold_X2_leastAsked
set_option maxRecDepth 20000 in
theorem ggX2_tellFold_X2_mostAsked : GoodIn wsX2_tellFold wsX2_mostAsked := goodIn_r _ [28, 29, 30, 16, 31, 18, 19, 20, 3, 21, 9, 22, 23, 24, 42, 43, 44, 45, 46, 47, 48, 49, 50, 51, 52, 53, 54, 55, 56, 57, 58, 59, 60, 61, 62, 63, 64] (by decide +kernel) (by decide +kernel)
set_option maxRecDepth 20000 in
theorem gX2_tellFold_X2_mostAsked : GoodIn wsX2_tellFold (wsV RX2 186 RX2 yX2_mostAsked wsX2_mostAsked) := goodIn_app (goodIn_of _ (by decide +kernel)) ggX2_tellFold_X2_mostAsked
set_option maxRecDepth 20000 in
theorem ggX2_tellFold_X2_smallestYes : GoodIn wsX2_tellFold wsX2_smallestYes := goodIn_r _ [34, 42, 43, 44, 45, 46, 47, 48] (by decide +kernel) (by decide +kernel)
set_option maxRecDepth 20000 in
theorem gX2_tellFold_X2_smallestYes : GoodIn wsX2_tellFold (va_wsS RX2 189 yX2_smallestYes wsX2_smallestYes) := goodIn_app (goodIn_of _ (by decide +kernel)) ggX2_tellFold_X2_smallestYes
set_option maxRecDepth 20000 in
theorem ggX2_tellFold_X2_greatestYes : GoodIn wsX2_tellFold wsX2_greatestYes := goodIn_r _ [37, 42, 43, 44, 45, 46, 47, 48] (by decide +kernel) (by decide +kernel)
set_option maxRecDepth 20000 in
theorem gX2_tellFold_X2_greatestYes : GoodIn wsX2_tellFold (va_wsS RX2 192 yX2_greatestYes wsX2_greatestYes) := goodIn_app (goodIn_of _ (by decide +kernel)) ggX2_tellFold_X2_greatestYes
set_option maxRecDepth 20000 in
theorem ggX2_tellFold_X2_countOwnForks : GoodIn wsX2_tellFold wsX2_countOwnForks := goodIn_r _ [41, 9, 42, 43, 44, 45, 46, 47, 48, 49, 50, 51, 52, 53, 54, 55, 56, 57, 58, 59, 60, 61, 62, 63, 64] (by decide +kernel) (by decide +kernel)
set_option maxRecDepth 20000 in
theorem gX2_tellFold_X2_countOwnForks : GoodIn wsX2_tellFold (wsV RX2 195 RX2 yX2_countOwnForks wsX2_countOwnForks) := goodIn_app (goodIn_of _ (by decide +kernel)) ggX2_tellFold_X2_countOwnForks
theorem dX2_tellFold_0 : decode cX2_tellFold 0 = .ok (.iload_n 2, 1) := by decide +kernel
theorem dX2_tellFold_1 : decode cX2_tellFold 1 = .ok (.tableswitch 81 0 6 #[43, 48, 53, 59, 65, 71, 76], 43) := by decide +kernel
theorem dX2_tellFold_44 : decode cX2_tellFold 44 = .ok (.aload_n 1, 1) := by decide +kernel
theorem dX2_tellFold_45 : decode cX2_tellFold 45 = .ok (.getfield 93, 3) := by decide +kernel
theorem dX2_tellFold_48 : decode cX2_tellFold 48 = .ok (.ireturn, 1) := by decide +kernel
theorem dX2_tellFold_49 : decode cX2_tellFold 49 = .ok (.aload_n 1, 1) := by decide +kernel
theorem dX2_tellFold_50 : decode cX2_tellFold 50 = .ok (.invokestatic 176, 3) := by decide +kernel
theorem dX2_tellFold_53 : decode cX2_tellFold 53 = .ok (.ireturn, 1) := by decide +kernel
theorem dX2_tellFold_54 : decode cX2_tellFold 54 = .ok (.aload_n 0, 1) := by decide +kernel
theorem dX2_tellFold_55 : decode cX2_tellFold 55 = .ok (.aload_n 1, 1) := by decide +kernel
theorem dX2_tellFold_56 : decode cX2_tellFold 56 = .ok (.invokevirtual 180, 3) := by decide +kernel
theorem dX2_tellFold_59 : decode cX2_tellFold 59 = .ok (.ireturn, 1) := by decide +kernel
theorem dX2_tellFold_60 : decode cX2_tellFold 60 = .ok (.aload_n 0, 1) := by decide +kernel
theorem dX2_tellFold_61 : decode cX2_tellFold 61 = .ok (.aload_n 1, 1) := by decide +kernel
theorem dX2_tellFold_62 : decode cX2_tellFold 62 = .ok (.invokevirtual 183, 3) := by decide +kernel
theorem dX2_tellFold_65 : decode cX2_tellFold 65 = .ok (.ireturn, 1) := by decide +kernel
theorem dX2_tellFold_66 : decode cX2_tellFold 66 = .ok (.aload_n 0, 1) := by decide +kernel
theorem dX2_tellFold_67 : decode cX2_tellFold 67 = .ok (.aload_n 1, 1) := by decide +kernel
theorem dX2_tellFold_68 : decode cX2_tellFold 68 = .ok (.invokevirtual 186, 3) := by decide +kernel
theorem dX2_tellFold_71 : decode cX2_tellFold 71 = .ok (.ireturn, 1) := by decide +kernel
theorem dX2_tellFold_72 : decode cX2_tellFold 72 = .ok (.aload_n 1, 1) := by decide +kernel
theorem dX2_tellFold_73 : decode cX2_tellFold 73 = .ok (.invokestatic 189, 3) := by decide +kernel
theorem dX2_tellFold_76 : decode cX2_tellFold 76 = .ok (.ireturn, 1) := by decide +kernel
theorem dX2_tellFold_77 : decode cX2_tellFold 77 = .ok (.aload_n 1, 1) := by decide +kernel
theorem dX2_tellFold_78 : decode cX2_tellFold 78 = .ok (.invokestatic 192, 3) := by decide +kernel
theorem dX2_tellFold_81 : decode cX2_tellFold 81 = .ok (.ireturn, 1) := by decide +kernel
theorem dX2_tellFold_82 : decode cX2_tellFold 82 = .ok (.aload_n 0, 1) := by decide +kernel
theorem dX2_tellFold_83 : decode cX2_tellFold 83 = .ok (.aload_n 1, 1) := by decide +kernel
theorem dX2_tellFold_84 : decode cX2_tellFold 84 = .ok (.invokevirtual 195, 3) := by decide +kernel
theorem dX2_tellFold_87 : decode cX2_tellFold 87 = .ok (.ireturn, 1) := by decide +kernel
set_option maxRecDepth 20000 in
theorem ggX2_tellCount_X2_countKept : GoodIn wsX2_tellCount wsX2_countKept := goodIn_r _ [6, 7, 21, 22, 23, 24, 25, 26, 37, 38, 39, 40, 41, 42, 43] (by decide +kernel) (by decide +kernel)
set_option maxRecDepth 20000 in
theorem gX2_tellCount_X2_countKept : GoodIn wsX2_tellCount (wsV RX2 75 RX2 yX2_countKept wsX2_countKept) := goodIn_app (goodIn_of _ (by decide +kernel)) ggX2_tellCount_X2_countKept
set_option maxRecDepth 20000 in
theorem ggX2_tellCount_X2_addForks : GoodIn wsX2_tellCount wsX2_addForks := goodIn_r _ [11, 7, 21, 22, 23, 24, 25, 26, 37, 38, 39, 40, 41, 42, 43] (by decide +kernel) (by decide +kernel)
set_option maxRecDepth 20000 in
theorem gX2_tellCount_X2_addForks : GoodIn wsX2_tellCount (wsV RX2 121 RX2 yX2_addForks wsX2_addForks) := goodIn_app (goodIn_of _ (by decide +kernel)) ggX2_tellCount_X2_addForks
set_option maxRecDepth 20000 in
theorem ggX2_tellCount_X2_countForksAtFirstPlace : GoodIn wsX2_tellCount wsX2_countForksAtFirstPlace := goodIn_r _ [15, 1, 16, 21, 22, 23, 24, 25, 26, 27, 28, 29, 30, 31, 32, 33, 34, 35, 36] (by decide +kernel) (by decide +kernel)
set_option maxRecDepth 20000 in
theorem gX2_tellCount_X2_countForksAtFirstPlace : GoodIn wsX2_tellCount (wsV RX2 198 RX2 yX2_countForksAtFirstPlace wsX2_countForksAtFirstPlace) := goodIn_app (goodIn_of _ (by decide +kernel)) ggX2_tellCount_X2_countForksAtFirstPlace
set_option maxRecDepth 20000 in
theorem ggX2_tellCount_X2_countLeaves : GoodIn wsX2_tellCount wsX2_countLeaves := goodIn_r _ [20, 7, 21, 22, 23, 24, 25, 26, 37, 38, 39, 40, 41, 42, 43] (by decide +kernel) (by decide +kernel)
set_option maxRecDepth 20000 in
theorem gX2_tellCount_X2_countLeaves : GoodIn wsX2_tellCount (wsV RX2 201 RX2 yX2_countLeaves wsX2_countLeaves) := goodIn_app (goodIn_of _ (by decide +kernel)) ggX2_tellCount_X2_countLeaves
theorem dX2_tellCount_0 : decode cX2_tellCount 0 = .ok (.iload_n 1, 1) := by decide +kernel
theorem dX2_tellCount_1 : decode cX2_tellCount 1 = .ok (.tableswitch 54 0 3 #[31, 36, 44, 49], 31) := by decide +kernel
theorem dX2_tellCount_32 : decode cX2_tellCount 32 = .ok (.aload_n 0, 1) := by decide +kernel
theorem dX2_tellCount_33 : decode cX2_tellCount 33 = .ok (.invokevirtual 75, 3) := by decide +kernel
theorem dX2_tellCount_36 : decode cX2_tellCount 36 = .ok (.ireturn, 1) := by decide +kernel
theorem dX2_tellCount_37 : decode cX2_tellCount 37 = .ok (.aload_n 0, 1) := by decide +kernel
theorem dX2_tellCount_38 : decode cX2_tellCount 38 = .ok (.getfield 22, 3) := by decide +kernel
theorem dX2_tellCount_41 : decode cX2_tellCount 41 = .ok (.getfield 82, 3) := by decide +kernel
theorem dX2_tellCount_44 : decode cX2_tellCount 44 = .ok (.ireturn, 1) := by decide +kernel
theorem dX2_tellCount_45 : decode cX2_tellCount 45 = .ok (.aload_n 0, 1) := by decide +kernel
theorem dX2_tellCount_46 : decode cX2_tellCount 46 = .ok (.invokevirtual 121, 3) := by decide +kernel
theorem dX2_tellCount_49 : decode cX2_tellCount 49 = .ok (.ireturn, 1) := by decide +kernel
theorem dX2_tellCount_50 : decode cX2_tellCount 50 = .ok (.aload_n 0, 1) := by decide +kernel
theorem dX2_tellCount_51 : decode cX2_tellCount 51 = .ok (.invokevirtual 198, 3) := by decide +kernel
theorem dX2_tellCount_54 : decode cX2_tellCount 54 = .ok (.ireturn, 1) := by decide +kernel
theorem dX2_tellCount_55 : decode cX2_tellCount 55 = .ok (.aload_n 0, 1) := by decide +kernel
theorem dX2_tellCount_56 : decode cX2_tellCount 56 = .ok (.invokevirtual 201, 3) := by decide +kernel
theorem dX2_tellCount_59 : decode cX2_tellCount 59 = .ok (.ireturn, 1) := by decide +kernel
theorem dX2_countYes_0 : decode cX2_countYes 0 = .ok (.iconst 0, 1) := by decide +kernel
theorem dX2_countYes_1 : decode cX2_countYes 1 = .ok (.istore_n 1, 1) := by decide +kernel
theorem dX2_countYes_2 : decode cX2_countYes 2 = .ok (.iconst 0, 1) := by decide +kernel
theorem dX2_countYes_3 : decode cX2_countYes 3 = .ok (.istore_n 2, 1) := by decide +kernel
theorem dX2_countYes_4 : decode cX2_countYes 4 = .ok (.iload_n 2, 1) := by decide +kernel
theorem dX2_countYes_5 : decode cX2_countYes 5 = .ok (.sipush 256, 3) := by decide +kernel
theorem dX2_countYes_8 : decode cX2_countYes 8 = .ok (.if_icmp .ge 26, 3) := by decide +kernel
theorem dX2_countYes_11 : decode cX2_countYes 11 = .ok (.iload_n 1, 1) := by decide +kernel
theorem dX2_countYes_12 : decode cX2_countYes 12 = .ok (.aload_n 0, 1) := by decide +kernel
theorem dX2_countYes_13 : decode cX2_countYes 13 = .ok (.getfield 41, 3) := by decide +kernel
theorem dX2_countYes_16 : decode cX2_countYes 16 = .ok (.iload_n 2, 1) := by decide +kernel
theorem dX2_countYes_17 : decode cX2_countYes 17 = .ok (.baload, 1) := by decide +kernel
theorem dX2_countYes_18 : decode cX2_countYes 18 = .ok (.ifCond .eq 7, 3) := by decide +kernel
theorem dX2_countYes_21 : decode cX2_countYes 21 = .ok (.iconst 1, 1) := by decide +kernel
theorem dX2_countYes_22 : decode cX2_countYes 22 = .ok (.goto 4, 3) := by decide +kernel
theorem dX2_countYes_25 : decode cX2_countYes 25 = .ok (.iconst 0, 1) := by decide +kernel
theorem dX2_countYes_26 : decode cX2_countYes 26 = .ok (.iadd, 1) := by decide +kernel
theorem dX2_countYes_27 : decode cX2_countYes 27 = .ok (.istore_n 1, 1) := by decide +kernel
theorem dX2_countYes_28 : decode cX2_countYes 28 = .ok (.iinc 2 1, 3) := by decide +kernel
theorem dX2_countYes_31 : decode cX2_countYes 31 = .ok (.goto (-27), 3) := by decide +kernel
theorem dX2_countYes_34 : decode cX2_countYes 34 = .ok (.iload_n 1, 1) := by decide +kernel
theorem dX2_countYes_35 : decode cX2_countYes 35 = .ok (.ireturn, 1) := by decide +kernel
theorem dX2_questionsThatMatter_0 : decode cX2_questionsThatMatter 0 = .ok (.iconst 0, 1) := by decide +kernel
theorem dX2_questionsThatMatter_1 : decode cX2_questionsThatMatter 1 = .ok (.istore_n 2, 1) := by decide +kernel
theorem dX2_questionsThatMatter_2 : decode cX2_questionsThatMatter 2 = .ok (.iconst 0, 1) := by decide +kernel
theorem dX2_questionsThatMatter_3 : decode cX2_questionsThatMatter 3 = .ok (.istore_n 3, 1) := by decide +kernel
theorem dX2_questionsThatMatter_4 : decode cX2_questionsThatMatter 4 = .ok (.iload_n 3, 1) := by decide +kernel
theorem dX2_questionsThatMatter_5 : decode cX2_questionsThatMatter 5 = .ok (.aload_n 1, 1) := by decide +kernel
theorem dX2_questionsThatMatter_6 : decode cX2_questionsThatMatter 6 = .ok (.getfield 93, 3) := by decide +kernel
theorem dX2_questionsThatMatter_9 : decode cX2_questionsThatMatter 9 = .ok (.if_icmp .ge 28, 3) := by decide +kernel
theorem dX2_questionsThatMatter_12 : decode cX2_questionsThatMatter 12 = .ok (.iload_n 2, 1) := by decide +kernel
theorem dX2_questionsThatMatter_13 : decode cX2_questionsThatMatter 13 = .ok (.iconst 1, 1) := by decide +kernel
theorem dX2_questionsThatMatter_14 : decode cX2_questionsThatMatter 14 = .ok (.aload_n 0, 1) := by decide +kernel
theorem dX2_questionsThatMatter_15 : decode cX2_questionsThatMatter 15 = .ok (.getfield 22, 3) := by decide +kernel
theorem dX2_questionsThatMatter_18 : decode cX2_questionsThatMatter 18 = .ok (.getfield 161, 3) := by decide +kernel
theorem dX2_questionsThatMatter_21 : decode cX2_questionsThatMatter 21 = .ok (.aload_n 1, 1) := by decide +kernel
theorem dX2_questionsThatMatter_22 : decode cX2_questionsThatMatter 22 = .ok (.getfield 158, 3) := by decide +kernel
theorem dX2_questionsThatMatter_25 : decode cX2_questionsThatMatter 25 = .ok (.iload_n 3, 1) := by decide +kernel
theorem dX2_questionsThatMatter_26 : decode cX2_questionsThatMatter 26 = .ok (.iaload, 1) := by decide +kernel
theorem dX2_questionsThatMatter_27 : decode cX2_questionsThatMatter 27 = .ok (.iaload, 1) := by decide +kernel
theorem dX2_questionsThatMatter_28 : decode cX2_questionsThatMatter 28 = .ok (.ishl, 1) := by decide +kernel
theorem dX2_questionsThatMatter_29 : decode cX2_questionsThatMatter 29 = .ok (.ior, 1) := by decide +kernel
theorem dX2_questionsThatMatter_30 : decode cX2_questionsThatMatter 30 = .ok (.istore_n 2, 1) := by decide +kernel
theorem dX2_questionsThatMatter_31 : decode cX2_questionsThatMatter 31 = .ok (.iinc 3 1, 3) := by decide +kernel
theorem dX2_questionsThatMatter_34 : decode cX2_questionsThatMatter 34 = .ok (.goto (-30), 3) := by decide +kernel
theorem dX2_questionsThatMatter_37 : decode cX2_questionsThatMatter 37 = .ok (.iload_n 2, 1) := by decide +kernel
theorem dX2_questionsThatMatter_38 : decode cX2_questionsThatMatter 38 = .ok (.ireturn, 1) := by decide +kernel
set_option maxRecDepth 20000 in
theorem ggX2_leastAsked_X2_countAsked : GoodIn wsX2_leastAsked wsX2_countAsked := goodIn_r _ [9, 10, 11, 12, 8, 13, 14, 15, 16, 17, 18, 19, 20, 21, 22, 23, 24, 25, 26, 27, 28, 29, 30, 31, 32, 33, 34, 35, 36] (by decide +kernel) (by decide +kernel)
set_option maxRecDepth 20000 in
theorem gX2_leastAsked_X2_countAsked : GoodIn wsX2_leastAsked (wsV RX2 102 RX2 yX2_countAsked wsX2_countAsked) := goodIn_app (goodIn_of _ (by decide +kernel)) ggX2_leastAsked_X2_countAsked
theorem dX2_leastAsked_0 : decode cX2_leastAsked 0 = .ok (.bipush 8, 2) := by decide +kernel
theorem dX2_leastAsked_2 : decode cX2_leastAsked 2 = .ok (.istore_n 2, 1) := by decide +kernel
theorem dX2_leastAsked_3 : decode cX2_leastAsked 3 = .ok (.iconst 0, 1) := by decide +kernel
theorem dX2_leastAsked_4 : decode cX2_leastAsked 4 = .ok (.istore_n 3, 1) := by decide +kernel
theorem dX2_leastAsked_5 : decode cX2_leastAsked 5 = .ok (.iload_n 3, 1) := by decide +kernel
theorem dX2_leastAsked_6 : decode cX2_leastAsked 6 = .ok (.sipush 256, 3) := by decide +kernel
theorem dX2_leastAsked_9 : decode cX2_leastAsked 9 = .ok (.if_icmp .ge 20, 3) := by decide +kernel
theorem dX2_leastAsked_12 : decode cX2_leastAsked 12 = .ok (.iload_n 2, 1) := by decide +kernel
theorem dX2_leastAsked_13 : decode cX2_leastAsked 13 = .ok (.aload_n 0, 1) := by decide +kernel
theorem dX2_leastAsked_14 : decode cX2_leastAsked 14 = .ok (.aload_n 1, 1) := by decide +kernel
theorem dX2_leastAsked_15 : decode cX2_leastAsked 15 = .ok (.iload_n 3, 1) := by decide +kernel
theorem dX2_leastAsked_16 : decode cX2_leastAsked 16 = .ok (.invokevirtual 102, 3) := by decide +kernel
theorem dX2_leastAsked_19 : decode cX2_leastAsked 19 = .ok (.invokestatic 204, 3) := by decide +kernel
theorem dX2_leastAsked_22 : decode cX2_leastAsked 22 = .ok (.istore_n 2, 1) := by decide +kernel
theorem dX2_leastAsked_23 : decode cX2_leastAsked 23 = .ok (.iinc 3 1, 3) := by decide +kernel
theorem dX2_leastAsked_26 : decode cX2_leastAsked 26 = .ok (.goto (-21), 3) := by decide +kernel
theorem dX2_leastAsked_29 : decode cX2_leastAsked 29 = .ok (.iload_n 2, 1) := by decide +kernel
theorem dX2_leastAsked_30 : decode cX2_leastAsked 30 = .ok (.ireturn, 1) := by decide +kernel
set_option maxRecDepth 20000 in
theorem ggX2_mostAsked_X2_countAsked : GoodIn wsX2_mostAsked wsX2_countAsked := goodIn_r _ [9, 10, 11, 12, 8, 13, 14, 15, 16, 17, 18, 19, 20, 21, 22, 23, 24, 25, 26, 27, 28, 29, 30, 31, 32, 33, 34, 35, 36] (by decide +kernel) (by decide +kernel)
set_option maxRecDepth 20000 in
theorem gX2_mostAsked_X2_countAsked : GoodIn wsX2_mostAsked (wsV RX2 102 RX2 yX2_countAsked wsX2_countAsked) := goodIn_app (goodIn_of _ (by decide +kernel)) ggX2_mostAsked_X2_countAsked
theorem dX2_mostAsked_0 : decode cX2_mostAsked 0 = .ok (.iconst 0, 1) := by decide +kernel
theorem dX2_mostAsked_1 : decode cX2_mostAsked 1 = .ok (.istore_n 2, 1) := by decide +kernel
theorem dX2_mostAsked_2 : decode cX2_mostAsked 2 = .ok (.iconst 0, 1) := by decide +kernel
theorem dX2_mostAsked_3 : decode cX2_mostAsked 3 = .ok (.istore_n 3, 1) := by decide +kernel
theorem dX2_mostAsked_4 : decode cX2_mostAsked 4 = .ok (.iload_n 3, 1) := by decide +kernel
theorem dX2_mostAsked_5 : decode cX2_mostAsked 5 = .ok (.sipush 256, 3) := by decide +kernel
theorem dX2_mostAsked_8 : decode cX2_mostAsked 8 = .ok (.if_icmp .ge 20, 3) := by decide +kernel
theorem dX2_mostAsked_11 : decode cX2_mostAsked 11 = .ok (.iload_n 2, 1) := by decide +kernel
theorem dX2_mostAsked_12 : decode cX2_mostAsked 12 = .ok (.aload_n 0, 1) := by decide +kernel
theorem dX2_mostAsked_13 : decode cX2_mostAsked 13 = .ok (.aload_n 1, 1) := by decide +kernel
theorem dX2_mostAsked_14 : decode cX2_mostAsked 14 = .ok (.iload_n 3, 1) := by decide +kernel
theorem dX2_mostAsked_15 : decode cX2_mostAsked 15 = .ok (.invokevirtual 102, 3) := by decide +kernel
theorem dX2_mostAsked_18 : decode cX2_mostAsked 18 = .ok (.invokestatic 210, 3) := by decide +kernel
theorem dX2_mostAsked_21 : decode cX2_mostAsked 21 = .ok (.istore_n 2, 1) := by decide +kernel
theorem dX2_mostAsked_22 : decode cX2_mostAsked 22 = .ok (.iinc 3 1, 3) := by decide +kernel
theorem dX2_mostAsked_25 : decode cX2_mostAsked 25 = .ok (.goto (-21), 3) := by decide +kernel
theorem dX2_mostAsked_28 : decode cX2_mostAsked 28 = .ok (.iload_n 2, 1) := by decide +kernel
theorem dX2_mostAsked_29 : decode cX2_mostAsked 29 = .ok (.ireturn, 1) := by decide +kernel
set_option maxRecDepth 20000 in
theorem ggX2_countAsked_X2_isYes : GoodIn wsX2_countAsked wsX2_isYes := goodIn_r _ [5] (by decide +kernel) (by decide +kernel)
set_option maxRecDepth 20000 in
theorem gX2_countAsked_X2_isYes : GoodIn wsX2_countAsked (va_wsS RX2 52 yX2_isYes wsX2_isYes) := goodIn_app (goodIn_of _ (by decide +kernel)) ggX2_countAsked_X2_isYes
theorem dX2_countAsked_0 : decode cX2_countAsked 0 = .ok (.iconst 0, 1) := by decide +kernel
theorem dX2_countAsked_1 : decode cX2_countAsked 1 = .ok (.istore_n 3, 1) := by decide +kernel
theorem dX2_countAsked_2 : decode cX2_countAsked 2 = .ok (.aload_n 1, 1) := by decide +kernel
theorem dX2_countAsked_3 : decode cX2_countAsked 3 = .ok (.getfield 93, 3) := by decide +kernel
theorem dX2_countAsked_6 : decode cX2_countAsked 6 = .ok (.ifCond .ne 7, 3) := by decide +kernel
theorem dX2_countAsked_9 : decode cX2_countAsked 9 = .ok (.iconst (-1), 1) := by decide +kernel
theorem dX2_countAsked_10 : decode cX2_countAsked 10 = .ok (.goto 4, 3) := by decide +kernel
theorem dX2_countAsked_13 : decode cX2_countAsked 13 = .ok (.iconst 0, 1) := by decide +kernel
theorem dX2_countAsked_14 : decode cX2_countAsked 14 = .ok (.istore 4, 2) := by decide +kernel
theorem dX2_countAsked_16 : decode cX2_countAsked 16 = .ok (.iload 4, 2) := by decide +kernel
theorem dX2_countAsked_18 : decode cX2_countAsked 18 = .ok (.ifCond .lt 69, 3) := by decide +kernel
theorem dX2_countAsked_21 : decode cX2_countAsked 21 = .ok (.iload 4, 2) := by decide +kernel
theorem dX2_countAsked_23 : decode cX2_countAsked 23 = .ok (.aload_n 1, 1) := by decide +kernel
theorem dX2_countAsked_24 : decode cX2_countAsked 24 = .ok (.getfield 93, 3) := by decide +kernel
theorem dX2_countAsked_27 : decode cX2_countAsked 27 = .ok (.if_icmp .ge 60, 3) := by decide +kernel
theorem dX2_countAsked_30 : decode cX2_countAsked 30 = .ok (.iload_n 3, 1) := by decide +kernel
theorem dX2_countAsked_31 : decode cX2_countAsked 31 = .ok (.bipush 8, 2) := by decide +kernel
theorem dX2_countAsked_33 : decode cX2_countAsked 33 = .ok (.if_icmp .ge 54, 3) := by decide +kernel
theorem dX2_countAsked_36 : decode cX2_countAsked 36 = .ok (.iload_n 2, 1) := by decide +kernel
theorem dX2_countAsked_37 : decode cX2_countAsked 37 = .ok (.aload_n 0, 1) := by decide +kernel
theorem dX2_countAsked_38 : decode cX2_countAsked 38 = .ok (.getfield 22, 3) := by decide +kernel
theorem dX2_countAsked_41 : decode cX2_countAsked 41 = .ok (.getfield 161, 3) := by decide +kernel
theorem dX2_countAsked_44 : decode cX2_countAsked 44 = .ok (.aload_n 1, 1) := by decide +kernel
theorem dX2_countAsked_45 : decode cX2_countAsked 45 = .ok (.getfield 158, 3) := by decide +kernel
theorem dX2_countAsked_48 : decode cX2_countAsked 48 = .ok (.iload 4, 2) := by decide +kernel
theorem dX2_countAsked_50 : decode cX2_countAsked 50 = .ok (.iaload, 1) := by decide +kernel
theorem dX2_countAsked_51 : decode cX2_countAsked 51 = .ok (.iaload, 1) := by decide +kernel
theorem dX2_countAsked_52 : decode cX2_countAsked 52 = .ok (.invokestatic 52, 3) := by decide +kernel
theorem dX2_countAsked_55 : decode cX2_countAsked 55 = .ok (.istore 5, 2) := by decide +kernel
theorem dX2_countAsked_57 : decode cX2_countAsked 57 = .ok (.iload 5, 2) := by decide +kernel
theorem dX2_countAsked_59 : decode cX2_countAsked 59 = .ok (.ifCond .eq 13, 3) := by decide +kernel
theorem dX2_countAsked_62 : decode cX2_countAsked 62 = .ok (.aload_n 1, 1) := by decide +kernel
theorem dX2_countAsked_63 : decode cX2_countAsked 63 = .ok (.getfield 167, 3) := by decide +kernel
theorem dX2_countAsked_66 : decode cX2_countAsked 66 = .ok (.iload 4, 2) := by decide +kernel
theorem dX2_countAsked_68 : decode cX2_countAsked 68 = .ok (.iaload, 1) := by decide +kernel
theorem dX2_countAsked_69 : decode cX2_countAsked 69 = .ok (.goto 10, 3) := by decide +kernel
theorem dX2_countAsked_72 : decode cX2_countAsked 72 = .ok (.aload_n 1, 1) := by decide +kernel
theorem dX2_countAsked_73 : decode cX2_countAsked 73 = .ok (.getfield 164, 3) := by decide +kernel
theorem dX2_countAsked_76 : decode cX2_countAsked 76 = .ok (.iload 4, 2) := by decide +kernel
theorem dX2_countAsked_78 : decode cX2_countAsked 78 = .ok (.iaload, 1) := by decide +kernel
theorem dX2_countAsked_79 : decode cX2_countAsked 79 = .ok (.istore 4, 2) := by decide +kernel
theorem dX2_countAsked_81 : decode cX2_countAsked 81 = .ok (.iinc 3 1, 3) := by decide +kernel
theorem dX2_countAsked_84 : decode cX2_countAsked 84 = .ok (.goto (-68), 3) := by decide +kernel
theorem dX2_countAsked_87 : decode cX2_countAsked 87 = .ok (.iload_n 3, 1) := by decide +kernel
theorem dX2_countAsked_88 : decode cX2_countAsked 88 = .ok (.ireturn, 1) := by decide +kernel
theorem dX2_smallestYes_0 : decode cX2_smallestYes 0 = .ok (.iconst 0, 1) := by decide +kernel
theorem dX2_smallestYes_1 : decode cX2_smallestYes 1 = .ok (.istore_n 1, 1) := by decide +kernel
theorem dX2_smallestYes_2 : decode cX2_smallestYes 2 = .ok (.iload_n 1, 1) := by decide +kernel
theorem dX2_smallestYes_3 : decode cX2_smallestYes 3 = .ok (.sipush 256, 3) := by decide +kernel
theorem dX2_smallestYes_6 : decode cX2_smallestYes 6 = .ok (.if_icmp .ge 20, 3) := by decide +kernel
theorem dX2_smallestYes_9 : decode cX2_smallestYes 9 = .ok (.aload_n 0, 1) := by decide +kernel
theorem dX2_smallestYes_10 : decode cX2_smallestYes 10 = .ok (.getfield 41, 3) := by decide +kernel
theorem dX2_smallestYes_13 : decode cX2_smallestYes 13 = .ok (.iload_n 1, 1) := by decide +kernel
theorem dX2_smallestYes_14 : decode cX2_smallestYes 14 = .ok (.baload, 1) := by decide +kernel
theorem dX2_smallestYes_15 : decode cX2_smallestYes 15 = .ok (.ifCond .eq 5, 3) := by decide +kernel
theorem dX2_smallestYes_18 : decode cX2_smallestYes 18 = .ok (.iload_n 1, 1) := by decide +kernel
theorem dX2_smallestYes_19 : decode cX2_smallestYes 19 = .ok (.ireturn, 1) := by decide +kernel
theorem dX2_smallestYes_20 : decode cX2_smallestYes 20 = .ok (.iinc 1 1, 3) := by decide +kernel
theorem dX2_smallestYes_23 : decode cX2_smallestYes 23 = .ok (.goto (-21), 3) := by decide +kernel
theorem dX2_smallestYes_26 : decode cX2_smallestYes 26 = .ok (.iconst (-1), 1) := by decide +kernel
theorem dX2_smallestYes_27 : decode cX2_smallestYes 27 = .ok (.ireturn, 1) := by decide +kernel
theorem dX2_greatestYes_0 : decode cX2_greatestYes 0 = .ok (.sipush 255, 3) := by decide +kernel
theorem dX2_greatestYes_3 : decode cX2_greatestYes 3 = .ok (.istore_n 1, 1) := by decide +kernel
theorem dX2_greatestYes_4 : decode cX2_greatestYes 4 = .ok (.iload_n 1, 1) := by decide +kernel
theorem dX2_greatestYes_5 : decode cX2_greatestYes 5 = .ok (.ifCond .lt 20, 3) := by decide +kernel
theorem dX2_greatestYes_8 : decode cX2_greatestYes 8 = .ok (.aload_n 0, 1) := by decide +kernel
theorem dX2_greatestYes_9 : decode cX2_greatestYes 9 = .ok (.getfield 41, 3) := by decide +kernel
theorem dX2_greatestYes_12 : decode cX2_greatestYes 12 = .ok (.iload_n 1, 1) := by decide +kernel
theorem dX2_greatestYes_13 : decode cX2_greatestYes 13 = .ok (.baload, 1) := by decide +kernel
theorem dX2_greatestYes_14 : decode cX2_greatestYes 14 = .ok (.ifCond .eq 5, 3) := by decide +kernel
theorem dX2_greatestYes_17 : decode cX2_greatestYes 17 = .ok (.iload_n 1, 1) := by decide +kernel
theorem dX2_greatestYes_18 : decode cX2_greatestYes 18 = .ok (.ireturn, 1) := by decide +kernel
theorem dX2_greatestYes_19 : decode cX2_greatestYes 19 = .ok (.iinc 1 (-1), 3) := by decide +kernel
theorem dX2_greatestYes_22 : decode cX2_greatestYes 22 = .ok (.goto (-18), 3) := by decide +kernel
theorem dX2_greatestYes_25 : decode cX2_greatestYes 25 = .ok (.iconst (-1), 1) := by decide +kernel
theorem dX2_greatestYes_26 : decode cX2_greatestYes 26 = .ok (.ireturn, 1) := by decide +kernel
theorem dX2_countOwnForks_0 : decode cX2_countOwnForks 0 = .ok (.iconst 0, 1) := by decide +kernel
theorem dX2_countOwnForks_1 : decode cX2_countOwnForks 1 = .ok (.istore_n 2, 1) := by decide +kernel
theorem dX2_countOwnForks_2 : decode cX2_countOwnForks 2 = .ok (.iconst 0, 1) := by decide +kernel
theorem dX2_countOwnForks_3 : decode cX2_countOwnForks 3 = .ok (.istore_n 3, 1) := by decide +kernel
theorem dX2_countOwnForks_4 : decode cX2_countOwnForks 4 = .ok (.iload_n 3, 1) := by decide +kernel
theorem dX2_countOwnForks_5 : decode cX2_countOwnForks 5 = .ok (.aload_n 1, 1) := by decide +kernel
theorem dX2_countOwnForks_6 : decode cX2_countOwnForks 6 = .ok (.getfield 93, 3) := by decide +kernel
theorem dX2_countOwnForks_9 : decode cX2_countOwnForks 9 = .ok (.if_icmp .ge 35, 3) := by decide +kernel
theorem dX2_countOwnForks_12 : decode cX2_countOwnForks 12 = .ok (.iload_n 2, 1) := by decide +kernel
theorem dX2_countOwnForks_13 : decode cX2_countOwnForks 13 = .ok (.aload_n 0, 1) := by decide +kernel
theorem dX2_countOwnForks_14 : decode cX2_countOwnForks 14 = .ok (.getfield 22, 3) := by decide +kernel
theorem dX2_countOwnForks_17 : decode cX2_countOwnForks 17 = .ok (.getfield 173, 3) := by decide +kernel
theorem dX2_countOwnForks_20 : decode cX2_countOwnForks 20 = .ok (.aload_n 1, 1) := by decide +kernel
theorem dX2_countOwnForks_21 : decode cX2_countOwnForks 21 = .ok (.getfield 158, 3) := by decide +kernel
theorem dX2_countOwnForks_24 : decode cX2_countOwnForks 24 = .ok (.iload_n 3, 1) := by decide +kernel
theorem dX2_countOwnForks_25 : decode cX2_countOwnForks 25 = .ok (.iaload, 1) := by decide +kernel
theorem dX2_countOwnForks_26 : decode cX2_countOwnForks 26 = .ok (.iaload, 1) := by decide +kernel
theorem dX2_countOwnForks_27 : decode cX2_countOwnForks 27 = .ok (.iconst 1, 1) := by decide +kernel
theorem dX2_countOwnForks_28 : decode cX2_countOwnForks 28 = .ok (.if_icmp .ne 7, 3) := by decide +kernel
theorem dX2_countOwnForks_31 : decode cX2_countOwnForks 31 = .ok (.iconst 1, 1) := by decide +kernel
theorem dX2_countOwnForks_32 : decode cX2_countOwnForks 32 = .ok (.goto 4, 3) := by decide +kernel
theorem dX2_countOwnForks_35 : decode cX2_countOwnForks 35 = .ok (.iconst 0, 1) := by decide +kernel
theorem dX2_countOwnForks_36 : decode cX2_countOwnForks 36 = .ok (.iadd, 1) := by decide +kernel
theorem dX2_countOwnForks_37 : decode cX2_countOwnForks 37 = .ok (.istore_n 2, 1) := by decide +kernel
theorem dX2_countOwnForks_38 : decode cX2_countOwnForks 38 = .ok (.iinc 3 1, 3) := by decide +kernel
theorem dX2_countOwnForks_41 : decode cX2_countOwnForks 41 = .ok (.goto (-37), 3) := by decide +kernel
theorem dX2_countOwnForks_44 : decode cX2_countOwnForks 44 = .ok (.iload_n 2, 1) := by decide +kernel
theorem dX2_countOwnForks_45 : decode cX2_countOwnForks 45 = .ok (.ireturn, 1) := by decide +kernel
theorem dX2_countKept_0 : decode cX2_countKept 0 = .ok (.iconst 0, 1) := by decide +kernel
theorem dX2_countKept_1 : decode cX2_countKept 1 = .ok (.istore_n 1, 1) := by decide +kernel
theorem dX2_countKept_2 : decode cX2_countKept 2 = .ok (.iconst 0, 1) := by decide +kernel
theorem dX2_countKept_3 : decode cX2_countKept 3 = .ok (.istore_n 2, 1) := by decide +kernel
theorem dX2_countKept_4 : decode cX2_countKept 4 = .ok (.iload_n 2, 1) := by decide +kernel
theorem dX2_countKept_5 : decode cX2_countKept 5 = .ok (.bipush 12, 2) := by decide +kernel
theorem dX2_countKept_7 : decode cX2_countKept 7 = .ok (.if_icmp .ge 29, 3) := by decide +kernel
theorem dX2_countKept_10 : decode cX2_countKept 10 = .ok (.iload_n 1, 1) := by decide +kernel
theorem dX2_countKept_11 : decode cX2_countKept 11 = .ok (.aload_n 0, 1) := by decide +kernel
theorem dX2_countKept_12 : decode cX2_countKept 12 = .ok (.getfield 11, 3) := by decide +kernel
theorem dX2_countKept_15 : decode cX2_countKept 15 = .ok (.iload_n 2, 1) := by decide +kernel
theorem dX2_countKept_16 : decode cX2_countKept 16 = .ok (.aaload, 1) := by decide +kernel
theorem dX2_countKept_17 : decode cX2_countKept 17 = .ok (.getfield 68, 3) := by decide +kernel
theorem dX2_countKept_20 : decode cX2_countKept 20 = .ok (.ifCond .eq 7, 3) := by decide +kernel
theorem dX2_countKept_23 : decode cX2_countKept 23 = .ok (.iconst 1, 1) := by decide +kernel
theorem dX2_countKept_24 : decode cX2_countKept 24 = .ok (.goto 4, 3) := by decide +kernel
theorem dX2_countKept_27 : decode cX2_countKept 27 = .ok (.iconst 0, 1) := by decide +kernel
theorem dX2_countKept_28 : decode cX2_countKept 28 = .ok (.iadd, 1) := by decide +kernel
theorem dX2_countKept_29 : decode cX2_countKept 29 = .ok (.istore_n 1, 1) := by decide +kernel
theorem dX2_countKept_30 : decode cX2_countKept 30 = .ok (.iinc 2 1, 3) := by decide +kernel
theorem dX2_countKept_33 : decode cX2_countKept 33 = .ok (.goto (-29), 3) := by decide +kernel
theorem dX2_countKept_36 : decode cX2_countKept 36 = .ok (.iload_n 1, 1) := by decide +kernel
theorem dX2_countKept_37 : decode cX2_countKept 37 = .ok (.ireturn, 1) := by decide +kernel
theorem dX2_addForks_0 : decode cX2_addForks 0 = .ok (.iconst 0, 1) := by decide +kernel
theorem dX2_addForks_1 : decode cX2_addForks 1 = .ok (.istore_n 1, 1) := by decide +kernel
theorem dX2_addForks_2 : decode cX2_addForks 2 = .ok (.iconst 0, 1) := by decide +kernel
theorem dX2_addForks_3 : decode cX2_addForks 3 = .ok (.istore_n 2, 1) := by decide +kernel
theorem dX2_addForks_4 : decode cX2_addForks 4 = .ok (.iload_n 2, 1) := by decide +kernel
theorem dX2_addForks_5 : decode cX2_addForks 5 = .ok (.bipush 12, 2) := by decide +kernel
theorem dX2_addForks_7 : decode cX2_addForks 7 = .ok (.if_icmp .ge 37, 3) := by decide +kernel
theorem dX2_addForks_10 : decode cX2_addForks 10 = .ok (.iload_n 1, 1) := by decide +kernel
theorem dX2_addForks_11 : decode cX2_addForks 11 = .ok (.aload_n 0, 1) := by decide +kernel
theorem dX2_addForks_12 : decode cX2_addForks 12 = .ok (.getfield 11, 3) := by decide +kernel
theorem dX2_addForks_15 : decode cX2_addForks 15 = .ok (.iload_n 2, 1) := by decide +kernel
theorem dX2_addForks_16 : decode cX2_addForks 16 = .ok (.aaload, 1) := by decide +kernel
theorem dX2_addForks_17 : decode cX2_addForks 17 = .ok (.getfield 68, 3) := by decide +kernel
theorem dX2_addForks_20 : decode cX2_addForks 20 = .ok (.ifCond .eq 15, 3) := by decide +kernel
theorem dX2_addForks_23 : decode cX2_addForks 23 = .ok (.aload_n 0, 1) := by decide +kernel
theorem dX2_addForks_24 : decode cX2_addForks 24 = .ok (.getfield 11, 3) := by decide +kernel
theorem dX2_addForks_27 : decode cX2_addForks 27 = .ok (.iload_n 2, 1) := by decide +kernel
theorem dX2_addForks_28 : decode cX2_addForks 28 = .ok (.aaload, 1) := by decide +kernel
theorem dX2_addForks_29 : decode cX2_addForks 29 = .ok (.getfield 93, 3) := by decide +kernel
theorem dX2_addForks_32 : decode cX2_addForks 32 = .ok (.goto 4, 3) := by decide +kernel
theorem dX2_addForks_35 : decode cX2_addForks 35 = .ok (.iconst 0, 1) := by decide +kernel
theorem dX2_addForks_36 : decode cX2_addForks 36 = .ok (.iadd, 1) := by decide +kernel
theorem dX2_addForks_37 : decode cX2_addForks 37 = .ok (.istore_n 1, 1) := by decide +kernel
theorem dX2_addForks_38 : decode cX2_addForks 38 = .ok (.iinc 2 1, 3) := by decide +kernel
theorem dX2_addForks_41 : decode cX2_addForks 41 = .ok (.goto (-37), 3) := by decide +kernel
theorem dX2_addForks_44 : decode cX2_addForks 44 = .ok (.iload_n 1, 1) := by decide +kernel
theorem dX2_addForks_45 : decode cX2_addForks 45 = .ok (.ireturn, 1) := by decide +kernel
theorem dX2_countForksAtFirstPlace_0 : decode cX2_countForksAtFirstPlace 0 = .ok (.iconst 0, 1) := by decide +kernel
theorem dX2_countForksAtFirstPlace_1 : decode cX2_countForksAtFirstPlace 1 = .ok (.istore_n 1, 1) := by decide +kernel
theorem dX2_countForksAtFirstPlace_2 : decode cX2_countForksAtFirstPlace 2 = .ok (.iconst 0, 1) := by decide +kernel
theorem dX2_countForksAtFirstPlace_3 : decode cX2_countForksAtFirstPlace 3 = .ok (.istore_n 2, 1) := by decide +kernel
theorem dX2_countForksAtFirstPlace_4 : decode cX2_countForksAtFirstPlace 4 = .ok (.iload_n 2, 1) := by decide +kernel
theorem dX2_countForksAtFirstPlace_5 : decode cX2_countForksAtFirstPlace 5 = .ok (.aload_n 0, 1) := by decide +kernel
theorem dX2_countForksAtFirstPlace_6 : decode cX2_countForksAtFirstPlace 6 = .ok (.getfield 22, 3) := by decide +kernel
theorem dX2_countForksAtFirstPlace_9 : decode cX2_countForksAtFirstPlace 9 = .ok (.getfield 82, 3) := by decide +kernel
theorem dX2_countForksAtFirstPlace_12 : decode cX2_countForksAtFirstPlace 12 = .ok (.if_icmp .ge 35, 3) := by decide +kernel
theorem dX2_countForksAtFirstPlace_15 : decode cX2_countForksAtFirstPlace 15 = .ok (.iload_n 1, 1) := by decide +kernel
theorem dX2_countForksAtFirstPlace_16 : decode cX2_countForksAtFirstPlace 16 = .ok (.aload_n 0, 1) := by decide +kernel
theorem dX2_countForksAtFirstPlace_17 : decode cX2_countForksAtFirstPlace 17 = .ok (.getfield 22, 3) := by decide +kernel
theorem dX2_countForksAtFirstPlace_20 : decode cX2_countForksAtFirstPlace 20 = .ok (.getfield 161, 3) := by decide +kernel
theorem dX2_countForksAtFirstPlace_23 : decode cX2_countForksAtFirstPlace 23 = .ok (.iload_n 2, 1) := by decide +kernel
theorem dX2_countForksAtFirstPlace_24 : decode cX2_countForksAtFirstPlace 24 = .ok (.iaload, 1) := by decide +kernel
theorem dX2_countForksAtFirstPlace_25 : decode cX2_countForksAtFirstPlace 25 = .ok (.aload_n 0, 1) := by decide +kernel
theorem dX2_countForksAtFirstPlace_26 : decode cX2_countForksAtFirstPlace 26 = .ok (.getfield 15, 3) := by decide +kernel
theorem dX2_countForksAtFirstPlace_29 : decode cX2_countForksAtFirstPlace 29 = .ok (.iconst 0, 1) := by decide +kernel
theorem dX2_countForksAtFirstPlace_30 : decode cX2_countForksAtFirstPlace 30 = .ok (.iaload, 1) := by decide +kernel
theorem dX2_countForksAtFirstPlace_31 : decode cX2_countForksAtFirstPlace 31 = .ok (.if_icmp .ne 7, 3) := by decide +kernel
theorem dX2_countForksAtFirstPlace_34 : decode cX2_countForksAtFirstPlace 34 = .ok (.iconst 1, 1) := by decide +kernel
theorem dX2_countForksAtFirstPlace_35 : decode cX2_countForksAtFirstPlace 35 = .ok (.goto 4, 3) := by decide +kernel
theorem dX2_countForksAtFirstPlace_38 : decode cX2_countForksAtFirstPlace 38 = .ok (.iconst 0, 1) := by decide +kernel
theorem dX2_countForksAtFirstPlace_39 : decode cX2_countForksAtFirstPlace 39 = .ok (.iadd, 1) := by decide +kernel
theorem dX2_countForksAtFirstPlace_40 : decode cX2_countForksAtFirstPlace 40 = .ok (.istore_n 1, 1) := by decide +kernel
theorem dX2_countForksAtFirstPlace_41 : decode cX2_countForksAtFirstPlace 41 = .ok (.iinc 2 1, 3) := by decide +kernel
theorem dX2_countForksAtFirstPlace_44 : decode cX2_countForksAtFirstPlace 44 = .ok (.goto (-40), 3) := by decide +kernel
theorem dX2_countForksAtFirstPlace_47 : decode cX2_countForksAtFirstPlace 47 = .ok (.iload_n 1, 1) := by decide +kernel
theorem dX2_countForksAtFirstPlace_48 : decode cX2_countForksAtFirstPlace 48 = .ok (.ireturn, 1) := by decide +kernel
theorem dX2_countLeaves_0 : decode cX2_countLeaves 0 = .ok (.iconst 0, 1) := by decide +kernel
theorem dX2_countLeaves_1 : decode cX2_countLeaves 1 = .ok (.istore_n 1, 1) := by decide +kernel
theorem dX2_countLeaves_2 : decode cX2_countLeaves 2 = .ok (.iconst 0, 1) := by decide +kernel
theorem dX2_countLeaves_3 : decode cX2_countLeaves 3 = .ok (.istore_n 2, 1) := by decide +kernel
theorem dX2_countLeaves_4 : decode cX2_countLeaves 4 = .ok (.iload_n 2, 1) := by decide +kernel
theorem dX2_countLeaves_5 : decode cX2_countLeaves 5 = .ok (.bipush 12, 2) := by decide +kernel
theorem dX2_countLeaves_7 : decode cX2_countLeaves 7 = .ok (.if_icmp .ge 41, 3) := by decide +kernel
theorem dX2_countLeaves_10 : decode cX2_countLeaves 10 = .ok (.iload_n 1, 1) := by decide +kernel
theorem dX2_countLeaves_11 : decode cX2_countLeaves 11 = .ok (.aload_n 0, 1) := by decide +kernel
theorem dX2_countLeaves_12 : decode cX2_countLeaves 12 = .ok (.getfield 11, 3) := by decide +kernel
theorem dX2_countLeaves_15 : decode cX2_countLeaves 15 = .ok (.iload_n 2, 1) := by decide +kernel
theorem dX2_countLeaves_16 : decode cX2_countLeaves 16 = .ok (.aaload, 1) := by decide +kernel
theorem dX2_countLeaves_17 : decode cX2_countLeaves 17 = .ok (.getfield 68, 3) := by decide +kernel
theorem dX2_countLeaves_20 : decode cX2_countLeaves 20 = .ok (.ifCond .eq 19, 3) := by decide +kernel
theorem dX2_countLeaves_23 : decode cX2_countLeaves 23 = .ok (.aload_n 0, 1) := by decide +kernel
theorem dX2_countLeaves_24 : decode cX2_countLeaves 24 = .ok (.getfield 11, 3) := by decide +kernel
theorem dX2_countLeaves_27 : decode cX2_countLeaves 27 = .ok (.iload_n 2, 1) := by decide +kernel
theorem dX2_countLeaves_28 : decode cX2_countLeaves 28 = .ok (.aaload, 1) := by decide +kernel
theorem dX2_countLeaves_29 : decode cX2_countLeaves 29 = .ok (.getfield 93, 3) := by decide +kernel
theorem dX2_countLeaves_32 : decode cX2_countLeaves 32 = .ok (.ifCond .ne 7, 3) := by decide +kernel
theorem dX2_countLeaves_35 : decode cX2_countLeaves 35 = .ok (.iconst 1, 1) := by decide +kernel
theorem dX2_countLeaves_36 : decode cX2_countLeaves 36 = .ok (.goto 4, 3) := by decide +kernel
theorem dX2_countLeaves_39 : decode cX2_countLeaves 39 = .ok (.iconst 0, 1) := by decide +kernel
theorem dX2_countLeaves_40 : decode cX2_countLeaves 40 = .ok (.iadd, 1) := by decide +kernel
theorem dX2_countLeaves_41 : decode cX2_countLeaves 41 = .ok (.istore_n 1, 1) := by decide +kernel
theorem dX2_countLeaves_42 : decode cX2_countLeaves 42 = .ok (.iinc 2 1, 3) := by decide +kernel
theorem dX2_countLeaves_45 : decode cX2_countLeaves 45 = .ok (.goto (-41), 3) := by decide +kernel
theorem dX2_countLeaves_48 : decode cX2_countLeaves 48 = .ok (.iload_n 1, 1) := by decide +kernel
theorem dX2_countLeaves_49 : decode cX2_countLeaves 49 = .ok (.ireturn, 1) := by decide +kernel
end
section
abbrev vwCl : List vw_C := [(RX0, TX0, 7), (RX1, TX1, 10), (RX2, TX2, 6), (RX3, TX3, 15)]
end
section
/-! ===== the cells of one SharedForks: 97 cells at the addresses ad 0 .. ad 96; M i j is what stands in cell i at place j ===== -/
def cW (ad : Nat → Nat) (E : Nat → va_E) : va_W := (List.range 97).map (fun i => (ad i, E i))
theorem cW_get (ad : Nat → Nat) (E : Nat → va_E) {i : Nat} (h : i < 97) : (cW ad E)[i]? = some (ad i, E i) := by
  simp [cW, List.getElem?_map, List.getElem?_range, h]
theorem cW_len (ad : Nat → Nat) (E : Nat → va_E) : (cW ad E).length = 97 := by simp [cW]
theorem cW_of {ad : Nat → Nat} {E : Nat → va_E} {k : Nat} {q : Nat × va_E} (h : (cW ad E)[k]? = some q) : k < 97 ∧ q = (ad k, E k) := by
  have hk : k < 97 := by
    have := (List.getElem?_eq_some_iff.mp h).1
    rwa [cW_len] at this
  rw [cW_get ad E hk] at h
  exact ⟨hk, (Option.some.inj h).symm⟩
theorem cW_set (ad : Nat → Nat) (E : Nat → va_E) (i : Nat) (x : va_E) : (cW ad E).set i (ad i, x) = cW ad (va_up E i x) := by
  apply List.ext_getElem?
  intro j
  by_cases hj : j < 97
  · by_cases hji : i = j
    · subst hji
      rw [List.getElem?_set_self (by rw [cW_len]; exact hj), cW_get ad _ hj, va_up_self]
    · rw [List.getElem?_set_ne hji, cW_get ad _ hj, cW_get ad _ hj, va_up_ne _ _ (fun h => hji h.symm)]
  · rw [List.getElem?_eq_none (by rw [List.length_set, cW_len]; omega), List.getElem?_eq_none (by rw [cW_len]; omega)]
/-- the place of a fold's object -/
abbrev cB (k : Nat) : Nat := 25 + 6 * k
/-- what kind of cell: 0 an object, 1 ints, 2 booleans, 3 the row of folds; and how long it is -/
def cKd (i : Nat) : Nat := if i < 25 then [0, 3, 1, 0, 1, 1, 1, 1, 1, 1, 1, 1, 1, 2, 1, 0, 1, 1, 1, 1, 1, 1, 1, 1, 1].getD i 0 else if (i - 25) % 6 = 0 then 0 else if (i - 25) % 6 = 1 then 2 else 1
def cLn (i : Nat) : Nat := if i < 25 then [0, 12, 8, 0, 626, 626, 626, 626, 1024, 8, 256, 256, 626, 256, 8, 0, 626, 626, 626, 626, 1024, 8, 256, 256, 626].getD i 0 else 77
def cOb (ad : Nat → Nat) (i : Nat) (f : Nat → Int32) : va_E :=
  if i = 0 then .inr (2, [.ref (ad 1), .ref (ad 2), .ref (ad 3), .ref (ad 13), .ref (ad 14), .ref (ad 15)])
  else if i < 25 then .inr (1, [.int (f 0), .ref (ad (i + 1)), .ref (ad (i + 2)), .ref (ad (i + 3)), .ref (ad (i + 4)), .ref (ad (i + 5)), .ref (ad (i + 6)), .ref (ad (i + 7)), .ref (ad (i + 8)), .ref (ad (i + 9))])
  else .inr (0, [.int (f 0), .ref (ad (i + 1)), .int (f 2), .ref (ad (i + 2)), .ref (ad (i + 3)), .ref (ad (i + 4)), .ref (ad (i + 5))])
/-- what a cell is, by its place -/
def cS (I Z F : ClassId) (ad : Nat → Nat) (i : Nat) (f : Nat → Int32) : va_E :=
  if cKd i = 1 then .inl (I, cLn i, .inl f)
  else if cKd i = 2 then .inl (Z, 256, .inl f)
  else if cKd i = 3 then .inl (F, 12, .inr (.inr (.inr (.inr (fun k => some (ad (25 + 6 * k)))))))
  else cOb ad i f
theorem cKd_0 (k : Nat) : cKd (25 + 6 * k) = 0 := by rw [cKd, if_neg (by omega), if_pos (by omega)]
theorem cKd_1 (k : Nat) : cKd (25 + 6 * k + 1) = 2 := by rw [cKd, if_neg (by omega), if_neg (by omega), if_pos (by omega)]
theorem cKd_2 (k j : Nat) (h : 2 ≤ j) (h2 : j ≤ 5) : cKd (25 + 6 * k + j) = 1 := by rw [cKd, if_neg (by omega), if_neg (by omega), if_neg (by omega)]
theorem cLn_2 (k j : Nat) : cLn (25 + 6 * k + j) = 77 := by rw [cLn, if_neg (by omega)]
theorem cS_0 (I Z F : ClassId) (ad : Nat → Nat) (k : Nat) (f : Nat → Int32) : cS I Z F ad (25 + 6 * k) f = .inr (0, [.int (f 0), .ref (ad (25 + 6 * k + 1)), .int (f 2), .ref (ad (25 + 6 * k + 2)), .ref (ad (25 + 6 * k + 3)), .ref (ad (25 + 6 * k + 4)), .ref (ad (25 + 6 * k + 5))]) := by
  rw [cS, cKd_0, if_neg (by decide), if_neg (by decide), if_neg (by decide), cOb, if_neg (by omega), if_neg (by omega)]
theorem cS_1 (I Z F : ClassId) (ad : Nat → Nat) (k : Nat) (f : Nat → Int32) : cS I Z F ad (25 + 6 * k + 1) f = .inl (Z, 256, .inl f) := by
  rw [cS, cKd_1, if_neg (by decide), if_pos rfl]
theorem cS_2 (I Z F : ClassId) (ad : Nat → Nat) (k j : Nat) (h : 2 ≤ j) (h2 : j ≤ 5) (f : Nat → Int32) : cS I Z F ad (25 + 6 * k + j) f = .inl (I, 77, .inl f) := by
  rw [cS, cKd_2 k j h h2, if_pos rfl, cLn_2]
def cE (I Z F : ClassId) (ad : Nat → Nat) (M : Nat → Nat → Int32) : Nat → va_E := fun i => cS I Z F ad i (M i)
/-- one place of one cell is another -/
def mst (M : Nat → Nat → Int32) (i j : Nat) (x : Int32) : Nat → Nat → Int32 := fun a => if a = i then upd (M i) j x else M a
/-- a cell is another -/
def mrow (M : Nat → Nat → Int32) (i : Nat) (f : Nat → Int32) : Nat → Nat → Int32 := fun a => if a = i then f else M a
theorem mst_row (M : Nat → Nat → Int32) (i j : Nat) (x : Int32) : mst M i j x = mrow M i (upd (M i) j x) := rfl
theorem mst_same (M : Nat → Nat → Int32) (i j : Nat) (x : Int32) : mst M i j x i = upd (M i) j x := if_pos rfl
theorem mst_ne {M : Nat → Nat → Int32} {i a j : Nat} {x : Int32} (h : a ≠ i) : mst M i j x a = M a := if_neg h
theorem mrow_same (M : Nat → Nat → Int32) (i : Nat) (f : Nat → Int32) : mrow M i f i = f := if_pos rfl
theorem mrow_ne {M : Nat → Nat → Int32} {i a : Nat} {f : Nat → Int32} (h : a ≠ i) : mrow M i f a = M a := if_neg h
theorem cE_row (I Z F : ClassId) (ad : Nat → Nat) (M : Nat → Nat → Int32) (i : Nat) (f : Nat → Int32) : va_up (cE I Z F ad M) i (cS I Z F ad i f) = cE I Z F ad (mrow M i f) := by
  funext a
  by_cases h : a = i
  · subst h; rw [va_up_self]; show _ = cS I Z F ad a (mrow M a f a); rw [mrow_same]
  · rw [va_up_ne _ _ h]; show _ = cS I Z F ad a (mrow M i f a); rw [mrow_ne h]; rfl
section CSH
variable (I Z F : ClassId) (ad : Nat → Nat) (M : Nat → Nat → Int32)
theorem cE_x : cE I Z F ad M 0 = .inr (2, [.ref (ad 1), .ref (ad 2), .ref (ad 3), .ref (ad 13), .ref (ad 14), .ref (ad 15)]) := rfl
theorem cE_folds : cE I Z F ad M 1 = .inl (F, 12, .inr (.inr (.inr (.inr (fun k => some (ad (25 + 6 * k))))))) := rfl
theorem cE_q : cE I Z F ad M 2 = .inl (I, 8, .inl (M 2)) := rfl
theorem cE_ty : cE I Z F ad M 13 = .inl (Z, 256, .inl (M 13)) := rfl
theorem cE_to : cE I Z F ad M 14 = .inl (I, 8, .inl (M 14)) := rfl
theorem cE_f0 {g : Nat} (hg : g = 3 ∨ g = 15) : cE I Z F ad M g = .inr (1, [.int (M g 0), .ref (ad (g + 1)), .ref (ad (g + 2)), .ref (ad (g + 3)), .ref (ad (g + 4)), .ref (ad (g + 5)), .ref (ad (g + 6)), .ref (ad (g + 7)), .ref (ad (g + 8)), .ref (ad (g + 9))]) := by rcases hg with rfl | rfl <;> rfl
theorem cE_f1 {g : Nat} (hg : g = 3 ∨ g = 15) : cE I Z F ad M (g + 1) = .inl (I, 626, .inl (M (g + 1))) := by rcases hg with rfl | rfl <;> rfl
theorem cE_f2 {g : Nat} (hg : g = 3 ∨ g = 15) : cE I Z F ad M (g + 2) = .inl (I, 626, .inl (M (g + 2))) := by rcases hg with rfl | rfl <;> rfl
theorem cE_f3 {g : Nat} (hg : g = 3 ∨ g = 15) : cE I Z F ad M (g + 3) = .inl (I, 626, .inl (M (g + 3))) := by rcases hg with rfl | rfl <;> rfl
theorem cE_f4 {g : Nat} (hg : g = 3 ∨ g = 15) : cE I Z F ad M (g + 4) = .inl (I, 626, .inl (M (g + 4))) := by rcases hg with rfl | rfl <;> rfl
theorem cE_f5 {g : Nat} (hg : g = 3 ∨ g = 15) : cE I Z F ad M (g + 5) = .inl (I, 1024, .inl (M (g + 5))) := by rcases hg with rfl | rfl <;> rfl
theorem cE_f6 {g : Nat} (hg : g = 3 ∨ g = 15) : cE I Z F ad M (g + 6) = .inl (I, 8, .inl (M (g + 6))) := by rcases hg with rfl | rfl <;> rfl
theorem cE_f7 {g : Nat} (hg : g = 3 ∨ g = 15) : cE I Z F ad M (g + 7) = .inl (I, 256, .inl (M (g + 7))) := by rcases hg with rfl | rfl <;> rfl
theorem cE_f8 {g : Nat} (hg : g = 3 ∨ g = 15) : cE I Z F ad M (g + 8) = .inl (I, 256, .inl (M (g + 8))) := by rcases hg with rfl | rfl <;> rfl
theorem cE_f9 {g : Nat} (hg : g = 3 ∨ g = 15) : cE I Z F ad M (g + 9) = .inl (I, 626, .inl (M (g + 9))) := by rcases hg with rfl | rfl <;> rfl
theorem cE_d0 (k : Nat) : cE I Z F ad M (25 + 6 * k) = .inr (0, [.int (M (25 + 6 * k) 0), .ref (ad (25 + 6 * k + 1)), .int (M (25 + 6 * k) 2), .ref (ad (25 + 6 * k + 2)), .ref (ad (25 + 6 * k + 3)), .ref (ad (25 + 6 * k + 4)), .ref (ad (25 + 6 * k + 5))]) := cS_0 I Z F ad k _
theorem cE_d1 (k : Nat) : cE I Z F ad M (25 + 6 * k + 1) = .inl (Z, 256, .inl (M (25 + 6 * k + 1))) := cS_1 I Z F ad k _
theorem cE_d2 (k : Nat) : cE I Z F ad M (25 + 6 * k + 2) = .inl (I, 77, .inl (M (25 + 6 * k + 2))) := cS_2 I Z F ad k 2 (by decide) (by decide) _
theorem cE_d3 (k : Nat) : cE I Z F ad M (25 + 6 * k + 3) = .inl (I, 77, .inl (M (25 + 6 * k + 3))) := cS_2 I Z F ad k 3 (by decide) (by decide) _
theorem cE_d4 (k : Nat) : cE I Z F ad M (25 + 6 * k + 4) = .inl (I, 77, .inl (M (25 + 6 * k + 4))) := cS_2 I Z F ad k 4 (by decide) (by decide) _
theorem cE_d5 (k : Nat) : cE I Z F ad M (25 + 6 * k + 5) = .inl (I, 77, .inl (M (25 + 6 * k + 5))) := cS_2 I Z F ad k 5 (by decide) (by decide) _
end CSH
/-- an int array's new row, an object's new int field -/
theorem cS_arr {I Z F : ClassId} {ad : Nat → Nat} {i n : Nat} {C : ClassId} {f : Nat → Int32} (h : cS I Z F ad i f = .inl (C, n, .inl f)) (f' : Nat → Int32) : cS I Z F ad i f' = .inl (C, n, .inl f') := by
  rw [cS] at h ⊢
  by_cases h1 : cKd i = 1
  · rw [if_pos h1] at h ⊢; cases h; rfl
  · rw [if_neg h1] at h ⊢
    by_cases h2 : cKd i = 2
    · rw [if_pos h2] at h ⊢; cases h; rfl
    · rw [if_neg h2] at h
      by_cases h3 : cKd i = 3
      · rw [if_pos h3] at h; cases h
      · rw [if_neg h3, cOb] at h
        split at h
        · cases h
        · split at h <;> cases h
/-- what the cells are apart from each other and of a kind -/
def cD (ad : Nat → Nat) (A : Nat → Prop) : Prop := (∀ i j : Nat, i < 97 → j < 97 → ad i = ad j → i = j) ∧ ∀ i : Nat, i < 97 → A (ad i)
theorem cD.d {ad : Nat → Nat} {A : Nat → Prop} (h : cD ad A) (E : Nat → va_E) : va_D A (cW ad E) := by
  refine ⟨fun i j x y hx hy hxy => ?_, fun k q hk => ?_⟩
  · obtain ⟨h1, rfl⟩ := cW_of hx
    obtain ⟨h2, rfl⟩ := cW_of hy
    exact h.1 i j h1 h2 hxy
  · obtain ⟨h1, rfl⟩ := cW_of hk
    exact h.2 k h1
/-- which cells a method may change -/
def cA (ad : Nat → Nat) (sz : Nat) : Nat → Prop := fun q => (∃ k : Nat, k < 97 ∧ q = ad k) ∨ sz ≤ q
theorem cA.in {ad : Nat → Nat} {sz k : Nat} (h : k < 97) : cA ad sz (ad k) := Or.inl ⟨k, h, rfl⟩
def cI (ad : Nat → Nat) : Prop := ∀ i j : Nat, i < 97 → j < 97 → ad i = ad j → i = j
theorem cI.d {ad : Nat → Nat} (h : cI ad) (sz : Nat) : cD ad (cA ad sz) := ⟨h, fun _ hk => cA.in hk⟩
/-- the heap holds them -/
def cP (D : va_G) (I Z F : ClassId) (ad : Nat → Nat) (M : Nat → Nat → Int32) (H : Heap) : Prop := va_P D vwCl (cW ad (cE I Z F ad M)) H
abbrev cT (I Z F : ClassId) : List (ClassId × FieldType) := [(I, .int), (Z, .boolean), (F, .object "SharedForks$Fold")]
/-- the words on private members of a nest mate -/
def cNest : List Cond := [
  .methodLinkNest "SharedForks" 21 ⟨"SharedForks$Forks", "<init>", "()V"⟩ "SharedForks",
  .fieldLinkNest "SharedForks" 82 "SharedForks$Forks" "size" "I" "SharedForks",
  .fieldLinkNest "SharedForks" 161 "SharedForks$Forks" "question" "[I" "SharedForks",
  .fieldLinkNest "SharedForks" 173 "SharedForks$Forks" "owners" "[I" "SharedForks",
  .methodLinkNest "SharedForks" 36 ⟨"SharedForks$Fold", "<init>", "()V"⟩ "SharedForks",
  .fieldLinkNest "SharedForks" 68 "SharedForks$Fold" "isKept" "Z" "SharedForks",
  .fieldLinkNest "SharedForks" 41 "SharedForks$Fold" "yes" "[Z" "SharedForks",
  .fieldLinkNest "SharedForks$Forks" 67 "SharedForks$Fold" "size" "I" "SharedForks",
  .fieldLinkNest "SharedForks" 93 "SharedForks$Fold" "size" "I" "SharedForks",
  .fieldLinkNest "SharedForks$Forks" 74 "SharedForks$Fold" "forkAt" "[I" "SharedForks",
  .fieldLinkNest "SharedForks" 158 "SharedForks$Fold" "forkAt" "[I" "SharedForks",
  .fieldLinkNest "SharedForks$Forks" 77 "SharedForks$Fold" "lowAt" "[I" "SharedForks",
  .fieldLinkNest "SharedForks" 164 "SharedForks$Fold" "lowAt" "[I" "SharedForks",
  .fieldLinkNest "SharedForks$Forks" 83 "SharedForks$Fold" "highAt" "[I" "SharedForks",
  .fieldLinkNest "SharedForks" 167 "SharedForks$Fold" "highAt" "[I" "SharedForks",
  .fieldLinkNest "SharedForks$Forks" 86 "SharedForks$Fold" "aheadAt" "[I" "SharedForks",
  .fieldLinkNest "SharedForks" 170 "SharedForks$Fold" "aheadAt" "[I" "SharedForks",
  .methodLinkNest "SharedForks" 113 ⟨"SharedForks$Forks", "startOver", "([I)V"⟩ "SharedForks",
  .methodLinkNest "SharedForks" 117 ⟨"SharedForks$Forks", "lay", "([Z)I"⟩ "SharedForks",
  .methodLinkNest "SharedForks" 144 ⟨"SharedForks$Forks", "putInRow", "(LSharedForks$Fold;I)V"⟩ "SharedForks"]
theorem cNest_in : ∀ w ∈ cNest, w ∈ lw_tbl := by decide +kernel
def cN (U : State) : Prop := ∀ w ∈ cNest, va_Nw w U
theorem cN.warm {s U : State} (hW : s.WarmedH U.vm) (h : cN s) : cN U := by
  intro w hw
  have h1 := h w hw
  simp only [cNest, List.mem_cons, List.not_mem_nil, or_false] at hw
  rcases hw with rfl | rfl | rfl | rfl | rfl | rfl | rfl | rfl | rfl | rfl | rfl | rfl | rfl | rfl | rfl | rfl | rfl | rfl | rfl | rfl <;> first | exact va_Nw.warmF hW h1 | exact va_Nw.warmM hW h1
theorem cN.same {u U : State} (hvm : u.vm = U.vm) (h : cN u) : cN U := by
  intro w hw
  have h1 := h w hw
  simp only [cNest, List.mem_cons, List.not_mem_nil, or_false] at hw
  rcases hw with rfl | rfl | rfl | rfl | rfl | rfl | rfl | rfl | rfl | rfl | rfl | rfl | rfl | rfl | rfl | rfl | rfl | rfl | rfl | rfl <;> exact va_Nw.same rfl hvm h1
theorem cN.of {A : Array Value} {U : State} (hts : ∀ w ∈ lw_tbl, w.before A U = true) : cN U := by
  intro w hw
  have h1 := hts w (cNest_in w hw)
  simp only [cNest, List.mem_cons, List.not_mem_nil, or_false] at hw
  rcases hw with rfl | rfl | rfl | rfl | rfl | rfl | rfl | rfl | rfl | rfl | rfl | rfl | rfl | rfl | rfl | rfl | rfl | rfl | rfl | rfl <;> exact va_Nw.of rfl h1
/-- a method's start -/
def cU (D : va_G) (I Z F : ClassId) (ad : Nat → Nat) (sz : Nat) (M : Nat → Nat → Int32) (U : State) : Prop := U.heap.size = sz ∧ cP D I Z F ad M U.heap ∧ va_K D vwCl (cT I Z F) U ∧ cN U
/-- where a walk stands: the cells, and what has been kept since the start -/
def cB9 (D : va_G) (I Z F : ClassId) (ad : Nat → Nat) (A : Nat → Prop) (H0 : Heap) (M : Nat → Nat → Int32) (H : Heap) (locs : List Loc) : Prop := cP D I Z F ad M H ∧ va_S A H0 H locs
theorem va_S.sub {A : Nat → Prop} {H0 H : Heap} {locs : List Loc} {ad : Nat → Nat} (h : va_S A H0 H locs) (hA : ∀ q, H0.size ≤ q → A q) (hD : cD ad A) : ∀ q, cA ad H.size q → A q := by
  rintro q (⟨k, hk, rfl⟩ | h2)
  · exact hD.2 k hk
  · exact hA q (Nat.le_trans h.1 h2)
end
section
section CROWS
variable {p : Program} {l : Launch} {e : Env} {R : Room} {s : State} {m : MethodId} {args : Array Value} {below : List Frame} {meth : Method} {c : Code} {cc : ByteArray} {H H0 : Heap} {locs : List Loc} {cells slots : Nat} {Q : State → Prop} {pc : Nat} {ls : Array Slot} {rest : List Value} {D : va_G} {A : Nat → Prop} {I Z F : ClassId} {ad : Nat → Nat} {M : Nat → Nat → Int32}
/-- a field of an object among the cells -/
theorem cr_get (hx : p.tables.exec = Jvm.exec) (hb : c.code = cc) {own C d0 n0 : String} {T : u_T} {N ci index : Nat} {Ts : List Cond} (hts : ∀ w ∈ Ts, w.before args s = true) (hin : ∀ w ∈ u_ws C T N, w ∈ Ts) (hown : s.vm.findClass own = some m.cls) (hK : va_K D vwCl (cT I Z F) s) (hW : cB9 D I Z F ad A H0 M H locs) (i : Nat) (hi : i < 97) {fs : List Value} (he : cE I Z F ad M i = .inr (ci, fs)) (hc : vwCl[ci]? = some (C, T, N)) (k : Nat) (hk : k < N) (hT : T k = (C, n0, d0, (T k).2.2.2)) (hlink : Cond.fieldLink own index C n0 d0 ∈ Ts) {v : Value} (hv : fs[k]? = some v) (hdg : decode cc pc = .ok (.getfield index, 3))
    (kk : W p l e R s m args below meth c H locs cells slots Q (F0 m (pc + 3) ls (v :: rest))) : W p l e R s m args below meth c H locs cells slots Q (F0 m pc ls (.ref (ad i) :: rest)) := by
  refine va_get (ref := C) hx hb hts hin hown hK hW.1 i (fs := fs) (by rw [cW_get ad _ hi, he]) hc k hk (by rw [hT]; exact hts _ hlink) (fun x h => by rw [hT] at h ⊢; exact h) hv hdg kk
theorem cr_getN (hx : p.tables.exec = Jvm.exec) (hb : c.code = cc) {own C d0 n0 host : String} {T : u_T} {N ci index : Nat} {Ts : List Cond} (hts : ∀ w ∈ Ts, w.before args s = true) (hin : ∀ w ∈ u_ws C T N, w ∈ Ts) (hown : s.vm.findClass own = some m.cls) (hK : va_K D vwCl (cT I Z F) s) (hW : cB9 D I Z F ad A H0 M H locs) (i : Nat) (hi : i < 97) {fs : List Value} (he : cE I Z F ad M i = .inr (ci, fs)) (hc : vwCl[ci]? = some (C, T, N)) (k : Nat) (hk : k < N) (hT : T k = (C, n0, d0, (T k).2.2.2)) (hN : cN s) (hlink : Cond.fieldLinkNest own index C n0 d0 host ∈ cNest) {v : Value} (hv : fs[k]? = some v) (hdg : decode cc pc = .ok (.getfield index, 3))
    (kk : W p l e R s m args below meth c H locs cells slots Q (F0 m (pc + 3) ls (v :: rest))) : W p l e R s m args below meth c H locs cells slots Q (F0 m pc ls (.ref (ad i) :: rest)) := by
  refine va_getN (ref := C) (host := host) hx hb hts hin hown hK hW.1 i (fs := fs) (by rw [cW_get ad _ hi, he]) hc k hk (by rw [hT]; exact va_Nw.use rfl (hN _ hlink)) (fun x h => by rw [hT] at h ⊢; exact h) hv hdg kk
/-- a place of an int array among the cells -/
theorem cr_iald (hx : p.tables.exec = Jvm.exec) (hb : c.code = cc) (hK : va_K D vwCl (cT I Z F) s) (hW : cB9 D I Z F ad A H0 M H locs) (i : Nat) (hi : i < 97) {n : Nat} {f : Nat → Int32} (he : cE I Z F ad M i = .inl (I, n, .inl f)) (j : Nat) {x : Int32} (hj : j < n) (hn : n < 2 ^ 31) (hxj : x = nI j) (hdg : decode cc pc = .ok (.iaload, 1))
    (kk : W p l e R s m args below meth c H locs cells slots Q (F0 m (pc + 1) ls (.int (f j) :: rest))) : W p l e R s m args below meth c H locs cells slots Q (F0 m pc ls (.int x :: .ref (ad i) :: rest)) := by
  subst hxj
  refine va_iald hx hb hK hW.1 i 0 (by rw [cW_get ad _ hi, he]) rfl (vp_in_nI hj hn) hdg ?_
  rw [nI_clamp (Nat.lt_trans hj hn)]
  exact kk
theorem cr_zald (hx : p.tables.exec = Jvm.exec) (hb : c.code = cc) (hK : va_K D vwCl (cT I Z F) s) (hW : cB9 D I Z F ad A H0 M H locs) (i : Nat) (hi : i < 97) {n : Nat} {f : Nat → Int32} (he : cE I Z F ad M i = .inl (Z, n, .inl f)) (j : Nat) {x : Int32} (hj : j < n) (hn : n < 2 ^ 31) (hxj : x = nI j) (hdg : decode cc pc = .ok (.baload, 1))
    (kk : W p l e R s m args below meth c H locs cells slots Q (F0 m (pc + 1) ls (.int (f j) :: rest))) : W p l e R s m args below meth c H locs cells slots Q (F0 m pc ls (.int x :: .ref (ad i) :: rest)) := by
  subst hxj
  refine va_zald hx hb hK hW.1 i 1 (by rw [cW_get ad _ hi, he]) rfl (vp_in_nI hj hn) hdg ?_
  rw [nI_clamp (Nat.lt_trans hj hn)]
  exact kk
/-- a fold out of the row of folds -/
theorem cr_fald (hx : p.tables.exec = Jvm.exec) (hb : c.code = cc) (hK : va_K D vwCl (cT I Z F) s) (hW : cB9 D I Z F ad A H0 M H locs) (j : Nat) {x : Int32} (hj : j < 12) (hxj : x = nI j) (hdg : decode cc pc = .ok (.aaload, 1))
    (kk : W p l e R s m args below meth c H locs cells slots Q (F0 m (pc + 1) ls (.ref (ad (25 + 6 * j)) :: rest))) : W p l e R s m args below meth c H locs cells slots Q (F0 m pc ls (.int x :: .ref (ad 1) :: rest)) := by
  subst hxj
  refine va_aldq hx hb hK hW.1 1 2 (by rw [cW_get ad _ (by decide), cE_folds]) rfl (vp_in_nI hj (by decide)) hdg ?_
  rw [nI_clamp (by omega)]
  exact kk
theorem cB9.setA {i n : Nat} {C : ClassId} {x : Int32} {H1 : Heap} {locs1 : List Loc} {j : Nat} (he : cE I Z F ad M i = .inl (C, n, .inl (M i))) (hP : va_P D vwCl ((cW ad (cE I Z F ad M)).set i (ad i, .inl (C, n, .inl (upd (M i) j x)))) H1) (hS : va_S A H0 H1 locs1) : cB9 D I Z F ad A H0 (mst M i j x) H1 locs1 := by
  refine ⟨?_, hS⟩
  show va_P D vwCl (cW ad (cE I Z F ad (mst M i j x))) H1
  rw [mst_row, ← cE_row, ← cW_set, cS_arr (show cS I Z F ad i (M i) = _ from he) (upd (M i) j x)]
  exact hP
theorem cr_iast (hx : p.tables.exec = Jvm.exec) (hb : c.code = cc) (hK : va_K D vwCl (cT I Z F) s) (hDa : cD ad A) (hW : cB9 D I Z F ad A H0 M H locs) (i : Nat) (hi : i < 97) {n : Nat} (he : cE I Z F ad M i = .inl (I, n, .inl (M i))) (j : Nat) {y x : Int32} (hj : j < n) (hn : n < 2 ^ 31) (hyj : y = nI j) (hdg : decode cc pc = .ok (.iastore, 1))
    (kk : ∀ (H1 : Heap) (locs1 : List Loc), cB9 D I Z F ad A H0 (mst M i j x) H1 locs1 → W p l e R s m args below meth c H1 locs1 cells slots Q (F0 m (pc + 1) ls rest)) : W p l e R s m args below meth c H locs cells slots Q (F0 m pc ls (.int x :: .int y :: .ref (ad i) :: rest)) := by
  subst hyj
  refine va_iast hx hb hK hW.1 (hDa.d _) hW.2 i 0 (by rw [cW_get ad _ hi, he]) rfl (vp_in_nI hj hn) hdg fun H1 locs1 hP _ hS => ?_
  rw [nI_clamp (Nat.lt_trans hj hn)] at hP
  exact kk H1 locs1 (cB9.setA he hP hS)
theorem vp_narZ {x : Int32} (h : x = 0 ∨ x = 1) : vp_nar .boolean x = x := by rcases h with rfl | rfl <;> decide
theorem cr_zast (hx : p.tables.exec = Jvm.exec) (hb : c.code = cc) (hK : va_K D vwCl (cT I Z F) s) (hDa : cD ad A) (hW : cB9 D I Z F ad A H0 M H locs) (i : Nat) (hi : i < 97) {n : Nat} (he : cE I Z F ad M i = .inl (Z, n, .inl (M i))) (j : Nat) {y x : Int32} (hj : j < n) (hn : n < 2 ^ 31) (hyj : y = nI j) (h01 : x = 0 ∨ x = 1) (hdg : decode cc pc = .ok (.bastore, 1))
    (kk : ∀ (H1 : Heap) (locs1 : List Loc), cB9 D I Z F ad A H0 (mst M i j x) H1 locs1 → W p l e R s m args below meth c H1 locs1 cells slots Q (F0 m (pc + 1) ls rest)) : W p l e R s m args below meth c H locs cells slots Q (F0 m pc ls (.int x :: .int y :: .ref (ad i) :: rest)) := by
  subst hyj
  refine va_zast hx hb hK hW.1 (hDa.d _) hW.2 i 1 (by rw [cW_get ad _ hi, he]) rfl (vp_in_nI hj hn) hdg fun H1 locs1 hP _ hS => ?_
  rw [nI_clamp (Nat.lt_trans hj hn), vp_narZ h01] at hP
  exact kk H1 locs1 (cB9.setA he hP hS)
/-- an int field of an object among the cells; he': the same object with the new field is the cell of the new row -/
theorem cr_put (hx : p.tables.exec = Jvm.exec) (hb : c.code = cc) {own C d0 n0 : String} {T : u_T} {N ci index : Nat} {Ts : List Cond} (hts : ∀ w ∈ Ts, w.before args s = true) (hin : ∀ w ∈ u_ws C T N, w ∈ Ts) (ty0 : Nat → FieldType) (hty : ∀ k, k < N → parseFieldDescriptor (T k).2.2.1 = some (ty0 k)) (hnm : ∀ a, a < N → ∀ b, b < N → a ≠ b → (T a).2.1 ≠ (T b).2.1) (hown : s.vm.findClass own = some m.cls) (hK : va_K D vwCl (cT I Z F) s) (hDa : cD ad A) (hW : cB9 D I Z F ad A H0 M H locs) (i : Nat) (hi : i < 97) {fs : List Value} (he : cE I Z F ad M i = .inr (ci, fs)) (hc : vwCl[ci]? = some (C, T, N)) (k : Nat) (hk : k < N) (hT : T k = (C, n0, d0, false)) (hlink : Cond.fieldLink own index C n0 d0 ∈ Ts) {ty : FieldType} {x : Int32} (hd : parseFieldDescriptor d0 = some ty) (hn : narrow ty (.int x) = .int x) (hfit : fits ty (.int x) = true) (hl : k < fs.length) (he' : cS I Z F ad i (upd (M i) k x) = .inr (ci, fs.set k (.int x))) (hdg : decode cc pc = .ok (.putfield index, 3))
    (kk : ∀ (H1 : Heap) (locs1 : List Loc), cB9 D I Z F ad A H0 (mst M i k x) H1 locs1 → W p l e R s m args below meth c H1 locs1 cells slots Q (F0 m (pc + 3) ls rest)) : W p l e R s m args below meth c H locs cells slots Q (F0 m pc ls (.int x :: .ref (ad i) :: rest)) := by
  refine va_put (ref := C) (ty := ty) hx hb hts hin ty0 hty hnm hown hK hW.1 (hDa.d _) hW.2 i (fs := fs) (by rw [cW_get ad _ hi, he]) hc k hk (by rw [hT]; exact hts _ hlink) (fun x h => by rw [hT] at h ⊢; exact h) (by rw [hT]) (by rw [hT]; exact hd) hn hfit hl hdg fun H1 locs1 hP _ hS => ?_
  refine kk H1 locs1 ⟨?_, hS⟩
  show va_P D vwCl (cW ad (cE I Z F ad (mst M i k x))) H1
  rw [mst_row, ← cE_row, ← cW_set, he']
  exact hP
theorem cr_putN (hx : p.tables.exec = Jvm.exec) (hb : c.code = cc) {own C d0 n0 host : String} {T : u_T} {N ci index : Nat} {Ts : List Cond} (hts : ∀ w ∈ Ts, w.before args s = true) (hin : ∀ w ∈ u_ws C T N, w ∈ Ts) (ty0 : Nat → FieldType) (hty : ∀ k, k < N → parseFieldDescriptor (T k).2.2.1 = some (ty0 k)) (hnm : ∀ a, a < N → ∀ b, b < N → a ≠ b → (T a).2.1 ≠ (T b).2.1) (hown : s.vm.findClass own = some m.cls) (hK : va_K D vwCl (cT I Z F) s) (hDa : cD ad A) (hW : cB9 D I Z F ad A H0 M H locs) (i : Nat) (hi : i < 97) {fs : List Value} (he : cE I Z F ad M i = .inr (ci, fs)) (hc : vwCl[ci]? = some (C, T, N)) (k : Nat) (hk : k < N) (hT : T k = (C, n0, d0, false)) (hN : cN s) (hlink : Cond.fieldLinkNest own index C n0 d0 host ∈ cNest) {ty : FieldType} {x : Int32} (hd : parseFieldDescriptor d0 = some ty) (hn : narrow ty (.int x) = .int x) (hfit : fits ty (.int x) = true) (hl : k < fs.length) (he' : cS I Z F ad i (upd (M i) k x) = .inr (ci, fs.set k (.int x))) (hdg : decode cc pc = .ok (.putfield index, 3))
    (kk : ∀ (H1 : Heap) (locs1 : List Loc), cB9 D I Z F ad A H0 (mst M i k x) H1 locs1 → W p l e R s m args below meth c H1 locs1 cells slots Q (F0 m (pc + 3) ls rest)) : W p l e R s m args below meth c H locs cells slots Q (F0 m pc ls (.int x :: .ref (ad i) :: rest)) := by
  refine va_putN (ref := C) (host := host) (ty := ty) hx hb hts hin ty0 hty hnm hown hK hW.1 (hDa.d _) hW.2 i (fs := fs) (by rw [cW_get ad _ hi, he]) hc k hk (by rw [hT]; exact va_Nw.use rfl (hN _ hlink)) (fun x h => by rw [hT] at h ⊢; exact h) (by rw [hT]) (by rw [hT]; exact hd) hn hfit hl hdg fun H1 locs1 hP _ hS => ?_
  refine kk H1 locs1 ⟨?_, hS⟩
  show va_P D vwCl (cW ad (cE I Z F ad (mst M i k x))) H1
  rw [mst_row, ← cE_row, ← cW_set, he']
  exact hP
theorem cS_f0p {g : Nat} (hg : g = 3 ∨ g = 15) (f : Nat → Int32) (x : Int32) : cS I Z F ad g (upd f 0 x) = .inr (1, [.int x, .ref (ad (g + 1)), .ref (ad (g + 2)), .ref (ad (g + 3)), .ref (ad (g + 4)), .ref (ad (g + 5)), .ref (ad (g + 6)), .ref (ad (g + 7)), .ref (ad (g + 8)), .ref (ad (g + 9))]) := by rcases hg with rfl | rfl <;> rfl
theorem cS_d0p0 (k : Nat) (f : Nat → Int32) (x : Int32) : cS I Z F ad (25 + 6 * k) (upd f 0 x) = .inr (0, [.int x, .ref (ad (25 + 6 * k + 1)), .int (f 2), .ref (ad (25 + 6 * k + 2)), .ref (ad (25 + 6 * k + 3)), .ref (ad (25 + 6 * k + 4)), .ref (ad (25 + 6 * k + 5))]) := by rw [cS_0]; rfl
theorem cS_d0p2 (k : Nat) (f : Nat → Int32) (x : Int32) : cS I Z F ad (25 + 6 * k) (upd f 2 x) = .inr (0, [.int (f 0), .ref (ad (25 + 6 * k + 1)), .int x, .ref (ad (25 + 6 * k + 2)), .ref (ad (25 + 6 * k + 3)), .ref (ad (25 + 6 * k + 4)), .ref (ad (25 + 6 * k + 5))]) := by rw [cS_0]; rfl
end CROWS
end
section
section CCALLS
variable {p : Program} {l : Launch} {e : Env} {R : Room} {s : State} {m : MethodId} {args : Array Value} {below : List Frame} {meth : Method} {c : Code} {cc : ByteArray} {H H0 : Heap} {locs : List Loc} {cells slots : Nat} {Q : State → Prop} {pc : Nat} {ls : Array Slot} {rest st0 : List Value} {D : va_G} {A : Nat → Prop} {I Z F : ClassId} {ad : Nat → Nat} {M : Nat → Nat → Int32} {a : Array Value}
theorem cU_blind {av : List Value} {sz : Nat} : FrameBlind (va_Pc av (cU D I Z F ad sz M)) := by
  rintro a U g mk ⟨h1, h2, h3, h4, h5⟩
  exact ⟨h1, h2, h3, va_K.moved (u := U) (U := U.calling g mk a) (Vm.Alike.refl U.vm) h4, cN.same (u := U) (U := U.calling g mk a) rfl h5⟩
theorem cU_mk {av : List Value} (hK : va_K D vwCl (cT I Z F) s) (hN : cN s) (hW : cB9 D I Z F ad A H0 M H locs) : ∀ U : State, U.heap = H → s.WarmedH U.vm → va_Pc av (cU D I Z F ad H.size M) av.toArray U :=
  fun U hU hW1 => ⟨rfl, by rw [hU], by rw [hU]; exact hW.1, va_K.moved hW1.alike hK, cN.warm hW1 hN⟩
theorem cr_recv (hK : va_K D vwCl (cT I Z F) s) (hW : cB9 D I Z F ad A H0 M H locs) (i : Nat) (hi : i < 97) {ci : Nat} {fs : List Value} {C : String} {T : u_T} {N : Nat} (he : cE I Z F ad M i = .inr (ci, fs)) (hc : vwCl[ci]? = some (C, T, N)) : ∃ cell : Cell, H[ad i]? = some cell ∧ cell.vm.isStatics = false ∧ s.vm.findClass C = some cell.cls :=
  va_recv hK hW.1 hc (by rw [cW_get ad _ hi, he])
theorem cr_preV {av : List Value} (hK : va_K D vwCl (cT I Z F) s) (hN : cN s) (hW : cB9 D I Z F ad A H0 M H locs) (i : Nat) (hi : i < 97) {ci : Nat} {fs : List Value} {C : String} {T : u_T} {N : Nat} (he : cE I Z F ad M i = .inr (ci, fs)) (hc : vwCl[ci]? = some (C, T, N)) : PreV s H C (ad i) (va_Pc (.ref (ad i) :: av) (cU D I Z F ad H.size M)) av :=
  ⟨cU_blind, cr_recv hK hW i hi he hc, cU_mk hK hN hW⟩
theorem cr_preS {av : List Value} (hK : va_K D vwCl (cT I Z F) s) (hN : cN s) (hW : cB9 D I Z F ad A H0 M H locs) : PreS s H (va_Pc av (cU D I Z F ad H.size M)) av := ⟨cU_blind, cU_mk hK hN hW⟩
theorem cr_calli {post : Int32 → (Nat → Nat → Int32) → Prop} (hr : va_Run p l e R s m args below meth c H locs cells slots 0 0 (F0 m pc ls st0) rest (va_Qi post (fun u t => cP D I Z F ad u t.heap) (cA ad H.size) a) (cA ad H.size)) (hA : ∀ q : Nat, H0.size ≤ q → A q) (hDa : cD ad A) (hW : cB9 D I Z F ad A H0 M H locs)
    (kk : ∀ (r : Int32) (u : Nat → Nat → Int32) (H1 : Heap) (locs1 : List Loc), post r u → cB9 D I Z F ad A H0 u H1 locs1 → W p l e R s m args below meth c H1 locs1 cells slots Q (F0 m (pc + 3) ls (.int r :: rest))) : W p l e R s m args below meth c H locs cells slots Q (F0 m pc ls st0) :=
  va_calli hr hW.2 (fun q _ h => hW.2.sub hA hDa q h) (hW.2.sub hA hDa) (fun r u t H1 locs1 ht _ hp hB _ _ hS => kk r u H1 locs1 hp ⟨by rw [← ht]; exact hB, hS⟩)
theorem cr_callv {post : (Nat → Nat → Int32) → Prop} (hr : va_Run p l e R s m args below meth c H locs cells slots 0 0 (F0 m pc ls st0) rest (va_Qv post (fun u t => cP D I Z F ad u t.heap) (cA ad H.size) a) (cA ad H.size)) (hA : ∀ q : Nat, H0.size ≤ q → A q) (hDa : cD ad A) (hW : cB9 D I Z F ad A H0 M H locs)
    (kk : ∀ (u : Nat → Nat → Int32) (H1 : Heap) (locs1 : List Loc), post u → cB9 D I Z F ad A H0 u H1 locs1 → W p l e R s m args below meth c H1 locs1 cells slots Q (F0 m (pc + 3) ls rest)) : W p l e R s m args below meth c H locs cells slots Q (F0 m pc ls st0) :=
  va_callv hr hW.2 (fun q _ h => hW.2.sub hA hDa q h) (hW.2.sub hA hDa) (fun u t H1 locs1 ht _ hp hB _ _ hS => kk u H1 locs1 hp ⟨by rw [← ht]; exact hB, hS⟩)
theorem cE_arr {i n : Nat} {C : ClassId} (he : cE I Z F ad M i = .inl (C, n, .inl (M i))) (M' : Nat → Nat → Int32) : cE I Z F ad M' i = .inl (C, n, .inl (M' i)) := cS_arr he (M' i)
/-- the length of an array among the cells -/
theorem cr_alenI (hx : p.tables.exec = Jvm.exec) (hb : c.code = cc) (hK : va_K D vwCl (cT I Z F) s) (hW : cB9 D I Z F ad A H0 M H locs) (i : Nat) (hi : i < 97) {n : Nat} {f : Nat → Int32} (he : cE I Z F ad M i = .inl (I, n, .inl f)) (hdg : decode cc pc = .ok (.arraylength, 1))
    (kk : W p l e R s m args below meth c H locs cells slots Q (F0 m (pc + 1) ls (.int (nI n) :: rest))) : W p l e R s m args below meth c H locs cells slots Q (F0 m pc ls (.ref (ad i) :: rest)) :=
  va_alen (x := (n, .inl f)) hx hb hK hW.1 i 0 (ty := .int) (by rw [cW_get ad _ hi, he]) rfl rfl hdg kk
/-- System.arraycopy between two int arrays among the cells, from their starts -/
theorem cr_copy (hx : p.tables.exec = Jvm.exec) (hb : c.code = cc) (hml : c.maxLocals = ls.size) {own : String} {index : Nat} {Ts : List Cond} (hts : ∀ w ∈ Ts, w.before args s = true) (hown : s.vm.findClass own = some m.cls) (hlink : Cond.methodLink own index arraycopyName ∈ Ts) (hnat : Cond.native arraycopyName ∈ Ts) (hstat : Cond.static arraycopyName ∈ Ts) (hini : Cond.initialized "java/lang/System" ∈ Ts)
    (hK : va_K D vwCl (cT I Z F) s) (hDa : cD ad A) (hW : cB9 D I Z F ad A H0 M H locs) (i j : Nat) (hi : i < 97) (hj : j < 97) {n0 n1 : Nat} (hei : cE I Z F ad M i = .inl (I, n0, .inl (M i))) (hej : cE I Z F ad M j = .inl (I, n1, .inl (M j))) (n : Nat) {x : Int32} (hxn : x = nI n) (hn : n < 2 ^ 31) (h0 : n ≤ n0) (h1 : n ≤ n1)
    (hframes : 1 ≤ R.frames) (hlocals : (rest.map fun v => v.category).sum + (nativeFrameWords "java/lang/System" "arraycopy" 5 + 11) ≤ R.locals) (hdg : decode cc pc = .ok (.invokestatic index, 3))
    (kk : ∀ (H1 : Heap) (locs1 : List Loc), cB9 D I Z F ad A H0 (mrow M j (va_cpy (M i) (M j) 0 0 n)) H1 locs1 → W p l e R s m args below meth c H1 locs1 cells slots Q (F0 m (pc + 3) ls rest)) : W p l e R s m args below meth c H locs cells slots Q (F0 m pc ls (.int x :: .int 0 :: .ref (ad j) :: .int 0 :: .ref (ad i) :: rest)) := by
  subst hxn
  have z0 : (0 : Int32).toNatClampNeg = 0 := rfl
  refine va_copyi hx hb hml hown (hts _ hlink) (hts _ hnat) (hts _ hstat) (hts _ hini) hK hW.1 (hDa.d _) hW.2 i j 0 0 (ty := .int) (by rw [cW_get ad _ hi, hei]) (by rw [cW_get ad _ hj, hej]) rfl rfl rfl (by decide) (by decide) (nI_pos hn) (by rw [nI_clamp hn, z0]; omega) (by rw [nI_clamp hn, z0]; omega) (fun _ _ => rfl) hframes hlocals hdg fun H1 locs1 hP _ hS => ?_
  rw [nI_clamp hn, z0] at hP
  refine kk H1 locs1 ⟨?_, hS⟩
  show va_P D vwCl (cW ad (cE I Z F ad (mrow M j _))) H1
  rw [← cE_row, ← cW_set, cS_arr (show cS I Z F ad j (M j) = _ from hej) (va_cpy (M i) (M j) 0 0 n)]
  exact hP
end CCALLS
end
section
section CMET
variable {l : Launch} {D : va_G} {I Z F : ClassId} {ad : Nat → Nat} {M : Nat → Nat → Int32} {sz : Nat} {y : MethodName} {ws ws' : List Cond} {rm : Room} {cc : ByteArray} {maxL : Nat} {av : List Value}
/-- what stands at a method's entry and stays: the machine, the code, its words, its class, the cells' classes -/
def cX (p : Program) (s : State) (m : MethodId) (meth : Method) (c : Code) (args : Array Value) (av : List Value) (D : va_G) (I Z F : ClassId) (ad : Nat → Nat) (A : Nat → Prop) (ws : List Cond) (C : String) (cc : ByteArray) (maxL : Nat) : Prop :=
  p.tables.exec = Jvm.exec ∧ c.code = cc ∧ c.maxLocals = maxL ∧ (∀ w ∈ ws, w.before args s = true) ∧ s.vm.findClass C = some m.cls ∧ meth.locks = false ∧ va_K D vwCl (cT I Z F) s ∧ cN s ∧ cD ad A ∧ (∀ q : Nat, s.heap.size ≤ q → A q) ∧ args = av.toArray
theorem cMet_i {post : Int32 → (Nat → Nat → Int32) → Prop} (hI : cI ad) (hy : plainName y.cls = true) (hw : ws = Cond.code y cc maxL (some .int) :: ws') (hrm : rm.cells = 0 ∧ rm.slots = 0) (C : String) (hC : y.cls = C) (hle : (lg_sl av).length ≤ maxL) {lv : List (Nat × Value)} (hlv : lv_args 0 av = lv)
    (body : ∀ (p : Program) (e : Env) (s : State) (m : MethodId) (args : Array Value) (below : List Frame) (meth : Method) (c : Code) (Q : State → Prop) (A : Nat → Prop) (ls : Array Slot), s.heap.size = sz → cX p s m meth c args av D I Z F ad A ws C cc maxL → cB9 D I Z F ad A s.heap M s.heap [] → lv_has ls maxL lv →
      (∀ (pc : Nat) (ls : Array Slot) (H : Heap) (locs : List Loc) (r : Int32) (u : Nat → Nat → Int32), decode cc pc = .ok (.ireturn, 1) → post r u → cB9 D I Z F ad A s.heap u H locs → W p l e rm s m args below meth c H locs 0 0 Q (F0 m pc ls [.int r])) →
      W p l e rm s m args below meth c s.heap [] 0 0 Q (F0 m 0 ls [])) :
    Met l y ws rm (va_Pc av (cU D I Z F ad sz M)) (va_Qi post (fun u t => cP D I Z F ad u t.heap) (cA ad sz)) 0 0 (cA ad sz) := by
  refine Met.ofW (cc := cc) (maxL := maxL) (ret := (some .int)) hy hw ?_
  intro p e s m args below meth c s₁ B hml hv
  obtain ⟨hargs, hsz, hP, hK, hN⟩ := hv
  have hown : s.vm.findClass C = some m.cls := by rw [← hC]; exact findClass_of_methodNamed B.named
  have hl := lv_entry av (n := maxL) hle
  rw [hlv] at hl
  have he : entryFrame m args maxL = F0 m 0 ((lg_sl av ++ List.replicate (maxL - (lg_sl av).length) Slot.unset).toArray) [] := by rw [hargs]; exact lg_entry_eq m av maxL
  rw [he]
  refine body p e s m args below meth c _ (cA ad s.heap.size) _ hsz ⟨B.exec, B.bytes, hml, atoms_spec (ws := ws) B.pre, hown, B.notSynchronized, hK, hN, hI.d s.heap.size, fun q h => Or.inr h, hargs⟩ ⟨hP, va_S.rf⟩ hl (fun pc ls H locs r u hd hp hW => ?_)
  rw [← hsz]
  exact W.iret (v := r) B.exec B.bytes B.returns (fun t ht _ => ⟨⟨r, u, rfl, hp, by show cP D I Z F ad u t.heap; rw [ht]; exact hW.1⟩, hW.2.F ht⟩) hW.2.2.2 hd
theorem cMet_v {post : (Nat → Nat → Int32) → Prop} (hI : cI ad) (hy : plainName y.cls = true) (hw : ws = Cond.code y cc maxL none :: ws') (hrm : rm.cells = 0 ∧ rm.slots = 0) (C : String) (hC : y.cls = C) (hle : (lg_sl av).length ≤ maxL) {lv : List (Nat × Value)} (hlv : lv_args 0 av = lv)
    (body : ∀ (p : Program) (e : Env) (s : State) (m : MethodId) (args : Array Value) (below : List Frame) (meth : Method) (c : Code) (Q : State → Prop) (A : Nat → Prop) (ls : Array Slot), s.heap.size = sz → cX p s m meth c args av D I Z F ad A ws C cc maxL → cB9 D I Z F ad A s.heap M s.heap [] → lv_has ls maxL lv →
      (∀ (pc : Nat) (ls : Array Slot) (H : Heap) (locs : List Loc) (u : Nat → Nat → Int32), decode cc pc = .ok (.return_, 1) → post u → cB9 D I Z F ad A s.heap u H locs → W p l e rm s m args below meth c H locs 0 0 Q (F0 m pc ls [])) →
      W p l e rm s m args below meth c s.heap [] 0 0 Q (F0 m 0 ls [])) :
    Met l y ws rm (va_Pc av (cU D I Z F ad sz M)) (va_Qv post (fun u t => cP D I Z F ad u t.heap) (cA ad sz)) 0 0 (cA ad sz) := by
  refine Met.ofW (cc := cc) (maxL := maxL) (ret := none) hy hw ?_
  intro p e s m args below meth c s₁ B hml hv
  obtain ⟨hargs, hsz, hP, hK, hN⟩ := hv
  have hown : s.vm.findClass C = some m.cls := by rw [← hC]; exact findClass_of_methodNamed B.named
  have hl := lv_entry av (n := maxL) hle
  rw [hlv] at hl
  have he : entryFrame m args maxL = F0 m 0 ((lg_sl av ++ List.replicate (maxL - (lg_sl av).length) Slot.unset).toArray) [] := by rw [hargs]; exact lg_entry_eq m av maxL
  rw [he]
  refine body p e s m args below meth c _ (cA ad s.heap.size) _ hsz ⟨B.exec, B.bytes, hml, atoms_spec (ws := ws) B.pre, hown, B.notSynchronized, hK, hN, hI.d s.heap.size, fun q h => Or.inr h, hargs⟩ ⟨hP, va_S.rf⟩ hl (fun pc ls H locs u hd hp hW => ?_)
  rw [← hsz]
  exact W.vret B.exec B.bytes B.returns (fun t ht _ => ⟨⟨u, rfl, hp, by show cP D I Z F ad u t.heap; rw [ht]; exact hW.1⟩, hW.2.F ht⟩) hW.2.2.2 hd
end CMET
end
section
/-- a row whose first k places hold v -/
def flF (v : Int32) (k : Nat) (f : Nat → Int32) : Nat → Int32 := fun j => if j < k then v else f j
theorem flF_0 (v : Int32) (f : Nat → Int32) : flF v 0 f = f := by funext j; simp [flF]
theorem flF_s (v : Int32) (k : Nat) (f : Nat → Int32) : upd (flF v k f) k v = flF v (k + 1) f := by
  funext j
  by_cases h : j = k
  · subst h; rw [pk_us]; simp [flF]
  · rw [pk_un h]; simp only [flF]; by_cases h2 : j < k
    · rw [if_pos h2, if_pos (by omega)]
    · rw [if_neg h2, if_neg (by omega)]
theorem mrow_id (M : Nat → Nat → Int32) (i : Nat) : mrow M i (M i) = M := by
  funext a; by_cases h : a = i
  · subst h; rw [mrow_same]
  · rw [mrow_ne h]
theorem mst_mrow (M : Nat → Nat → Int32) (i j : Nat) (f : Nat → Int32) (x : Int32) : mst (mrow M i f) i j x = mrow M i (upd f j x) := by
  funext a; by_cases h : a = i
  · subst h; rw [mst_same, mrow_same, mrow_same]
  · rw [mst_ne h, mrow_ne h, mrow_ne h]
abbrev rm_fill : Room := { frames := 0, cells := 0, slots := 0, locals := 0 }
set_option maxHeartbeats 4000000 in
set_option maxRecDepth 100000 in
/-- Arrays.fill of an int array among the cells -/
theorem c_fill (l : Launch) (D : va_G) (I Z F : ClassId) (ad : Nat → Nat) (hI : cI ad) (M : Nat → Nat → Int32) (sz : Nat) (i n : Nat) (hi : i < 97) (hn : n < 2 ^ 31) (he : cE I Z F ad M i = .inl (I, n, .inl (M i))) (v : Int32) : Met l yJ7_fill_53178 wsJ7_fill_53178 rm_fill (va_Pc [.ref (ad i), .int v] (cU D I Z F ad sz M)) (va_Qv (fun (u : Nat → Nat → Int32) => u = mrow M i (flF v n (M i))) (fun u t => cP D I Z F ad u t.heap) (cA ad sz)) 0 0 (cA ad sz) := by
  refine cMet_v (cc := cJ7_fill_53178) (maxL := 4) hI (by decide) rfl ⟨rfl, rfl⟩ RJ7 rfl (Nat.le_of_ble_eq_true rfl) (lv := [(0, .ref (ad i)), (1, .int v)]) rfl ?_
  intro p e s m args below meth c Q A ls hsz C0 hW hl hret
  obtain ⟨hx, hb, hml, hts, hown, hlocks, hK, hN, hDa, hA, hargs⟩ := C0
  refine lv_iconst (v := 0) hx hb dJ7_fill_53178_0 (by decide) ?_
  refine lv_istore_n (lv' := [(2, .int 0), (0, .ref (ad i)), (1, .int v)]) hx hb dJ7_fill_53178_1 rfl hl (by decide) rfl (fun ls hl => ?_)
  refine lv_aload_n hx hb dJ7_fill_53178_2 rfl (lv_at hl 1 rfl) ?_
  refine cr_alenI hx hb hK hW i hi he dJ7_fill_53178_3 ?_
  refine lv_istore_n (lv' := [(3, .int (nI n)), (2, .int 0), (0, .ref (ad i)), (1, .int v)]) hx hb dJ7_fill_53178_4 rfl hl (by decide) rfl (fun ls hl => ?_)
  have loop : ∀ k r : Nat, k + r = n → ∀ (ls : Array Slot) (H : Heap) (locs : List Loc), lv_has ls 4 [(3, .int (nI n)), (2, .int (nI k)), (0, .ref (ad i)), (1, .int v)] → cB9 D I Z F ad A s.heap (mrow M i (flF v k (M i))) H locs → W p l e rm_fill s m args below meth c H locs 0 0 Q (F0 m 5 ls []) := by
    intro k r
    induction r generalizing k with
    | zero =>
      intro hk ls H locs hl hW
      refine lv_iload_n hx hb dJ7_fill_53178_5 rfl (lv_at hl 1 rfl) ?_
      refine lv_iload_n hx hb dJ7_fill_53178_6 rfl (lv_at hl 0 rfl) ?_
      refine lv_icmp_ge (tgt := 20) hx hb dJ7_fill_53178_7 (by decide) (fun c1 => ?_) (fun c1 => ?_)
      · obtain rfl : k = n := by omega
        exact hret 20 ls H locs _ dJ7_fill_53178_20 rfl hW
      · exact absurd (nI_le (by omega) (by omega)) c1
    | succ r ih =>
      intro hk ls H locs hl hW
      refine lv_iload_n hx hb dJ7_fill_53178_5 rfl (lv_at hl 1 rfl) ?_
      refine lv_iload_n hx hb dJ7_fill_53178_6 rfl (lv_at hl 0 rfl) ?_
      refine lv_icmp_ge (tgt := 20) hx hb dJ7_fill_53178_7 (by decide) (fun c1 => ?_) (fun c1 => ?_)
      · exact absurd c1 (nI_ge (by omega) hn)
      · skip
        refine lv_aload_n hx hb dJ7_fill_53178_10 rfl (lv_at hl 2 rfl) ?_
        refine lv_iload_n hx hb dJ7_fill_53178_11 rfl (lv_at hl 1 rfl) ?_
        refine lv_iload_n hx hb dJ7_fill_53178_12 rfl (lv_at hl 3 rfl) ?_
        refine cr_iast hx hb hK hDa hW i hi (cE_arr he _) k (by omega) hn rfl dJ7_fill_53178_13 (fun H locs hW => ?_)
        rw [mst_mrow, flF_s] at hW
        refine lv_iinc (v := nI (k + 1)) (lv' := [(2, .int (nI (k + 1))), (3, .int (nI n)), (0, .ref (ad i)), (1, .int v)]) hx hb dJ7_fill_53178_14 hl (k := 1) rfl (nI_1 k) (by decide) rfl (fun ls hl => ?_)
        refine lv_goto (tgt := 5) hx hb dJ7_fill_53178_17 (by decide) ?_
        exact ih (k + 1) (by omega) ls H locs (lv_sub hl [1, 0, 2, 3] rfl) hW
  exact loop 0 n (by omega) ls _ _ (lv_sub hl [0, 1, 2, 3] rfl) (by rw [flF_0, mrow_id]; exact hW)

def aoL (f : Nat → Int32) (way : Int32) : Nat → Int32
  | 0 => 0
  | k + 1 => aoL f way k ||| ((way >>> ((7 - nI k) &&& 31) &&& 1) <<< (f k &&& 31))
def aoF (f : Nat → Int32) (way : Int32) : Int32 := aoL f way 8 &&& 255
abbrev rm_answersOf : Room := { frames := 0, cells := 0, slots := 0, locals := 0 }
set_option maxHeartbeats 4000000 in
set_option maxRecDepth 100000 in
/-- the answers of a way -/
theorem c_answersOf (l : Launch) (D : va_G) (I Z F : ClassId) (ad : Nat → Nat) (hI : cI ad) (M : Nat → Nat → Int32) (sz : Nat) (g : Nat) (hg : g = 3 ∨ g = 15) (way : Int32) : Met l yX1_answersOf wsX1_answersOf rm_answersOf (va_Pc [.ref (ad g), .int way] (cU D I Z F ad sz M)) (va_Qi (fun (r : Int32) (u : Nat → Nat → Int32) => r = aoF (M (g + 6)) way ∧ u = M) (fun u t => cP D I Z F ad u t.heap) (cA ad sz)) 0 0 (cA ad sz) := by
  refine cMet_i (cc := cX1_answersOf) (maxL := 5) hI (by decide) rfl ⟨rfl, rfl⟩ RX1 rfl (Nat.le_of_ble_eq_true rfl) (lv := [(0, .ref (ad g)), (1, .int way)]) rfl ?_
  intro p e s m args below meth c Q A ls hsz C0 hW hl hret
  obtain ⟨hx, hb, hml, hts, hown, hlocks, hK, hN, hDa, hA, hargs⟩ := C0
  have hin1 : ∀ w ∈ u_ws RX1 TX1 10, w ∈ wsX1_answersOf := by decide +kernel
  have hgl : g < 16 := by omega
  refine lv_iconst (v := 0) hx hb dX1_answersOf_0 (by decide) ?_
  refine lv_istore_n (lv' := [(2, .int 0), (0, .ref (ad g)), (1, .int way)]) hx hb dX1_answersOf_1 rfl hl (by decide) rfl (fun ls hl => ?_)
  refine lv_iconst (v := 0) hx hb dX1_answersOf_2 (by decide) ?_
  refine lv_istore_n (lv' := [(3, .int 0), (2, .int 0), (0, .ref (ad g)), (1, .int way)]) hx hb dX1_answersOf_3 rfl hl (by decide) rfl (fun ls hl => ?_)
  have loop : ∀ r k : Nat, k + r = 8 → ∀ (ls : Array Slot), lv_has ls 5 [(3, .int (nI k)), (2, .int (aoL (M (g + 6)) way k)), (0, .ref (ad g)), (1, .int way)] → W p l e rm_answersOf s m args below meth c s.heap [] 0 0 Q (F0 m 4 ls []) := by
    intro r
    induction r with
    | zero =>
      intro k hk ls hl
      obtain rfl : k = 8 := by omega
      refine lv_iload_n hx hb dX1_answersOf_4 rfl (lv_at hl 0 rfl) ?_
      refine lv_bipush (v := 8) hx hb dX1_answersOf_5 (by decide) ?_
      refine lv_icmp_ge (tgt := 38) hx hb dX1_answersOf_7 (by decide) (fun c1 => ?_) (fun c1 => ?_)
      · skip
        refine lv_iload_n hx hb dX1_answersOf_38 rfl (lv_at hl 1 rfl) ?_
        refine lv_sipush (v := 255) hx hb dX1_answersOf_39 (by decide) ?_
        refine lv_iand hx hb dX1_answersOf_42 ?_
        exact hret 43 ls _ _ _ _ dX1_answersOf_43 ⟨rfl, rfl⟩ hW
      · exact absurd (nI_le (by decide) (by decide)) c1
    | succ r ih =>
      intro k hk ls hl
      refine lv_iload_n hx hb dX1_answersOf_4 rfl (lv_at hl 0 rfl) ?_
      refine lv_bipush (v := 8) hx hb dX1_answersOf_5 (by decide) ?_
      refine lv_icmp_ge (tgt := 38) hx hb dX1_answersOf_7 (by decide) (fun c1 => ?_) (fun c1 => ?_)
      · exact absurd c1 (nI_ge (b := 8) (by omega) (by decide))
      · skip
        refine lv_iload_n hx hb dX1_answersOf_10 rfl (lv_at hl 3 rfl) ?_
        refine lv_bipush (v := 7) hx hb dX1_answersOf_11 (by decide) ?_
        refine lv_iload_n hx hb dX1_answersOf_13 rfl (lv_at hl 0 rfl) ?_
        refine lv_isub hx hb dX1_answersOf_14 ?_
        refine lv_ishr hx hb dX1_answersOf_15 ?_
        refine lv_iconst (v := 1) hx hb dX1_answersOf_16 (by decide) ?_
        refine lv_iand hx hb dX1_answersOf_17 ?_
        refine lv_istore (lv' := [(4, .int ((way >>> ((7 - (nI k)) &&& 31)) &&& 1)), (3, .int (nI k)), (2, .int (aoL (M (g + 6)) way k)), (0, .ref (ad g)), (1, .int way)]) hx hb dX1_answersOf_18 hl (by decide) rfl (fun ls hl => ?_)
        refine lv_iload_n hx hb dX1_answersOf_20 rfl (lv_at hl 2 rfl) ?_
        refine lv_iload hx hb dX1_answersOf_21 (lv_at hl 0 rfl) ?_
        refine lv_aload_n hx hb dX1_answersOf_23 rfl (lv_at hl 3 rfl) ?_
        refine cr_get (v := .ref (ad (g + 6))) hx hb hts hin1 hown hK hW g (by omega) (cE_f0 I Z F ad M hg) rfl 6 (by decide) rfl (by decide +kernel) rfl dX1_answersOf_24 ?_
        refine lv_iload_n hx hb dX1_answersOf_27 rfl (lv_at hl 1 rfl) ?_
        refine cr_iald hx hb hK hW (g + 6) (by omega) (cE_f6 I Z F ad M hg) k (by omega) (by decide) rfl dX1_answersOf_28 ?_
        refine lv_ishl hx hb dX1_answersOf_29 ?_
        refine lv_ior hx hb dX1_answersOf_30 ?_
        refine lv_istore_n (lv' := [(2, .int (aoL (M (g + 6)) way (k + 1))), (4, .int ((way >>> ((7 - (nI k)) &&& 31)) &&& 1)), (3, .int (nI k)), (0, .ref (ad g)), (1, .int way)]) hx hb dX1_answersOf_31 rfl hl (by decide) rfl (fun ls hl => ?_)
        refine lv_iinc (v := nI (k + 1)) (lv' := [(3, .int (nI (k + 1))), (2, .int (aoL (M (g + 6)) way (k + 1))), (4, .int ((way >>> ((7 - (nI k)) &&& 31)) &&& 1)), (0, .ref (ad g)), (1, .int way)]) hx hb dX1_answersOf_32 hl (k := 2) rfl (nI_1 k) (by decide) rfl (fun ls hl => ?_)
        refine lv_goto (tgt := 4) hx hb dX1_answersOf_35 (by decide) ?_
        exact ih (k + 1) (by omega) ls (lv_sub hl [0, 1, 3, 4] rfl)
  exact loop 8 0 (by decide) ls (lv_sub hl [0, 1, 2, 3] rfl)
end
section
/-- the first k ways' answers -/
def aoR (f : Nat → Int32) (k : Nat) (r : Nat → Int32) : Nat → Int32 := fun j => if j < k then aoF f (nI j) else r j
theorem aoR_0 (f r : Nat → Int32) : aoR f 0 r = r := by funext j; simp [aoR]
theorem aoR_s (f : Nat → Int32) (k : Nat) (r : Nat → Int32) : upd (aoR f k r) k (aoF f (nI k)) = aoR f (k + 1) r := by
  funext j
  by_cases h : j = k
  · subst h; rw [pk_us]; simp [aoR]
  · rw [pk_un h]; simp only [aoR]; by_cases h2 : j < k
    · rw [if_pos h2, if_pos (by omega)]
    · rw [if_neg h2, if_neg (by omega)]
def so1 (M : Nat → Nat → Int32) (g : Nat) : Nat → Nat → Int32 := mst M g 0 0
def so2 (M : Nat → Nat → Int32) (g : Nat) : Nat → Nat → Int32 := mrow (so1 M g) (g + 5) (flF (-1) 1024 (so1 M g (g + 5)))
def so3 (M : Nat → Nat → Int32) (g qi : Nat) : Nat → Nat → Int32 := mrow (so2 M g) (g + 6) (va_cpy (so2 M g qi) (so2 M g (g + 6)) 0 0 8)
def soL (M : Nat → Nat → Int32) (g qi k : Nat) : Nat → Nat → Int32 := mrow (so3 M g qi) (g + 7) (aoR (so3 M g qi (g + 6)) k (so3 M g qi (g + 7)))
def soF (M : Nat → Nat → Int32) (g qi : Nat) : Nat → Nat → Int32 := soL M g qi 256
theorem soL_6 (M : Nat → Nat → Int32) (g qi k : Nat) : soL M g qi k (g + 6) = so3 M g qi (g + 6) := mrow_ne (by omega)
abbrev rm_startOver : Room := { frames := 1, cells := 0, slots := 0, locals := 400 }
set_option maxHeartbeats 4000000 in
set_option maxRecDepth 100000 in
/-- the forks are started over, in an order that lies in the cell qi -/
theorem c_startOver (l : Launch) (D : va_G) (I Z F : ClassId) (ad : Nat → Nat) (hI : cI ad) (M : Nat → Nat → Int32) (sz : Nat) (g : Nat) (hg : g = 3 ∨ g = 15) (qi : Nat) (hqi : qi < 97) (hne : qi ≠ g ∧ qi ≠ g + 5 ∧ qi ≠ g + 6) (hq : cE I Z F ad M qi = .inl (I, 8, .inl (M qi))) : Met l yX1_startOver wsX1_startOver rm_startOver (va_Pc [.ref (ad g), .ref (ad qi)] (cU D I Z F ad sz M)) (va_Qv (fun (u : Nat → Nat → Int32) => u = soF M g qi) (fun u t => cP D I Z F ad u t.heap) (cA ad sz)) 0 0 (cA ad sz) := by
  refine cMet_v (cc := cX1_startOver) (maxL := 3) hI (by decide) rfl ⟨rfl, rfl⟩ RX1 rfl (Nat.le_of_ble_eq_true rfl) (lv := [(0, .ref (ad g)), (1, .ref (ad qi))]) rfl ?_
  intro p e s m args below meth c Q A ls hsz C0 hW hl hret
  obtain ⟨hx, hb, hml, hts, hown, hlocks, hK, hN, hDa, hA, hargs⟩ := C0
  have hin1 : ∀ w ∈ u_ws RX1 TX1 10, w ∈ wsX1_startOver := by decide +kernel
  have hgl : g < 16 := by omega
  refine lv_aload_n hx hb dX1_startOver_0 rfl (lv_at hl 0 rfl) ?_
  refine lv_iconst (v := 0) hx hb dX1_startOver_1 (by decide) ?_
  refine cr_put hx hb hts hin1 tyX1 tyX1_ok nmX1 hown hK hDa hW g (by omega) (cE_f0 I Z F ad M hg) rfl 0 (by decide) rfl (by decide +kernel) (ty := .int) (by decide +kernel) rfl rfl (Nat.le_of_ble_eq_true rfl) (cS_f0p hg _ _) dX1_startOver_2 (fun H locs hW => ?_)
  rw [show mst M g 0 0 = so1 M g from rfl] at hW
  refine lv_aload_n hx hb dX1_startOver_5 rfl (lv_at hl 0 rfl) ?_
  refine cr_get (v := .ref (ad (g + 5))) hx hb hts hin1 hown hK hW g (by omega) (cE_f0 I Z F ad (so1 M g) hg) rfl 5 (by decide) rfl (by decide +kernel) rfl dX1_startOver_6 ?_
  refine lv_iconst (v := -1) hx hb dX1_startOver_9 (by decide) ?_
  refine cr_callv (va_runS (As := [.ref (ad (g + 5)), .int (-1)]) (rest := []) ⟨hx, hb, hml, hown, hts⟩ (c_fill l D I Z F ad hI (so1 M g) H.size (g + 5) 1024 (by omega) (by decide) (cE_f5 I Z F ad _ hg) (-1)) (va_cwS 2 hts gX1_startOver_J7_fill_53178 rfl rfl rfl (by decide +kernel) ⟨Nat.le_of_ble_eq_true rfl, Nat.le_of_ble_eq_true rfl⟩) (cr_preS hK hN hW) rfl rfl hl.1 rfl (lv_room (Nat.le_of_ble_eq_true rfl)) dX1_startOver_10 ⟨Nat.le_refl _, Nat.le_refl _⟩) hA hDa hW (fun u H locs hp hW => ?_)
  obtain rfl := hp
  rw [show mrow (so1 M g) (g + 5) (flF (-1) 1024 (so1 M g (g + 5))) = so2 M g from rfl] at hW
  refine lv_aload_n hx hb dX1_startOver_13 rfl (lv_at hl 1 rfl) ?_
  refine lv_iconst (v := 0) hx hb dX1_startOver_14 (by decide) ?_
  refine lv_aload_n hx hb dX1_startOver_15 rfl (lv_at hl 0 rfl) ?_
  refine cr_get (v := .ref (ad (g + 6))) hx hb hts hin1 hown hK hW g (by omega) (cE_f0 I Z F ad (so2 M g) hg) rfl 6 (by decide) rfl (by decide +kernel) rfl dX1_startOver_16 ?_
  refine lv_iconst (v := 0) hx hb dX1_startOver_19 (by decide) ?_
  refine lv_bipush (v := 8) hx hb dX1_startOver_20 (by decide) ?_
  refine cr_copy hx hb (hml.trans hl.1.symm) hts hown (by decide +kernel) (by decide +kernel) (by decide +kernel) (by decide +kernel) hK hDa hW qi (g + 6) hqi (by omega) (cE_arr hq _) (cE_f6 I Z F ad _ hg) 8 rfl (by decide) (by decide) (by decide) (by decide) (by decide) dX1_startOver_22 (fun H locs hW => ?_)
  rw [show mrow (so2 M g) (g + 6) (va_cpy (so2 M g qi) (so2 M g (g + 6)) 0 0 8) = so3 M g qi from rfl] at hW
  refine lv_iconst (v := 0) hx hb dX1_startOver_25 (by decide) ?_
  refine lv_istore_n (lv' := [(2, .int 0), (0, .ref (ad g)), (1, .ref (ad qi))]) hx hb dX1_startOver_26 rfl hl (by decide) rfl (fun ls hl => ?_)
  have loop : ∀ r k : Nat, k + r = 256 → ∀ (ls : Array Slot) (H : Heap) (locs : List Loc), lv_has ls 3 [(2, .int (nI k)), (0, .ref (ad g)), (1, .ref (ad qi))] → cB9 D I Z F ad A s.heap (soL M g qi k) H locs → W p l e rm_startOver s m args below meth c H locs 0 0 Q (F0 m 27 ls []) := by
    intro r
    induction r with
    | zero =>
      intro k hk ls H locs hl hW
      obtain rfl : k = 256 := by omega
      refine lv_iload_n hx hb dX1_startOver_27 rfl (lv_at hl 0 rfl) ?_
      refine lv_sipush (v := 256) hx hb dX1_startOver_28 (by decide) ?_
      refine lv_icmp_ge (tgt := 51) hx hb dX1_startOver_31 (by decide) (fun c1 => ?_) (fun c1 => ?_)
      · skip
        exact hret 51 ls H locs _ dX1_startOver_51 rfl hW
      · exact absurd (nI_le (by decide) (by decide)) c1
    | succ r ih =>
      intro k hk ls H locs hl hW
      refine lv_iload_n hx hb dX1_startOver_27 rfl (lv_at hl 0 rfl) ?_
      refine lv_sipush (v := 256) hx hb dX1_startOver_28 (by decide) ?_
      refine lv_icmp_ge (tgt := 51) hx hb dX1_startOver_31 (by decide) (fun c1 => ?_) (fun c1 => ?_)
      · exact absurd c1 (nI_ge (b := 256) (by omega) (by decide))
      · skip
        refine lv_aload_n hx hb dX1_startOver_34 rfl (lv_at hl 1 rfl) ?_
        refine cr_get (v := .ref (ad (g + 7))) hx hb hts hin1 hown hK hW g (by omega) (cE_f0 I Z F ad (soL M g qi k) hg) rfl 7 (by decide) rfl (by decide +kernel) rfl dX1_startOver_35 ?_
        refine lv_iload_n hx hb dX1_startOver_38 rfl (lv_at hl 0 rfl) ?_
        refine lv_aload_n hx hb dX1_startOver_39 rfl (lv_at hl 1 rfl) ?_
        refine lv_iload_n hx hb dX1_startOver_40 rfl (lv_at hl 0 rfl) ?_
        refine cr_calli (va_runV (As := [.int (nI k)]) (rest := [.int (nI k), .ref (ad (g + 7))]) ⟨hx, hb, hml, hown, hts⟩ (c_answersOf l D I Z F ad hI (soL M g qi k) H.size g hg (nI k)) (cwV 1 hts gX1_startOver_X1_answersOf rfl rfl rfl (by decide +kernel) ⟨Nat.le_of_ble_eq_true rfl, Nat.le_of_ble_eq_true rfl⟩) (cr_preV hK hN hW g (by omega) (cE_f0 I Z F ad (soL M g qi k) hg) rfl) rfl rfl hl.1 rfl (lv_room (Nat.le_of_ble_eq_true rfl)) dX1_startOver_41 ⟨Nat.le_refl _, Nat.le_refl _⟩) hA hDa hW (fun r u H locs hp hW => ?_)
        obtain ⟨rfl, rfl⟩ := hp
        rw [soL_6]
        refine cr_iast hx hb hK hDa hW (g + 7) (by omega) (cE_f7 I Z F ad (soL M g qi k) hg) k (by omega) (by decide) rfl dX1_startOver_44 (fun H locs hW => ?_)
        rw [show mst (soL M g qi k) (g + 7) k (aoF (so3 M g qi (g + 6)) (nI k)) = soL M g qi (k + 1) from by rw [soL, mst_mrow, aoR_s]; rfl] at hW
        refine lv_iinc (v := nI (k + 1)) (lv' := [(2, .int (nI (k + 1))), (0, .ref (ad g)), (1, .ref (ad qi))]) hx hb dX1_startOver_45 hl (k := 0) rfl (nI_1 k) (by decide) rfl (fun ls hl => ?_)
        refine lv_goto (tgt := 27) hx hb dX1_startOver_48 (by decide) ?_
        exact ih (k + 1) (by omega) ls H locs (lv_sub hl [0, 1, 2] rfl) hW
  exact loop 256 0 (by decide) ls H locs (lv_sub hl [0, 1, 2] rfl) (by rw [soL, aoR_0, mrow_id]; exact hW)

/-- a fork made: the next number, in the slot j -/
def mkM (M : Nat → Nat → Int32) (g n j : Nat) (a no yes : Int32) : Nat → Nat → Int32 := mst (mst (mst (mst (mst (mst M g 0 (nI (n + 1))) (g + 5) j (nI n)) (g + 1) n a) (g + 2) n no) (g + 3) n yes) (g + 4) n 0
def szF (M : Nat → Nat → Int32) (g : Nat) : Nat := (M g 0).toNatClampNeg
def mkF (M : Nat → Nat → Int32) (g j : Nat) (a no yes : Int32) : (Nat → Nat → Int32) × Int32 := if szF M g < 626 then (mkM M g (szF M g) j a no yes, nI (szF M g)) else (M, -1)
theorem szF_of {M : Nat → Nat → Int32} {g n : Nat} (h : M g 0 = nI n) (hn : n ≤ 626) : szF M g = n := by rw [szF, h, nI_clamp (by omega)]
abbrev rm_make : Room := { frames := 0, cells := 0, slots := 0, locals := 0 }
set_option maxHeartbeats 4000000 in
set_option maxRecDepth 100000 in
/-- a fork is made -/
theorem c_make (l : Launch) (D : va_G) (I Z F : ClassId) (ad : Nat → Nat) (hI : cI ad) (M : Nat → Nat → Int32) (sz : Nat) (g : Nat) (hg : g = 3 ∨ g = 15) (n : Nat) (hn : M g 0 = nI n) (hn6 : n ≤ 626) (j : Nat) (hj : j < 1024) (a no yes : Int32) : Met l yX1_make wsX1_make rm_make (va_Pc [.ref (ad g), .int (nI j), .int a, .int no, .int yes] (cU D I Z F ad sz M)) (va_Qi (fun (r : Int32) (u : Nat → Nat → Int32) => u = (mkF M g j a no yes).1 ∧ r = (mkF M g j a no yes).2) (fun u t => cP D I Z F ad u t.heap) (cA ad sz)) 0 0 (cA ad sz) := by
  refine cMet_i (cc := cX1_make) (maxL := 6) hI (by decide) rfl ⟨rfl, rfl⟩ RX1 rfl (Nat.le_of_ble_eq_true rfl) (lv := [(0, .ref (ad g)), (1, .int (nI j)), (2, .int a), (3, .int no), (4, .int yes)]) rfl ?_
  intro p e s m args below meth c Q A ls hsz C0 hW hl hret
  obtain ⟨hx, hb, hml, hts, hown, hlocks, hK, hN, hDa, hA, hargs⟩ := C0
  have hin1 : ∀ w ∈ u_ws RX1 TX1 10, w ∈ wsX1_make := by decide +kernel
  have hgl : g < 16 := by omega
  have hsz6 := szF_of hn hn6
  refine lv_aload_n hx hb dX1_make_0 rfl (lv_at hl 0 rfl) ?_
  refine cr_get (v := .int (M g 0)) hx hb hts hin1 hown hK hW g (by omega) (cE_f0 I Z F ad M hg) rfl 0 (by decide) rfl (by decide +kernel) rfl dX1_make_1 ?_
  rw [hn]
  refine lv_sipush (v := 626) hx hb dX1_make_4 (by decide) ?_
  refine lv_icmp_lt (tgt := 12) hx hb dX1_make_7 (by decide) (fun c1 => ?_) (fun c1 => ?_)
  · skip
    have hlt : n < 626 := (nI_ltI (by omega) (by decide)).mp c1
    refine lv_aload_n hx hb dX1_make_12 rfl (lv_at hl 0 rfl) ?_
    refine cr_get (v := .int (M g 0)) hx hb hts hin1 hown hK hW g (by omega) (cE_f0 I Z F ad M hg) rfl 0 (by decide) rfl (by decide +kernel) rfl dX1_make_13 ?_
    rw [hn]
    refine lv_istore (lv' := [(5, .int (nI n)), (0, .ref (ad g)), (1, .int (nI j)), (2, .int a), (3, .int no), (4, .int yes)]) hx hb dX1_make_16 hl (by decide) rfl (fun ls hl => ?_)
    refine lv_aload_n hx hb dX1_make_18 rfl (lv_at hl 1 rfl) ?_
    refine lv_dup hx hb dX1_make_19 rfl ?_
    refine cr_get (v := .int (M g 0)) hx hb hts hin1 hown hK hW g (by omega) (cE_f0 I Z F ad M hg) rfl 0 (by decide) rfl (by decide +kernel) rfl dX1_make_20 ?_
    rw [hn]
    refine lv_iconst (v := 1) hx hb dX1_make_23 (by decide) ?_
    refine lv_iadd hx hb dX1_make_24 ?_
    rw [nI_1]
    refine cr_put hx hb hts hin1 tyX1 tyX1_ok nmX1 hown hK hDa hW g (by omega) (cE_f0 I Z F ad M hg) rfl 0 (by decide) rfl (by decide +kernel) (ty := .int) (by decide +kernel) rfl rfl (Nat.le_of_ble_eq_true rfl) (cS_f0p hg _ _) dX1_make_25 (fun H locs hW => ?_)
    refine lv_aload_n hx hb dX1_make_28 rfl (lv_at hl 1 rfl) ?_
    refine cr_get (v := .ref (ad (g + 5))) hx hb hts hin1 hown hK hW g (by omega) (cE_f0 I Z F ad (mst M g 0 (nI (n + 1))) hg) rfl 5 (by decide) rfl (by decide +kernel) rfl dX1_make_29 ?_
    refine lv_iload_n hx hb dX1_make_32 rfl (lv_at hl 2 rfl) ?_
    refine lv_iload hx hb dX1_make_33 (lv_at hl 0 rfl) ?_
    refine cr_iast hx hb hK hDa hW (g + 5) (by omega) (cE_f5 I Z F ad (mst M g 0 (nI (n + 1))) hg) j hj (by decide) rfl dX1_make_35 (fun H locs hW => ?_)
    refine lv_aload_n hx hb dX1_make_36 rfl (lv_at hl 1 rfl) ?_
    refine cr_get (v := .ref (ad (g + 1))) hx hb hts hin1 hown hK hW g (by omega) (cE_f0 I Z F ad (mst (mst M g 0 (nI (n + 1))) (g + 5) j (nI n)) hg) rfl 1 (by decide) rfl (by decide +kernel) rfl dX1_make_37 ?_
    refine lv_iload hx hb dX1_make_40 (lv_at hl 0 rfl) ?_
    refine lv_iload_n hx hb dX1_make_42 rfl (lv_at hl 3 rfl) ?_
    refine cr_iast hx hb hK hDa hW (g + 1) (by omega) (cE_f1 I Z F ad (mst (mst M g 0 (nI (n + 1))) (g + 5) j (nI n)) hg) n hlt (by decide) rfl dX1_make_43 (fun H locs hW => ?_)
    refine lv_aload_n hx hb dX1_make_44 rfl (lv_at hl 1 rfl) ?_
    refine cr_get (v := .ref (ad (g + 2))) hx hb hts hin1 hown hK hW g (by omega) (cE_f0 I Z F ad (mst (mst (mst M g 0 (nI (n + 1))) (g + 5) j (nI n)) (g + 1) n a) hg) rfl 2 (by decide) rfl (by decide +kernel) rfl dX1_make_45 ?_
    refine lv_iload hx hb dX1_make_48 (lv_at hl 0 rfl) ?_
    refine lv_iload_n hx hb dX1_make_50 rfl (lv_at hl 4 rfl) ?_
    refine cr_iast hx hb hK hDa hW (g + 2) (by omega) (cE_f2 I Z F ad (mst (mst (mst M g 0 (nI (n + 1))) (g + 5) j (nI n)) (g + 1) n a) hg) n hlt (by decide) rfl dX1_make_51 (fun H locs hW => ?_)
    refine lv_aload_n hx hb dX1_make_52 rfl (lv_at hl 1 rfl) ?_
    refine cr_get (v := .ref (ad (g + 3))) hx hb hts hin1 hown hK hW g (by omega) (cE_f0 I Z F ad (mst (mst (mst (mst M g 0 (nI (n + 1))) (g + 5) j (nI n)) (g + 1) n a) (g + 2) n no) hg) rfl 3 (by decide) rfl (by decide +kernel) rfl dX1_make_53 ?_
    refine lv_iload hx hb dX1_make_56 (lv_at hl 0 rfl) ?_
    refine lv_iload hx hb dX1_make_58 (lv_at hl 5 rfl) ?_
    refine cr_iast hx hb hK hDa hW (g + 3) (by omega) (cE_f3 I Z F ad (mst (mst (mst (mst M g 0 (nI (n + 1))) (g + 5) j (nI n)) (g + 1) n a) (g + 2) n no) hg) n hlt (by decide) rfl dX1_make_60 (fun H locs hW => ?_)
    refine lv_aload_n hx hb dX1_make_61 rfl (lv_at hl 1 rfl) ?_
    refine cr_get (v := .ref (ad (g + 4))) hx hb hts hin1 hown hK hW g (by omega) (cE_f0 I Z F ad (mst (mst (mst (mst (mst M g 0 (nI (n + 1))) (g + 5) j (nI n)) (g + 1) n a) (g + 2) n no) (g + 3) n yes) hg) rfl 4 (by decide) rfl (by decide +kernel) rfl dX1_make_62 ?_
    refine lv_iload hx hb dX1_make_65 (lv_at hl 0 rfl) ?_
    refine lv_iconst (v := 0) hx hb dX1_make_67 (by decide) ?_
    refine cr_iast hx hb hK hDa hW (g + 4) (by omega) (cE_f4 I Z F ad (mst (mst (mst (mst (mst M g 0 (nI (n + 1))) (g + 5) j (nI n)) (g + 1) n a) (g + 2) n no) (g + 3) n yes) hg) n hlt (by decide) rfl dX1_make_68 (fun H locs hW => ?_)
    refine lv_iload hx hb dX1_make_69 (lv_at hl 0 rfl) ?_
    exact hret 71 ls H locs _ _ dX1_make_71 (by rw [mkF, hsz6, if_pos hlt]; exact ⟨rfl, rfl⟩) hW
  · skip
    refine lv_iconst (v := -1) hx hb dX1_make_10 (by decide) ?_
    have hge : ¬ n < 626 := fun h => c1 ((nI_ltI (by omega) (by decide)).mpr h)
    exact hret 11 ls _ _ _ _ dX1_make_11 (by rw [mkF, hsz6, if_neg hge]; exact ⟨rfl, rfl⟩) hW
end
section
/-- the slots hold numbers of forks, or nothing -/
def slOk (M : Nat → Nat → Int32) (g n : Nat) : Prop := ∀ j : Nat, j < 1024 → M (g + 5) j < 0 ∨ ∃ k : Nat, k < n ∧ M (g + 5) j = nI k
/-- the slot that is looked at in a step -/
def ptS (st : Int32) (k : Nat) : Nat := ((st + nI k) &&& 1023).toNatClampNeg
def ptL (M : Nat → Nat → Int32) (g : Nat) (st a no yes : Int32) : Nat → Nat → (Nat → Nat → Int32) × Int32
  | 0, _ => (M, -1)
  | r + 1, k => if M (g + 5) (ptS st k) < 0 then mkF M g (ptS st k) a no yes else if M (g + 1) (M (g + 5) (ptS st k)).toNatClampNeg = a ∧ M (g + 2) (M (g + 5) (ptS st k)).toNatClampNeg = no ∧ M (g + 3) (M (g + 5) (ptS st k)).toNatClampNeg = yes then (M, M (g + 5) (ptS st k)) else ptL M g st a no yes r (k + 1)
def ptF (M : Nat → Nat → Int32) (g : Nat) (a no yes : Int32) : (Nat → Nat → Int32) × Int32 := if no = yes then (M, no) else ptL M g ((no * 31 + yes) * 31 + a) a no yes 1024 0
theorem ptS_of (st : Int32) (k : Nat) : ∃ j : Nat, j < 1024 ∧ ((st + nI k) &&& 1023) = nI j ∧ ptS st k = j := by
  obtain ⟨j, hj, ej⟩ := pk_andE (st + nI k) (m := 1023) 10 (by decide)
  exact ⟨j, hj, ej, by rw [ptS, ej, nI_clamp (by omega)]⟩
abbrev rm_part : Room := { frames := 1, cells := 0, slots := 0, locals := 100 }
set_option maxHeartbeats 4000000 in
set_option maxRecDepth 100000 in
/-- the fork with these parts, found or made -/
theorem c_part (l : Launch) (D : va_G) (I Z F : ClassId) (ad : Nat → Nat) (hI : cI ad) (M : Nat → Nat → Int32) (sz : Nat) (g : Nat) (hg : g = 3 ∨ g = 15) (n : Nat) (hn : M g 0 = nI n) (hn6 : n ≤ 626) (hsl : slOk M g n) (a no yes : Int32) : Met l yX1_part wsX1_part rm_part (va_Pc [.ref (ad g), .int a, .int no, .int yes] (cU D I Z F ad sz M)) (va_Qi (fun (r : Int32) (u : Nat → Nat → Int32) => u = (ptF M g a no yes).1 ∧ r = (ptF M g a no yes).2) (fun u t => cP D I Z F ad u t.heap) (cA ad sz)) 0 0 (cA ad sz) := by
  refine cMet_i (cc := cX1_part) (maxL := 8) hI (by decide) rfl ⟨rfl, rfl⟩ RX1 rfl (Nat.le_of_ble_eq_true rfl) (lv := [(0, .ref (ad g)), (1, .int a), (2, .int no), (3, .int yes)]) rfl ?_
  intro p e s m args below meth c Q A ls hsz C0 hW hl hret
  obtain ⟨hx, hb, hml, hts, hown, hlocks, hK, hN, hDa, hA, hargs⟩ := C0
  have hin1 : ∀ w ∈ u_ws RX1 TX1 10, w ∈ wsX1_part := by decide +kernel
  have hgl : g < 16 := by omega
  refine lv_iload_n hx hb dX1_part_0 rfl (lv_at hl 2 rfl) ?_
  refine lv_iload_n hx hb dX1_part_1 rfl (lv_at hl 3 rfl) ?_
  refine lv_icmp_ne (tgt := 7) hx hb dX1_part_2 (by decide) (fun c1 => ?_) (fun c1 => ?_)
  · skip
    have hne : ¬ no = yes := c1
    refine lv_iload_n hx hb dX1_part_7 rfl (lv_at hl 2 rfl) ?_
    refine lv_bipush (v := 31) hx hb dX1_part_8 (by decide) ?_
    refine lv_imul hx hb dX1_part_10 ?_
    refine lv_iload_n hx hb dX1_part_11 rfl (lv_at hl 3 rfl) ?_
    refine lv_iadd hx hb dX1_part_12 ?_
    refine lv_bipush (v := 31) hx hb dX1_part_13 (by decide) ?_
    refine lv_imul hx hb dX1_part_15 ?_
    refine lv_iload_n hx hb dX1_part_16 rfl (lv_at hl 1 rfl) ?_
    refine lv_iadd hx hb dX1_part_17 ?_
    refine lv_istore (lv' := [(4, .int ((((no * 31) + yes) * 31) + a)), (0, .ref (ad g)), (1, .int a), (2, .int no), (3, .int yes)]) hx hb dX1_part_18 hl (by decide) rfl (fun ls hl => ?_)
    refine lv_iconst (v := 0) hx hb dX1_part_20 (by decide) ?_
    refine lv_istore (lv' := [(5, .int 0), (4, .int ((((no * 31) + yes) * 31) + a)), (0, .ref (ad g)), (1, .int a), (2, .int no), (3, .int yes)]) hx hb dX1_part_21 hl (by decide) rfl (fun ls hl => ?_)
    obtain ⟨st, hst⟩ : ∃ st : Int32, st = ((((no * 31) + yes) * 31) + a) := ⟨_, rfl⟩
    rw [← hst] at hl
    have hF : ptF M g a no yes = ptL M g st a no yes 1024 0 := by rw [ptF, if_neg hne, hst]
    have loop : ∀ r k : Nat, k + r = 1024 → ptF M g a no yes = ptL M g st a no yes r k → ∀ (ls : Array Slot), lv_has ls 8 [(5, .int (nI k)), (4, .int st), (0, .ref (ad g)), (1, .int a), (2, .int no), (3, .int yes)] → W p l e rm_part s m args below meth c s.heap [] 0 0 Q (F0 m 23 ls []) := by
      intro r
      induction r with
      | zero =>
        intro k hk hv ls hl
        obtain rfl : k = 1024 := by omega
        refine lv_iload hx hb dX1_part_23 (lv_at hl 0 rfl) ?_
        refine lv_sipush (v := 1024) hx hb dX1_part_25 (by decide) ?_
        refine lv_icmp_ge (tgt := 108) hx hb dX1_part_28 (by decide) (fun c1 => ?_) (fun c1 => ?_)
        · skip
          refine lv_iconst (v := -1) hx hb dX1_part_108 (by decide) ?_
          exact hret 109 ls _ _ _ _ dX1_part_109 (by rw [hv]; exact ⟨rfl, rfl⟩) hW
        · exact absurd (nI_le (by decide) (by decide)) c1
      | succ r ih =>
        intro k hk hv ls hl
        refine lv_iload hx hb dX1_part_23 (lv_at hl 0 rfl) ?_
        refine lv_sipush (v := 1024) hx hb dX1_part_25 (by decide) ?_
        refine lv_icmp_ge (tgt := 108) hx hb dX1_part_28 (by decide) (fun c1 => ?_) (fun c1 => ?_)
        · exact absurd c1 (nI_ge (b := 1024) (by omega) (by decide))
        · skip
          obtain ⟨j, hj, ej, hpj⟩ := ptS_of st k
          rw [ptL, hpj] at hv
          refine lv_iload hx hb dX1_part_31 (lv_at hl 1 rfl) ?_
          refine lv_iload hx hb dX1_part_33 (lv_at hl 0 rfl) ?_
          refine lv_iadd hx hb dX1_part_35 ?_
          refine lv_sipush (v := 1023) hx hb dX1_part_36 (by decide) ?_
          refine lv_iand hx hb dX1_part_39 ?_
          rw [ej]
          refine lv_istore (lv' := [(6, .int (nI j)), (5, .int (nI k)), (4, .int st), (0, .ref (ad g)), (1, .int a), (2, .int no), (3, .int yes)]) hx hb dX1_part_40 hl (by decide) rfl (fun ls hl => ?_)
          refine lv_aload_n hx hb dX1_part_42 rfl (lv_at hl 3 rfl) ?_
          refine cr_get (v := .ref (ad (g + 5))) hx hb hts hin1 hown hK hW g (by omega) (cE_f0 I Z F ad M hg) rfl 5 (by decide) rfl (by decide +kernel) rfl dX1_part_43 ?_
          refine lv_iload hx hb dX1_part_46 (lv_at hl 0 rfl) ?_
          refine cr_iald hx hb hK hW (g + 5) (by omega) (cE_f5 I Z F ad M hg) j hj (by decide) rfl dX1_part_48 ?_
          refine lv_istore (lv' := [(7, .int (M (g + 5) j)), (6, .int (nI j)), (5, .int (nI k)), (4, .int st), (0, .ref (ad g)), (1, .int a), (2, .int no), (3, .int yes)]) hx hb dX1_part_49 hl (by decide) rfl (fun ls hl => ?_)
          refine lv_iload hx hb dX1_part_51 (lv_at hl 0 rfl) ?_
          have nx : ptF M g a no yes = ptL M g st a no yes r (k + 1) → ∀ (ls : Array Slot), lv_has ls 8 [(7, .int (M (g + 5) j)), (6, .int (nI j)), (5, .int (nI k)), (4, .int st), (0, .ref (ad g)), (1, .int a), (2, .int no), (3, .int yes)] → W p l e rm_part s m args below meth c s.heap [] 0 0 Q (F0 m 102 ls []) := by
            intro hv ls hl
            refine lv_iinc (v := nI (k + 1)) (lv' := [(5, .int (nI (k + 1))), (7, .int (M (g + 5) j)), (6, .int (nI j)), (4, .int st), (0, .ref (ad g)), (1, .int a), (2, .int no), (3, .int yes)]) hx hb dX1_part_102 hl (k := 2) rfl (nI_1 k) (by decide) rfl (fun ls hl => ?_)
            refine lv_goto (tgt := 23) hx hb dX1_part_105 (by decide) ?_
            exact ih (k + 1) (by omega) hv ls (lv_sub hl [0, 3, 4, 5, 6, 7] rfl)
          refine lv_if_ge (tgt := 66) hx hb dX1_part_53 (by decide) (fun c2 => ?_) (fun c2 => ?_)
          · skip
            rw [if_neg (fun h => Int32.not_le.mpr h c2)] at hv
            obtain ⟨k0, hk0, ek0⟩ := (hsl j hj).resolve_left (fun h => Int32.not_le.mpr h c2)
            have ec0 : (M (g + 5) j).toNatClampNeg = k0 := by rw [ek0, nI_clamp (by omega)]
            rw [ec0] at hv
            refine lv_aload_n hx hb dX1_part_66 rfl (lv_at hl 4 rfl) ?_
            refine cr_get (v := .ref (ad (g + 1))) hx hb hts hin1 hown hK hW g (by omega) (cE_f0 I Z F ad M hg) rfl 1 (by decide) rfl (by decide +kernel) rfl dX1_part_67 ?_
            refine lv_iload hx hb dX1_part_70 (lv_at hl 0 rfl) ?_
            refine cr_iald hx hb hK hW (g + 1) (by omega) (cE_f1 I Z F ad M hg) k0 (by omega) (by decide) ek0 dX1_part_72 ?_
            refine lv_iload_n hx hb dX1_part_73 rfl (lv_at hl 5 rfl) ?_
            refine lv_icmp_ne (tgt := 102) hx hb dX1_part_74 (by decide) (fun d1 => ?_) (fun d1 => ?_)
            · skip
              exact nx (by rw [if_neg (fun h => d1 h.1)] at hv; exact hv) ls hl
            · skip
              refine lv_aload_n hx hb dX1_part_77 rfl (lv_at hl 4 rfl) ?_
              refine cr_get (v := .ref (ad (g + 2))) hx hb hts hin1 hown hK hW g (by omega) (cE_f0 I Z F ad M hg) rfl 2 (by decide) rfl (by decide +kernel) rfl dX1_part_78 ?_
              refine lv_iload hx hb dX1_part_81 (lv_at hl 0 rfl) ?_
              refine cr_iald hx hb hK hW (g + 2) (by omega) (cE_f2 I Z F ad M hg) k0 (by omega) (by decide) ek0 dX1_part_83 ?_
              refine lv_iload_n hx hb dX1_part_84 rfl (lv_at hl 6 rfl) ?_
              refine lv_icmp_ne (tgt := 102) hx hb dX1_part_85 (by decide) (fun d2 => ?_) (fun d2 => ?_)
              · skip
                exact nx (by rw [if_neg (fun h => d2 h.2.1)] at hv; exact hv) ls hl
              · skip
                refine lv_aload_n hx hb dX1_part_88 rfl (lv_at hl 4 rfl) ?_
                refine cr_get (v := .ref (ad (g + 3))) hx hb hts hin1 hown hK hW g (by omega) (cE_f0 I Z F ad M hg) rfl 3 (by decide) rfl (by decide +kernel) rfl dX1_part_89 ?_
                refine lv_iload hx hb dX1_part_92 (lv_at hl 0 rfl) ?_
                refine cr_iald hx hb hK hW (g + 3) (by omega) (cE_f3 I Z F ad M hg) k0 (by omega) (by decide) ek0 dX1_part_94 ?_
                refine lv_iload_n hx hb dX1_part_95 rfl (lv_at hl 7 rfl) ?_
                refine lv_icmp_ne (tgt := 102) hx hb dX1_part_96 (by decide) (fun d3 => ?_) (fun d3 => ?_)
                · skip
                  exact nx (by rw [if_neg (fun h => d3 h.2.2)] at hv; exact hv) ls hl
                · skip
                  refine lv_iload hx hb dX1_part_99 (lv_at hl 0 rfl) ?_
                  have e1 := d1
                  have e2 := d2
                  have e3 := d3
                  rw [if_pos ⟨e1, e2, e3⟩] at hv
                  exact hret 101 ls _ _ _ _ dX1_part_101 (by rw [hv]; exact ⟨rfl, rfl⟩) hW
          · skip
            have c3 : M (g + 5) j < 0 := Int32.not_le.mp c2
            rw [if_pos c3] at hv
            refine lv_aload_n hx hb dX1_part_56 rfl (lv_at hl 4 rfl) ?_
            refine lv_iload hx hb dX1_part_57 (lv_at hl 1 rfl) ?_
            refine lv_iload_n hx hb dX1_part_59 rfl (lv_at hl 5 rfl) ?_
            refine lv_iload_n hx hb dX1_part_60 rfl (lv_at hl 6 rfl) ?_
            refine lv_iload_n hx hb dX1_part_61 rfl (lv_at hl 7 rfl) ?_
            refine cr_calli (va_runV (As := [.int (nI j), .int a, .int no, .int yes]) (rest := []) ⟨hx, hb, hml, hown, hts⟩ (c_make l D I Z F ad hI M s.heap.size g hg n hn hn6 j hj a no yes) (cwV 4 hts gX1_part_X1_make rfl rfl rfl (by decide +kernel) ⟨Nat.le_of_ble_eq_true rfl, Nat.le_of_ble_eq_true rfl⟩) (cr_preV hK hN hW g (by omega) (cE_f0 I Z F ad M hg) rfl) rfl rfl hl.1 rfl (lv_room (Nat.le_of_ble_eq_true rfl)) dX1_part_62 ⟨Nat.le_refl _, Nat.le_refl _⟩) hA hDa hW (fun r u H locs hp hW => ?_)
            obtain ⟨rfl, rfl⟩ := hp
            exact hret 65 ls H locs _ _ dX1_part_65 (by rw [hv]; exact ⟨rfl, rfl⟩) hW
    exact loop 1024 0 (by decide) hF ls (lv_sub hl [0, 1, 2, 3, 4, 5] rfl)
  · skip
    have he : no = yes := c1
    refine lv_iload_n hx hb dX1_part_5 rfl (lv_at hl 2 rfl) ?_
    exact hret 6 ls _ _ _ _ dX1_part_6 (by rw [ptF, if_pos he]; exact ⟨rfl, rfl⟩) hW
end
section
/-! ===== what the making of forks keeps ===== -/
def fkOk (M : Nat → Nat → Int32) (g : Nat) : Prop := ∃ n : Nat, n ≤ 626 ∧ M g 0 = nI n ∧ slOk M g n
theorem upd_at (f : Nat → Int32) (k : Nat) (x : Int32) (j : Nat) : upd f k x j = if j = k then x else f j := by
  by_cases h : j = k
  · subst h; rw [pk_us, if_pos rfl]
  · rw [pk_un h, if_neg h]
theorem mst_at (M : Nat → Nat → Int32) (i j : Nat) (x : Int32) (a b : Nat) : mst M i j x a b = if a = i ∧ b = j then x else M a b := by
  by_cases h : a = i
  · subst h; rw [mst_same, upd_at]
    by_cases h2 : b = j
    · rw [if_pos h2, if_pos ⟨rfl, h2⟩]
    · rw [if_neg h2, if_neg (fun h => h2 h.2)]
  · rw [mst_ne h, if_neg (fun h2 => h h2.1)]
theorem mkM_row {M : Nat → Nat → Int32} {g n j : Nat} {a no yes : Int32} {i : Nat} (h : i < g ∨ g + 5 < i) : mkM M g n j a no yes i = M i := by
  unfold mkM
  rw [mst_ne (by omega), mst_ne (by omega), mst_ne (by omega), mst_ne (by omega), mst_ne (by omega), mst_ne (by omega)]
theorem mkM_0 {M : Nat → Nat → Int32} {g n j : Nat} {a no yes : Int32} : mkM M g n j a no yes g 0 = nI (n + 1) := by
  unfold mkM
  rw [mst_ne (by omega), mst_ne (by omega), mst_ne (by omega), mst_ne (by omega), mst_ne (by omega), mst_same, pk_us]
theorem mkM_5 {M : Nat → Nat → Int32} {g n j : Nat} {a no yes : Int32} : mkM M g n j a no yes (g + 5) = upd (M (g + 5)) j (nI n) := by
  unfold mkM
  rw [mst_ne (by omega), mst_ne (by omega), mst_ne (by omega), mst_ne (by omega), mst_same, mst_ne (by omega)]
theorem mkM_1 {M : Nat → Nat → Int32} {g n j : Nat} {a no yes : Int32} : mkM M g n j a no yes (g + 1) = upd (M (g + 1)) n a := by
  unfold mkM
  rw [mst_ne (by omega), mst_ne (by omega), mst_ne (by omega), mst_same, mst_ne (by omega), mst_ne (by omega)]
theorem mkM_2 {M : Nat → Nat → Int32} {g n j : Nat} {a no yes : Int32} : mkM M g n j a no yes (g + 2) = upd (M (g + 2)) n no := by
  unfold mkM
  rw [mst_ne (by omega), mst_ne (by omega), mst_same, mst_ne (by omega), mst_ne (by omega), mst_ne (by omega)]
theorem mkM_3 {M : Nat → Nat → Int32} {g n j : Nat} {a no yes : Int32} : mkM M g n j a no yes (g + 3) = upd (M (g + 3)) n yes := by
  unfold mkM
  rw [mst_ne (by omega), mst_same, mst_ne (by omega), mst_ne (by omega), mst_ne (by omega), mst_ne (by omega)]
theorem mkM_4 {M : Nat → Nat → Int32} {g n j : Nat} {a no yes : Int32} : mkM M g n j a no yes (g + 4) = upd (M (g + 4)) n 0 := by
  unfold mkM
  rw [mst_same, mst_ne (by omega), mst_ne (by omega), mst_ne (by omega), mst_ne (by omega), mst_ne (by omega)]
theorem mkF_row {M : Nat → Nat → Int32} {g j : Nat} {a no yes : Int32} {i : Nat} (h : i < g ∨ g + 5 < i) : (mkF M g j a no yes).1 i = M i := by
  unfold mkF; split
  · exact mkM_row h
  · rfl
theorem mkF_ok {M : Nat → Nat → Int32} {g j : Nat} {a no yes : Int32} (h : fkOk M g) : fkOk (mkF M g j a no yes).1 g := by
  obtain ⟨n, hn, h0, hs⟩ := h
  unfold mkF
  rw [szF_of h0 hn]
  split
  · refine ⟨n + 1, by omega, mkM_0, fun i hi => ?_⟩
    dsimp only
    rw [mkM_5, upd_at]
    split
    · exact Or.inr ⟨n, by omega, rfl⟩
    · rcases hs i hi with h | ⟨k, hk, e⟩
      · exact Or.inl h
      · exact Or.inr ⟨k, by omega, e⟩
  · exact ⟨n, hn, h0, hs⟩
theorem ptL_row {M : Nat → Nat → Int32} {g : Nat} {st a no yes : Int32} {i : Nat} (h : i < g ∨ g + 5 < i) : ∀ r k : Nat, (ptL M g st a no yes r k).1 i = M i := by
  intro r
  induction r with
  | zero => intro k; rfl
  | succ r ih =>
    intro k
    rw [ptL]
    split
    · exact mkF_row h
    · split
      · rfl
      · exact ih (k + 1)
theorem ptL_ok {M : Nat → Nat → Int32} {g : Nat} {st a no yes : Int32} (h : fkOk M g) : ∀ r k : Nat, fkOk (ptL M g st a no yes r k).1 g := by
  intro r
  induction r with
  | zero => intro k; exact h
  | succ r ih =>
    intro k
    rw [ptL]
    split
    · exact mkF_ok h
    · split
      · exact h
      · exact ih (k + 1)
theorem ptF_row {M : Nat → Nat → Int32} {g : Nat} {a no yes : Int32} {i : Nat} (h : i < g ∨ g + 5 < i) : (ptF M g a no yes).1 i = M i := by
  unfold ptF; split
  · rfl
  · exact ptL_row h _ _
theorem ptF_ok {M : Nat → Nat → Int32} {g : Nat} {a no yes : Int32} (h : fkOk M g) : fkOk (ptF M g a no yes).1 g := by
  unfold ptF; split
  · exact h
  · exact ptL_ok h _ _
theorem fkOk_mst {M : Nat → Nat → Int32} {g i j : Nat} {x : Int32} (h : fkOk M g) (h1 : i ≠ g) (h2 : i ≠ g + 5) : fkOk (mst M i j x) g := by
  obtain ⟨n, hn, h0, hs⟩ := h
  exact ⟨n, hn, by rw [mst_ne (Ne.symm h1)]; exact h0, fun j hj => by rw [mst_ne (Ne.symm h2)]; exact hs j hj⟩
theorem fkOk_mrow {M : Nat → Nat → Int32} {g i : Nat} {f : Nat → Int32} (h : fkOk M g) (h1 : i ≠ g) (h2 : i ≠ g + 5) : fkOk (mrow M i f) g := by
  obtain ⟨n, hn, h0, hs⟩ := h
  exact ⟨n, hn, by rw [mrow_ne (Ne.symm h1)]; exact h0, fun j hj => by rw [mrow_ne (Ne.symm h2)]; exact hs j hj⟩
/-- laying a fold: the leaves of the ways, then the parts from the last place up -/
def lyR (aw ye : Nat → Int32) (k : Nat) (r : Nat → Int32) : Nat → Int32 := fun w => if w < k then (if ye (aw w).toNatClampNeg = 0 then -1 else -2) else r w
def ly0 (M : Nat → Nat → Int32) (g yi k : Nat) : Nat → Nat → Int32 := mrow M (g + 8) (lyR (M (g + 7)) (M yi) k (M (g + 8)))
def lyW (M : Nat → Nat → Int32) (g place : Nat) : Nat → Nat → Nat → Int32
  | 0 => M
  | w + 1 => mst (ptF (lyW M g place w) g (lyW M g place w (g + 6) place) (lyW M g place w (g + 8) (2 * w)) (lyW M g place w (g + 8) (2 * w + 1))).1 (g + 8) w (ptF (lyW M g place w) g (lyW M g place w (g + 6) place) (lyW M g place w (g + 8) (2 * w)) (lyW M g place w (g + 8) (2 * w + 1))).2
def lyD (M : Nat → Nat → Int32) (g : Nat) : Nat → Nat → Nat → Int32
  | 0 => M
  | r + 1 => lyD (lyW M g r (2 ^ r)) g r
def lyF (M : Nat → Nat → Int32) (g yi : Nat) : Nat → Nat → Int32 := lyD (ly0 M g yi 256) g 8
theorem lyR_0 (aw ye r : Nat → Int32) : lyR aw ye 0 r = r := by funext j; simp [lyR]
theorem lyR_s (aw ye : Nat → Int32) (k : Nat) (r : Nat → Int32) : upd (lyR aw ye k r) k (if ye (aw k).toNatClampNeg = 0 then -1 else -2) = lyR aw ye (k + 1) r := by
  funext j
  by_cases h : j = k
  · subst h; rw [pk_us]; simp [lyR]
  · rw [pk_un h]; simp only [lyR]; by_cases h2 : j < k
    · rw [if_pos h2, if_pos (show j < k + 1 by omega)]
    · rw [if_neg h2, if_neg (show ¬ j < k + 1 by omega)]
theorem ly0_s (M : Nat → Nat → Int32) (g yi k : Nat) : mst (ly0 M g yi k) (g + 8) k (if M yi (M (g + 7) k).toNatClampNeg = 0 then -1 else -2) = ly0 M g yi (k + 1) := by
  rw [ly0, mst_mrow, lyR_s]; rfl
theorem lyW_ok {M : Nat → Nat → Int32} {g place : Nat} (h : fkOk M g) : ∀ w : Nat, fkOk (lyW M g place w) g := by
  intro w
  induction w with
  | zero => exact h
  | succ w ih => rw [lyW]; exact fkOk_mst (ptF_ok ih) (by omega) (by omega)
theorem lyW_row {M : Nat → Nat → Int32} {g place i : Nat} (h : i < g ∨ g + 5 < i) (h8 : i ≠ g + 8) : ∀ w : Nat, lyW M g place w i = M i := by
  intro w
  induction w with
  | zero => rfl
  | succ w ih => rw [lyW, mst_ne h8, ptF_row h, ih]
theorem lyD_ok {g : Nat} : ∀ (r : Nat) {M : Nat → Nat → Int32}, fkOk M g → fkOk (lyD M g r) g := by
  intro r
  induction r with
  | zero => intro M h; exact h
  | succ r ih => intro M h; exact ih (lyW_ok h _)
theorem lyD_row {g i : Nat} (h : i < g ∨ g + 5 < i) (h8 : i ≠ g + 8) : ∀ (r : Nat) (M : Nat → Nat → Int32), lyD M g r i = M i := by
  intro r
  induction r with
  | zero => intro M; rfl
  | succ r ih => intro M; rw [lyD, ih, lyW_row h h8]
theorem lyF_ok {M : Nat → Nat → Int32} {g yi : Nat} (h : fkOk M g) : fkOk (lyF M g yi) g := lyD_ok _ (fkOk_mrow h (by omega) (by omega))
theorem lyF_row {M : Nat → Nat → Int32} {g yi i : Nat} (h : i < g ∨ g + 5 < i) (h8 : i ≠ g + 8) : lyF M g yi i = M i := by
  rw [lyF, lyD_row h h8, ly0, mrow_ne h8]
theorem sh1 : ∀ r : Nat, r < 8 → ((1 : Int32) <<< (nI r &&& 31)) = nI (2 ^ r) := by decide
theorem pw8 : ∀ r : Nat, r < 8 → 2 ^ r ≤ 128 := by decide
theorem two_mul (w : Nat) : (2 : Int32) * nI w = nI (2 * w) := by rw [show (2 : Int32) = nI 2 from rfl, pk_mul]
theorem nI_m1 (r : Nat) : nI r + (-1) = nI r - 1 := (Int32.sub_eq_add_neg _ _).symm
end
section
abbrev rm_lay : Room := { frames := 2, cells := 0, slots := 0, locals := 200 }
set_option maxHeartbeats 4000000 in
set_option maxRecDepth 100000 in
/-- a fold is laid: what it says stands in the cell yi -/
theorem c_lay (l : Launch) (D : va_G) (I Z F : ClassId) (ad : Nat → Nat) (hI : cI ad) (M : Nat → Nat → Int32) (sz : Nat) (g : Nat) (hg : g = 3 ∨ g = 15) (hok : fkOk M g) (haw : ∀ w : Nat, w < 256 → ∃ a : Nat, a < 256 ∧ M (g + 7) w = nI a) (yi : Nat) (hyi : yi < 97) (hne : yi ≠ g + 8) (hye : cE I Z F ad M yi = .inl (Z, 256, .inl (M yi))) : Met l yX1_lay wsX1_lay rm_lay (va_Pc [.ref (ad g), .ref (ad yi)] (cU D I Z F ad sz M)) (va_Qi (fun (r : Int32) (u : Nat → Nat → Int32) => u = lyF M g yi ∧ r = lyF M g yi (g + 8) 0) (fun u t => cP D I Z F ad u t.heap) (cA ad sz)) 0 0 (cA ad sz) := by
  refine cMet_i (cc := cX1_lay) (maxL := 4) hI (by decide) rfl ⟨rfl, rfl⟩ RX1 rfl (Nat.le_of_ble_eq_true rfl) (lv := [(0, .ref (ad g)), (1, .ref (ad yi))]) rfl ?_
  intro p e s m args below meth c Q A ls hsz C0 hW hl hret
  obtain ⟨hx, hb, hml, hts, hown, hlocks, hK, hN, hDa, hA, hargs⟩ := C0
  have hin1 : ∀ w ∈ u_ws RX1 TX1 10, w ∈ wsX1_lay := by decide +kernel
  have hgl : g < 16 := by omega
  refine lv_iconst (v := 0) hx hb dX1_lay_0 (by decide) ?_
  refine lv_istore_n (lv' := [(2, .int 0), (0, .ref (ad g)), (1, .ref (ad yi))]) hx hb dX1_lay_1 rfl hl (by decide) rfl (fun ls hl => ?_)
  have outer : ∀ (r : Nat), r ≤ 8 → ∀ (M1 : Nat → Nat → Int32), fkOk M1 g → lyF M g yi = lyD M1 g r → ∀ (ls : Array Slot) (H : Heap) (locs : List Loc), lv_has ls 4 [(2, .int (nI r - 1)), (0, .ref (ad g)), (1, .ref (ad yi))] → cB9 D I Z F ad A s.heap M1 H locs → W p l e rm_lay s m args below meth c H locs 0 0 Q (F0 m 41 ls []) := by
    intro r
    induction r with
    | zero =>
      intro hr8 M1 hok1 hv ls H locs hl hW
      rw [lyD] at hv
      refine lv_iload_n hx hb dX1_lay_41 rfl (lv_at hl 0 rfl) ?_
      refine lv_if_lt (tgt := 100) hx hb dX1_lay_42 (by decide) (fun c1 => ?_) (fun c1 => ?_)
      · skip
        refine lv_aload_n hx hb dX1_lay_100 rfl (lv_at hl 1 rfl) ?_
        refine cr_get (v := .ref (ad (g + 8))) hx hb hts hin1 hown hK hW g (by omega) (cE_f0 I Z F ad M1 hg) rfl 8 (by decide) rfl (by decide +kernel) rfl dX1_lay_101 ?_
        refine lv_iconst (v := 0) hx hb dX1_lay_104 (by decide) ?_
        refine cr_iald hx hb hK hW (g + 8) (by omega) (cE_f8 I Z F ad M1 hg) 0 (by decide) (by decide) rfl dX1_lay_105 ?_
        exact hret 106 ls H locs _ _ dX1_lay_106 ⟨hv.symm, by rw [hv]⟩ hW
      · exact absurd (by decide : nI 0 - 1 < 0) c1
    | succ r ih =>
      intro hr8 M1 hok1 hv ls H locs hl hW
      rw [nI_pred] at hl
      refine lv_iload_n hx hb dX1_lay_41 rfl (lv_at hl 0 rfl) ?_
      refine lv_if_lt (tgt := 100) hx hb dX1_lay_42 (by decide) (fun c1 => ?_) (fun c1 => ?_)
      · exact absurd c1 (nI_pos (by omega))
      · skip
        refine lv_iconst (v := 0) hx hb dX1_lay_45 (by decide) ?_
        refine lv_istore_n (lv' := [(3, .int 0), (2, .int (nI r)), (0, .ref (ad g)), (1, .ref (ad yi))]) hx hb dX1_lay_46 rfl hl (by decide) rfl (fun ls hl => ?_)
        have inner : ∀ (q w : Nat), w + q = 2 ^ r → ∀ (ls : Array Slot) (H : Heap) (locs : List Loc), lv_has ls 4 [(3, .int (nI w)), (2, .int (nI r)), (0, .ref (ad g)), (1, .ref (ad yi))] → cB9 D I Z F ad A s.heap (lyW M1 g r w) H locs → W p l e rm_lay s m args below meth c H locs 0 0 Q (F0 m 47 ls []) := by
          have hp := pw8 r (by omega)
          intro q
          induction q with
          | zero =>
            intro w hw ls H locs hl hW
            obtain rfl : w = 2 ^ r := by omega
            refine lv_iload_n hx hb dX1_lay_47 rfl (lv_at hl 0 rfl) ?_
            refine lv_iconst (v := 1) hx hb dX1_lay_48 (by decide) ?_
            refine lv_iload_n hx hb dX1_lay_49 rfl (lv_at hl 1 rfl) ?_
            refine lv_ishl hx hb dX1_lay_50 ?_
            rw [sh1 r (by omega)]
            refine lv_icmp_ge (tgt := 94) hx hb dX1_lay_51 (by decide) (fun c1 => ?_) (fun c1 => ?_)
            · skip
              refine lv_iinc (v := nI r - 1) (lv' := [(2, .int (nI r - 1)), (3, .int (nI (2 ^ r))), (0, .ref (ad g)), (1, .ref (ad yi))]) hx hb dX1_lay_94 hl (k := 1) rfl (nI_m1 r) (by decide) rfl (fun ls hl => ?_)
              refine lv_goto (tgt := 41) hx hb dX1_lay_97 (by decide) ?_
              exact ih (by omega) (lyW M1 g r (2 ^ r)) (lyW_ok hok1 _) hv ls H locs (lv_sub hl [0, 2, 3] rfl) hW
            · exact absurd (nI_le (Nat.le_refl _) (by omega)) c1
          | succ q ihq =>
            intro w hw ls H locs hl hW
            refine lv_iload_n hx hb dX1_lay_47 rfl (lv_at hl 0 rfl) ?_
            refine lv_iconst (v := 1) hx hb dX1_lay_48 (by decide) ?_
            refine lv_iload_n hx hb dX1_lay_49 rfl (lv_at hl 1 rfl) ?_
            refine lv_ishl hx hb dX1_lay_50 ?_
            rw [sh1 r (by omega)]
            refine lv_icmp_ge (tgt := 94) hx hb dX1_lay_51 (by decide) (fun c1 => ?_) (fun c1 => ?_)
            · exact absurd c1 (nI_ge (by omega) (by omega))
            · skip
              refine lv_aload_n hx hb dX1_lay_54 rfl (lv_at hl 2 rfl) ?_
              refine cr_get (v := .ref (ad (g + 8))) hx hb hts hin1 hown hK hW g (by omega) (cE_f0 I Z F ad (lyW M1 g r w) hg) rfl 8 (by decide) rfl (by decide +kernel) rfl dX1_lay_55 ?_
              refine lv_iload_n hx hb dX1_lay_58 rfl (lv_at hl 0 rfl) ?_
              refine lv_aload_n hx hb dX1_lay_59 rfl (lv_at hl 2 rfl) ?_
              refine lv_aload_n hx hb dX1_lay_60 rfl (lv_at hl 2 rfl) ?_
              refine cr_get (v := .ref (ad (g + 6))) hx hb hts hin1 hown hK hW g (by omega) (cE_f0 I Z F ad (lyW M1 g r w) hg) rfl 6 (by decide) rfl (by decide +kernel) rfl dX1_lay_61 ?_
              refine lv_iload_n hx hb dX1_lay_64 rfl (lv_at hl 1 rfl) ?_
              refine cr_iald hx hb hK hW (g + 6) (by omega) (cE_f6 I Z F ad (lyW M1 g r w) hg) r (by omega) (by decide) rfl dX1_lay_65 ?_
              refine lv_aload_n hx hb dX1_lay_66 rfl (lv_at hl 2 rfl) ?_
              refine cr_get (v := .ref (ad (g + 8))) hx hb hts hin1 hown hK hW g (by omega) (cE_f0 I Z F ad (lyW M1 g r w) hg) rfl 8 (by decide) rfl (by decide +kernel) rfl dX1_lay_67 ?_
              refine lv_iconst (v := 2) hx hb dX1_lay_70 (by decide) ?_
              refine lv_iload_n hx hb dX1_lay_71 rfl (lv_at hl 0 rfl) ?_
              refine lv_imul hx hb dX1_lay_72 ?_
              rw [two_mul]
              refine cr_iald hx hb hK hW (g + 8) (by omega) (cE_f8 I Z F ad (lyW M1 g r w) hg) (2 * w) (by omega) (by decide) rfl dX1_lay_73 ?_
              refine lv_aload_n hx hb dX1_lay_74 rfl (lv_at hl 2 rfl) ?_
              refine cr_get (v := .ref (ad (g + 8))) hx hb hts hin1 hown hK hW g (by omega) (cE_f0 I Z F ad (lyW M1 g r w) hg) rfl 8 (by decide) rfl (by decide +kernel) rfl dX1_lay_75 ?_
              refine lv_iconst (v := 2) hx hb dX1_lay_78 (by decide) ?_
              refine lv_iload_n hx hb dX1_lay_79 rfl (lv_at hl 0 rfl) ?_
              refine lv_imul hx hb dX1_lay_80 ?_
              refine lv_iconst (v := 1) hx hb dX1_lay_81 (by decide) ?_
              refine lv_iadd hx hb dX1_lay_82 ?_
              rw [two_mul, nI_1]
              refine cr_iald hx hb hK hW (g + 8) (by omega) (cE_f8 I Z F ad (lyW M1 g r w) hg) (2 * w + 1) (by omega) (by decide) rfl dX1_lay_83 ?_
              obtain ⟨n, hn6, hn, hsl⟩ := lyW_ok hok1 (place := r) w
              refine cr_calli (va_runV (As := [.int ((lyW M1 g r w) (g + 6) r), .int ((lyW M1 g r w) (g + 8) (2 * w)), .int ((lyW M1 g r w) (g + 8) (2 * w + 1))]) (rest := [.int (nI w), .ref (ad (g + 8))]) ⟨hx, hb, hml, hown, hts⟩ (c_part l D I Z F ad hI (lyW M1 g r w) H.size g hg n hn hn6 hsl _ _ _) (cwV 3 hts gX1_lay_X1_part rfl rfl rfl (by decide +kernel) ⟨Nat.le_of_ble_eq_true rfl, Nat.le_of_ble_eq_true rfl⟩) (cr_preV hK hN hW g (by omega) (cE_f0 I Z F ad (lyW M1 g r w) hg) rfl) rfl rfl hl.1 rfl (lv_room (Nat.le_of_ble_eq_true rfl)) dX1_lay_84 ⟨Nat.le_refl _, Nat.le_refl _⟩) hA hDa hW (fun r u H locs hp hW => ?_)
              obtain ⟨rfl, rfl⟩ := hp
              refine cr_iast hx hb hK hDa hW (g + 8) (by omega) (cE_f8 I Z F ad (ptF (lyW M1 g r w) g (lyW M1 g r w (g + 6) r) (lyW M1 g r w (g + 8) (2 * w)) (lyW M1 g r w (g + 8) (2 * w + 1))).1 hg) w (by omega) (by decide) rfl dX1_lay_87 (fun H locs hW => ?_)
              rw [show mst (ptF (lyW M1 g r w) g (lyW M1 g r w (g + 6) r) (lyW M1 g r w (g + 8) (2 * w)) (lyW M1 g r w (g + 8) (2 * w + 1))).1 (g + 8) w (ptF (lyW M1 g r w) g (lyW M1 g r w (g + 6) r) (lyW M1 g r w (g + 8) (2 * w)) (lyW M1 g r w (g + 8) (2 * w + 1))).2 = lyW M1 g r (w + 1) from rfl] at hW
              refine lv_iinc (v := nI (w + 1)) (lv' := [(3, .int (nI (w + 1))), (2, .int (nI r)), (0, .ref (ad g)), (1, .ref (ad yi))]) hx hb dX1_lay_88 hl (k := 0) rfl (nI_1 w) (by decide) rfl (fun ls hl => ?_)
              refine lv_goto (tgt := 47) hx hb dX1_lay_91 (by decide) ?_
              exact ihq (w + 1) (by omega) ls H locs (lv_sub hl [0, 1, 2, 3] rfl) hW
        exact inner (2 ^ r) 0 (by omega) ls H locs (lv_sub hl [0, 1, 2, 3] rfl) hW
  have loop : ∀ q k : Nat, k + q = 256 → ∀ (ls : Array Slot) (H : Heap) (locs : List Loc), lv_has ls 4 [(2, .int (nI k)), (0, .ref (ad g)), (1, .ref (ad yi))] → cB9 D I Z F ad A s.heap (ly0 M g yi k) H locs → W p l e rm_lay s m args below meth c H locs 0 0 Q (F0 m 2 ls []) := by
    intro q
    induction q with
    | zero =>
      intro k hk ls H locs hl hW
      obtain rfl : k = 256 := by omega
      refine lv_iload_n hx hb dX1_lay_2 rfl (lv_at hl 0 rfl) ?_
      refine lv_sipush (v := 256) hx hb dX1_lay_3 (by decide) ?_
      refine lv_icmp_ge (tgt := 38) hx hb dX1_lay_6 (by decide) (fun c1 => ?_) (fun c1 => ?_)
      · skip
        refine lv_bipush (v := 7) hx hb dX1_lay_38 (by decide) ?_
        refine lv_istore_n (lv' := [(2, .int 7), (0, .ref (ad g)), (1, .ref (ad yi))]) hx hb dX1_lay_40 rfl hl (by decide) rfl (fun ls hl => ?_)
        exact outer 8 (by decide) _ (fkOk_mrow hok (by omega) (by omega)) rfl ls H locs (lv_sub hl [0, 1, 2] rfl) hW
      · exact absurd (nI_le (by decide) (by decide)) c1
    | succ q ih =>
      intro k hk ls H locs hl hW
      refine lv_iload_n hx hb dX1_lay_2 rfl (lv_at hl 0 rfl) ?_
      refine lv_sipush (v := 256) hx hb dX1_lay_3 (by decide) ?_
      refine lv_icmp_ge (tgt := 38) hx hb dX1_lay_6 (by decide) (fun c1 => ?_) (fun c1 => ?_)
      · exact absurd c1 (nI_ge (b := 256) (by omega) (by decide))
      · skip
        obtain ⟨a, ha, ea⟩ := haw k (by omega)
        have e7 : ly0 M g yi k (g + 7) = M (g + 7) := mrow_ne (by omega)
        have ey : ly0 M g yi k yi = M yi := mrow_ne hne
        refine lv_aload_n hx hb dX1_lay_9 rfl (lv_at hl 1 rfl) ?_
        refine cr_get (v := .ref (ad (g + 8))) hx hb hts hin1 hown hK hW g (by omega) (cE_f0 I Z F ad (ly0 M g yi k) hg) rfl 8 (by decide) rfl (by decide +kernel) rfl dX1_lay_10 ?_
        refine lv_iload_n hx hb dX1_lay_13 rfl (lv_at hl 0 rfl) ?_
        refine lv_aload_n hx hb dX1_lay_14 rfl (lv_at hl 2 rfl) ?_
        refine lv_aload_n hx hb dX1_lay_15 rfl (lv_at hl 1 rfl) ?_
        refine cr_get (v := .ref (ad (g + 7))) hx hb hts hin1 hown hK hW g (by omega) (cE_f0 I Z F ad (ly0 M g yi k) hg) rfl 7 (by decide) rfl (by decide +kernel) rfl dX1_lay_16 ?_
        refine lv_iload_n hx hb dX1_lay_19 rfl (lv_at hl 0 rfl) ?_
        refine cr_iald hx hb hK hW (g + 7) (by omega) (cE_f7 I Z F ad (ly0 M g yi k) hg) k (by omega) (by decide) rfl dX1_lay_20 ?_
        rw [e7, ea]
        refine cr_zald hx hb hK hW yi hyi (cE_arr hye _) a ha (by decide) rfl dX1_lay_21 ?_
        rw [ey]
        have hstep := ly0_s M g yi k
        rw [ea, nI_clamp (by omega)] at hstep
        refine lv_if_eq (tgt := 30) hx hb dX1_lay_22 (by decide) (fun c2 => ?_) (fun c2 => ?_)
        · skip
          rw [if_pos c2] at hstep
          refine lv_iconst (v := -1) hx hb dX1_lay_30 (by decide) ?_
          refine cr_iast hx hb hK hDa hW (g + 8) (by omega) (cE_f8 I Z F ad (ly0 M g yi k) hg) k (by omega) (by decide) rfl dX1_lay_31 (fun H locs hW => ?_)
          rw [hstep] at hW
          refine lv_iinc (v := nI (k + 1)) (lv' := [(2, .int (nI (k + 1))), (0, .ref (ad g)), (1, .ref (ad yi))]) hx hb dX1_lay_32 hl (k := 0) rfl (nI_1 k) (by decide) rfl (fun ls hl => ?_)
          refine lv_goto (tgt := 2) hx hb dX1_lay_35 (by decide) ?_
          exact ih (k + 1) (by omega) ls H locs (lv_sub hl [0, 1, 2] rfl) hW
        · skip
          rw [if_neg c2] at hstep
          refine lv_bipush (v := -2) hx hb dX1_lay_25 (by decide) ?_
          refine lv_goto (tgt := 31) hx hb dX1_lay_27 (by decide) ?_
          refine cr_iast hx hb hK hDa hW (g + 8) (by omega) (cE_f8 I Z F ad (ly0 M g yi k) hg) k (by omega) (by decide) rfl dX1_lay_31 (fun H locs hW => ?_)
          rw [hstep] at hW
          refine lv_iinc (v := nI (k + 1)) (lv' := [(2, .int (nI (k + 1))), (0, .ref (ad g)), (1, .ref (ad yi))]) hx hb dX1_lay_32 hl (k := 0) rfl (nI_1 k) (by decide) rfl (fun ls hl => ?_)
          refine lv_goto (tgt := 2) hx hb dX1_lay_35 (by decide) ?_
          exact ih (k + 1) (by omega) ls H locs (lv_sub hl [0, 1, 2] rfl) hW
  exact loop 256 0 (by decide) ls _ _ (lv_sub hl [0, 1, 2] rfl) (by rw [ly0, lyR_0, mrow_id]; exact hW)
end
section
/-! ===== the row of a fold ===== -/
def plM (M : Nat → Nat → Int32) (g b z k : Nat) : Nat → Nat → Int32 := mst (mst (mst M b 2 (nI (z + 1))) (b + 2) z (nI k)) (g + 9) k (nI z)
def wkF (g b : Nat) : Nat → (Nat → Nat → Int32) → Int32 → Nat → Nat → Int32
  | 0, M, _ => M
  | d + 1, M, part => if part < 0 then M else if M g 0 ≤ part then M else
    if M (g + 9) part.toNatClampNeg < 0 then
      (if 77 ≤ M b 2 then M else
        wkF g b d (wkF g b d (mst (plM M g b (M b 2).toNatClampNeg part.toNatClampNeg) (b + 5) (M b 2).toNatClampNeg (nI (7 - d))) ((mst (plM M g b (M b 2).toNatClampNeg part.toNatClampNeg) (b + 5) (M b 2).toNatClampNeg (nI (7 - d))) (g + 2) part.toNatClampNeg)) ((wkF g b d (mst (plM M g b (M b 2).toNatClampNeg part.toNatClampNeg) (b + 5) (M b 2).toNatClampNeg (nI (7 - d))) ((mst (plM M g b (M b 2).toNatClampNeg part.toNatClampNeg) (b + 5) (M b 2).toNatClampNeg (nI (7 - d))) (g + 2) part.toNatClampNeg)) (g + 3) part.toNatClampNeg))
    else
      (if M (b + 5) (M (g + 9) part.toNatClampNeg).toNatClampNeg ≤ nI (7 - d) then M else
        wkF g b d (wkF g b d (mst M (b + 5) (M (g + 9) part.toNatClampNeg).toNatClampNeg (nI (7 - d))) ((mst M (b + 5) (M (g + 9) part.toNatClampNeg).toNatClampNeg (nI (7 - d))) (g + 2) part.toNatClampNeg)) ((wkF g b d (mst M (b + 5) (M (g + 9) part.toNatClampNeg).toNatClampNeg (nI (7 - d))) ((mst M (b + 5) (M (g + 9) part.toNatClampNeg).toNatClampNeg (nI (7 - d))) (g + 2) part.toNatClampNeg)) (g + 3) part.toNatClampNeg))
/-- what the walk needs, and keeps: n forks, z places so far -/
def wkOk (M : Nat → Nat → Int32) (g b n : Nat) : Prop := n ≤ 626 ∧ M g 0 = nI n ∧ ∃ z : Nat, z ≤ 77 ∧ M b 2 = nI z ∧ (∀ k : Nat, k < 626 → M (g + 9) k < 0 ∨ ∃ i : Nat, i < z ∧ M (g + 9) k = nI i) ∧ ∀ i : Nat, i < z → ∃ k : Nat, k < n ∧ M (b + 2) i = nI k
theorem wkOk_pl {M : Nat → Nat → Int32} {g b n z k : Nat} (hgb : g + 9 < b) (h : wkOk M g b n) (hz : M b 2 = nI z) (hz7 : z < 77) (hk : k < n) (x : Int32) : wkOk (mst (plM M g b z k) (b + 5) z x) g b n := by
  obtain ⟨hn, h0, z0, hz0, e0, h9, h2⟩ := h
  obtain rfl : z0 = z := by rw [hz] at e0; exact ((nI_eq (by omega) (by omega)).mp e0).symm
  refine ⟨hn, ?_, z0 + 1, by omega, ?_, fun i hi => ?_, fun i hi => ?_⟩
  · unfold plM; rw [mst_ne (by omega), mst_ne (by omega), mst_ne (by omega), mst_ne (by omega)]; exact h0
  · unfold plM; rw [mst_ne (by omega), mst_ne (by omega), mst_ne (by omega), mst_same, pk_us]
  · unfold plM; rw [mst_ne (by omega), mst_same, upd_at]
    split
    · exact Or.inr ⟨z0, by omega, rfl⟩
    · rw [mst_ne (by omega), mst_ne (by omega)]
      rcases h9 i hi with h | ⟨j, hj, e⟩
      · exact Or.inl h
      · exact Or.inr ⟨j, by omega, e⟩
  · unfold plM; rw [mst_ne (by omega), mst_ne (by omega), mst_same, upd_at]
    split
    · exact ⟨k, hk, rfl⟩
    · rw [mst_ne (by omega)]; exact h2 i (by omega)
theorem wkOk_st {M : Nat → Nat → Int32} {g b n : Nat} (hgb : g + 9 < b) (h : wkOk M g b n) (i : Nat) (x : Int32) : wkOk (mst M (b + 5) i x) g b n := by
  obtain ⟨hn, h0, z, hz, e, h9, h2⟩ := h
  refine ⟨hn, by rw [mst_ne (by omega)]; exact h0, z, hz, by rw [mst_ne (by omega)]; exact e, fun i hi => ?_, fun i hi => ?_⟩
  · rw [mst_ne (by omega)]; exact h9 i hi
  · rw [mst_ne (by omega)]; exact h2 i hi
theorem part_of {part : Int32} {n : Nat} (hn : n ≤ 626) (h0 : ¬ part < 0) (h1 : ¬ nI n ≤ part) : ∃ k : Nat, k < n ∧ part = nI k := by
  obtain ⟨k, hk, rfl⟩ := nI_of h0
  refine ⟨k, ?_, rfl⟩
  rcases Nat.lt_or_ge k n with h | h
  · exact h
  · exact absurd (nI_le h hk) h1
theorem wkF_ok {g b n : Nat} (hgb : g + 9 < b) : ∀ (d : Nat) (M : Nat → Nat → Int32) (part : Int32), wkOk M g b n → wkOk (wkF g b d M part) g b n := by
  intro d
  induction d with
  | zero => intro M part h; exact h
  | succ d ih =>
    intro M part h
    rw [wkF]
    split
    · exact h
    · split
      · exact h
      · rename_i c1 c2
        rw [h.2.1] at c2
        obtain ⟨k, hk, rfl⟩ := part_of h.1 c1 c2
        rw [nI_clamp (show k < 2 ^ 31 by have := h.1; omega)]
        split
        · split
          · exact h
          · rename_i c3 c4
            obtain ⟨hn, h0, z, hz, e, h9, h2⟩ := id h
            have hz7 : z < 77 := by
              rcases Nat.lt_or_ge z 77 with q | q
              · exact q
              · exact absurd (by rw [e]; exact nI_le q (by omega)) c4
            rw [e, nI_clamp (show z < 2 ^ 31 by omega)]
            exact ih _ _ (ih _ _ (wkOk_pl hgb h e hz7 hk _))
        · split
          · exact h
          · exact ih _ _ (ih _ _ (wkOk_st hgb h _ _))
theorem plM_row {M : Nat → Nat → Int32} {g b z k i : Nat} (h1 : i ≠ b) (h2 : i ≠ b + 2) (h3 : i ≠ g + 9) : plM M g b z k i = M i := by
  unfold plM; rw [mst_ne h3, mst_ne h2, mst_ne h1]
theorem wkF_row {g b i : Nat} (h1 : i ≠ b) (h2 : i ≠ b + 2) (h3 : i ≠ g + 9) (h5 : i ≠ b + 5) : ∀ (d : Nat) (M : Nat → Nat → Int32) (part : Int32), wkF g b d M part i = M i := by
  intro d
  induction d with
  | zero => intro M part; rfl
  | succ d ih =>
    intro M part
    rw [wkF]
    split
    · rfl
    · split
      · rfl
      · split
        · split
          · rfl
          · rw [ih, ih, mst_ne h5, plM_row h1 h2 h3]
        · split
          · rfl
          · rw [ih, ih, mst_ne h5]
end
section
abbrev rm_putLast : Room := { frames := 0, cells := 0, slots := 0, locals := 0 }
set_option maxHeartbeats 4000000 in
set_option maxRecDepth 100000 in
/-- a fork is put last into a fold's row -/
theorem c_putLast (l : Launch) (D : va_G) (I Z F : ClassId) (ad : Nat → Nat) (hI : cI ad) (M : Nat → Nat → Int32) (sz : Nat) (g : Nat) (hg : g = 3 ∨ g = 15) (f : Nat) (hf : f < 12) (z : Nat) (hz : M (25 + 6 * f) 2 = nI z) (hz7 : z < 77) (k : Nat) (hk : k < 626) : Met l yX1_putLast wsX1_putLast rm_putLast (va_Pc [.ref (ad g), .ref (ad (25 + 6 * f)), .int (nI k)] (cU D I Z F ad sz M)) (va_Qi (fun (r : Int32) (u : Nat → Nat → Int32) => u = plM M g (25 + 6 * f) z k ∧ r = nI z) (fun u t => cP D I Z F ad u t.heap) (cA ad sz)) 0 0 (cA ad sz) := by
  refine cMet_i (cc := cX1_putLast) (maxL := 4) hI (by decide) rfl ⟨rfl, rfl⟩ RX1 rfl (Nat.le_of_ble_eq_true rfl) (lv := [(0, .ref (ad g)), (1, .ref (ad (25 + 6 * f))), (2, .int (nI k))]) rfl ?_
  intro p e s m args below meth c Q A ls hsz C0 hW hl hret
  obtain ⟨hx, hb, hml, hts, hown, hlocks, hK, hN, hDa, hA, hargs⟩ := C0
  have hin1 : ∀ w ∈ u_ws RX1 TX1 10, w ∈ wsX1_putLast := by decide +kernel
  have hgl : g < 16 := by omega
  have hin0 : ∀ w ∈ u_ws RX0 TX0 7, w ∈ wsX1_putLast := by decide +kernel
  refine lv_aload_n hx hb dX1_putLast_0 rfl (lv_at hl 1 rfl) ?_
  refine cr_getN (v := .int (M (25 + 6 * f) 2)) (host := "SharedForks") hx hb hts hin0 hown hK hW (25 + 6 * f) (by omega) (cE_d0 I Z F ad M f) rfl 2 (by decide) rfl hN (by decide +kernel) rfl dX1_putLast_1 ?_
  rw [hz]
  refine lv_istore_n (lv' := [(3, .int (nI z)), (0, .ref (ad g)), (1, .ref (ad (25 + 6 * f))), (2, .int (nI k))]) hx hb dX1_putLast_4 rfl hl (by decide) rfl (fun ls hl => ?_)
  refine lv_aload_n hx hb dX1_putLast_5 rfl (lv_at hl 2 rfl) ?_
  refine lv_dup hx hb dX1_putLast_6 rfl ?_
  refine cr_getN (v := .int (M (25 + 6 * f) 2)) (host := "SharedForks") hx hb hts hin0 hown hK hW (25 + 6 * f) (by omega) (cE_d0 I Z F ad M f) rfl 2 (by decide) rfl hN (by decide +kernel) rfl dX1_putLast_7 ?_
  rw [hz]
  refine lv_iconst (v := 1) hx hb dX1_putLast_10 (by decide) ?_
  refine lv_iadd hx hb dX1_putLast_11 ?_
  rw [nI_1]
  refine cr_putN (host := "SharedForks") hx hb hts hin0 tyX0 tyX0_ok nmX0 hown hK hDa hW (25 + 6 * f) (by omega) (cE_d0 I Z F ad M f) rfl 2 (by decide) rfl hN (by decide +kernel) (ty := .int) (by decide +kernel) rfl rfl (Nat.le_of_ble_eq_true rfl) (cS_d0p2 f _ _) dX1_putLast_12 (fun H locs hW => ?_)
  refine lv_aload_n hx hb dX1_putLast_15 rfl (lv_at hl 2 rfl) ?_
  refine cr_getN (v := .ref (ad (25 + 6 * f + 2))) (host := "SharedForks") hx hb hts hin0 hown hK hW (25 + 6 * f) (by omega) (cE_d0 I Z F ad (mst M (25 + 6 * f) 2 (nI (z + 1))) f) rfl 3 (by decide) rfl hN (by decide +kernel) rfl dX1_putLast_16 ?_
  refine lv_iload_n hx hb dX1_putLast_19 rfl (lv_at hl 0 rfl) ?_
  refine lv_iload_n hx hb dX1_putLast_20 rfl (lv_at hl 3 rfl) ?_
  refine cr_iast hx hb hK hDa hW (25 + 6 * f + 2) (by omega) (cE_d2 I Z F ad (mst M (25 + 6 * f) 2 (nI (z + 1))) f) z hz7 (by decide) rfl dX1_putLast_21 (fun H locs hW => ?_)
  refine lv_aload_n hx hb dX1_putLast_22 rfl (lv_at hl 1 rfl) ?_
  refine cr_get (v := .ref (ad (g + 9))) hx hb hts hin1 hown hK hW g (by omega) (cE_f0 I Z F ad (mst (mst M (25 + 6 * f) 2 (nI (z + 1))) (25 + 6 * f + 2) z (nI k)) hg) rfl 9 (by decide) rfl (by decide +kernel) rfl dX1_putLast_23 ?_
  refine lv_iload_n hx hb dX1_putLast_26 rfl (lv_at hl 3 rfl) ?_
  refine lv_iload_n hx hb dX1_putLast_27 rfl (lv_at hl 0 rfl) ?_
  refine cr_iast hx hb hK hDa hW (g + 9) (by omega) (cE_f9 I Z F ad (mst (mst M (25 + 6 * f) 2 (nI (z + 1))) (25 + 6 * f + 2) z (nI k)) hg) k hk (by decide) rfl dX1_putLast_28 (fun H locs hW => ?_)
  refine lv_iload_n hx hb dX1_putLast_29 rfl (lv_at hl 0 rfl) ?_
  exact hret 30 ls H locs _ _ dX1_putLast_30 ⟨rfl, rfl⟩ hW

def polF (M : Nat → Nat → Int32) (g : Nat) (part : Int32) : Int32 := if part < 0 then part else M (g + 9) part.toNatClampNeg
abbrev rm_placeOrLeaf : Room := { frames := 0, cells := 0, slots := 0, locals := 0 }
set_option maxHeartbeats 4000000 in
set_option maxRecDepth 100000 in
/-- the place of a part, or the leaf itself -/
theorem c_placeOrLeaf (l : Launch) (D : va_G) (I Z F : ClassId) (ad : Nat → Nat) (hI : cI ad) (M : Nat → Nat → Int32) (sz : Nat) (g : Nat) (hg : g = 3 ∨ g = 15) (part : Int32) (hp0 : part < 0 ∨ ∃ k : Nat, k < 626 ∧ part = nI k) : Met l yX1_placeOrLeaf wsX1_placeOrLeaf rm_placeOrLeaf (va_Pc [.ref (ad g), .int part] (cU D I Z F ad sz M)) (va_Qi (fun (r : Int32) (u : Nat → Nat → Int32) => u = M ∧ r = polF M g part) (fun u t => cP D I Z F ad u t.heap) (cA ad sz)) 0 0 (cA ad sz) := by
  refine cMet_i (cc := cX1_placeOrLeaf) (maxL := 2) hI (by decide) rfl ⟨rfl, rfl⟩ RX1 rfl (Nat.le_of_ble_eq_true rfl) (lv := [(0, .ref (ad g)), (1, .int part)]) rfl ?_
  intro p e s m args below meth c Q A ls hsz C0 hW hl hret
  obtain ⟨hx, hb, hml, hts, hown, hlocks, hK, hN, hDa, hA, hargs⟩ := C0
  have hin1 : ∀ w ∈ u_ws RX1 TX1 10, w ∈ wsX1_placeOrLeaf := by decide +kernel
  have hgl : g < 16 := by omega
  refine lv_iload_n hx hb dX1_placeOrLeaf_0 rfl (lv_at hl 1 rfl) ?_
  refine lv_if_ge (tgt := 8) hx hb dX1_placeOrLeaf_1 (by decide) (fun c1 => ?_) (fun c1 => ?_)
  · skip
    have hng : ¬ part < 0 := fun h => Int32.not_le.mpr h c1
    obtain ⟨k, hk, rfl⟩ := hp0.resolve_left hng
    refine lv_aload_n hx hb dX1_placeOrLeaf_8 rfl (lv_at hl 0 rfl) ?_
    refine cr_get (v := .ref (ad (g + 9))) hx hb hts hin1 hown hK hW g (by omega) (cE_f0 I Z F ad M hg) rfl 9 (by decide) rfl (by decide +kernel) rfl dX1_placeOrLeaf_9 ?_
    refine lv_iload_n hx hb dX1_placeOrLeaf_12 rfl (lv_at hl 1 rfl) ?_
    refine cr_iald hx hb hK hW (g + 9) (by omega) (cE_f9 I Z F ad M hg) k hk (by decide) rfl dX1_placeOrLeaf_13 ?_
    exact hret 14 ls _ _ _ _ dX1_placeOrLeaf_14 ⟨rfl, by rw [polF, if_neg hng, nI_clamp (by omega)]⟩ hW
  · skip
    have hng : part < 0 := Int32.not_le.mp c1
    refine lv_iload_n hx hb dX1_placeOrLeaf_4 rfl (lv_at hl 1 rfl) ?_
    refine lv_goto (tgt := 14) hx hb dX1_placeOrLeaf_5 (by decide) ?_
    exact hret 14 ls _ _ _ _ dX1_placeOrLeaf_14 ⟨rfl, by rw [polF, if_pos hng]⟩ hW

abbrev rm_walk (d : Nat) : Room := { frames := d + 1, cells := 0, slots := 0, locals := 30 * (d + 1) }
set_option maxHeartbeats 4000000 in
set_option maxRecDepth 100000 in
/-- the walk through a part's forks, with at most d levels to come -/
theorem c_walk (l : Launch) (D : va_G) (I Z F : ClassId) (ad : Nat → Nat) (hI : cI ad) (g : Nat) (hg : g = 3 ∨ g = 15) (f : Nat) (hf : f < 12) (n : Nat) : ∀ (d : Nat), d ≤ 8 → ∀ (M : Nat → Nat → Int32) (sz : Nat) (part : Int32), wkOk M g (25 + 6 * f) n → Met l yX1_walk wsX1_walk (rm_walk d) (va_Pc [.ref (ad g), .ref (ad (25 + 6 * f)), .int part, .int (nI (8 - d))] (cU D I Z F ad sz M)) (va_Qv (fun (u : Nat → Nat → Int32) => u = wkF g (25 + 6 * f) d M part) (fun u t => cP D I Z F ad u t.heap) (cA ad sz)) 0 0 (cA ad sz) := by
  intro d
  induction d with
  | zero =>
    intro hd M sz part hok
    refine cMet_v (cc := cX1_walk) (maxL := 6) hI (by decide) rfl ⟨rfl, rfl⟩ RX1 rfl (Nat.le_of_ble_eq_true rfl) (lv := [(0, .ref (ad g)), (1, .ref (ad (25 + 6 * f))), (2, .int part), (3, .int (nI (8 - 0)))]) rfl ?_
    intro p e s m args below meth c Q A ls hsz C0 hW hl hret
    obtain ⟨hx, hb, hml, hts, hown, hlocks, hK, hN, hDa, hA, hargs⟩ := C0
    have hin1 : ∀ w ∈ u_ws RX1 TX1 10, w ∈ wsX1_walk := by decide +kernel
    have hin0 : ∀ w ∈ u_ws RX0 TX0 7, w ∈ wsX1_walk := by decide +kernel
    have hgl : g < 16 := by omega
    obtain ⟨hn6, h0, z, hz7, hz, h9, h2⟩ := id hok
    refine lv_iload_n hx hb dX1_walk_0 rfl (lv_at hl 2 rfl) ?_
    refine lv_if_lt (tgt := 18) hx hb dX1_walk_1 (by decide) (fun c1 => ?_) (fun c1 => ?_)
    · skip
      exact hret 18 ls _ _ _ dX1_walk_18 rfl hW
    · skip
      refine lv_iload_n hx hb dX1_walk_4 rfl (lv_at hl 2 rfl) ?_
      refine lv_aload_n hx hb dX1_walk_5 rfl (lv_at hl 0 rfl) ?_
      refine cr_get (v := .int (M g 0)) hx hb hts hin1 hown hK hW g (by omega) (cE_f0 I Z F ad M hg) rfl 0 (by decide) rfl (by decide +kernel) rfl dX1_walk_6 ?_
      refine lv_icmp_ge (tgt := 18) hx hb dX1_walk_9 (by decide) (fun c2 => ?_) (fun c2 => ?_)
      · skip
        exact hret 18 ls _ _ _ dX1_walk_18 rfl hW
      · skip
        refine lv_iload_n hx hb dX1_walk_12 rfl (lv_at hl 3 rfl) ?_
        refine lv_bipush (v := 8) hx hb dX1_walk_13 (by decide) ?_
        refine lv_icmp_lt (tgt := 19) hx hb dX1_walk_15 (by decide) (fun c3 => ?_) (fun c3 => ?_)
        · exact absurd c3 (by decide)
        · skip
          exact hret 18 ls _ _ _ dX1_walk_18 rfl hW
  | succ d ih =>
    intro hd M sz part hok
    have e87 : 8 - (d + 1) = 7 - d := by omega
    rw [e87]
    refine cMet_v (cc := cX1_walk) (maxL := 6) hI (by decide) rfl ⟨rfl, rfl⟩ RX1 rfl (Nat.le_of_ble_eq_true rfl) (lv := [(0, .ref (ad g)), (1, .ref (ad (25 + 6 * f))), (2, .int part), (3, .int (nI (7 - d)))]) rfl ?_
    intro p e s m args below meth c Q A ls hsz C0 hW hl hret
    obtain ⟨hx, hb, hml, hts, hown, hlocks, hK, hN, hDa, hA, hargs⟩ := C0
    have hin1 : ∀ w ∈ u_ws RX1 TX1 10, w ∈ wsX1_walk := by decide +kernel
    have hin0 : ∀ w ∈ u_ws RX0 TX0 7, w ∈ wsX1_walk := by decide +kernel
    have hgl : g < 16 := by omega
    obtain ⟨hn6, h0, z, hz7, hz, h9, h2⟩ := id hok
    refine lv_iload_n hx hb dX1_walk_0 rfl (lv_at hl 2 rfl) ?_
    refine lv_if_lt (tgt := 18) hx hb dX1_walk_1 (by decide) (fun c1 => ?_) (fun c1 => ?_)
    · skip
      exact hret 18 ls _ _ _ dX1_walk_18 (by rw [wkF, if_pos c1]) hW
    · skip
      refine lv_iload_n hx hb dX1_walk_4 rfl (lv_at hl 2 rfl) ?_
      refine lv_aload_n hx hb dX1_walk_5 rfl (lv_at hl 0 rfl) ?_
      refine cr_get (v := .int (M g 0)) hx hb hts hin1 hown hK hW g (by omega) (cE_f0 I Z F ad M hg) rfl 0 (by decide) rfl (by decide +kernel) rfl dX1_walk_6 ?_
      refine lv_icmp_ge (tgt := 18) hx hb dX1_walk_9 (by decide) (fun c2 => ?_) (fun c2 => ?_)
      · skip
        exact hret 18 ls _ _ _ dX1_walk_18 (by rw [wkF, if_neg c1, if_pos c2]) hW
      · skip
        refine lv_iload_n hx hb dX1_walk_12 rfl (lv_at hl 3 rfl) ?_
        refine lv_bipush (v := 8) hx hb dX1_walk_13 (by decide) ?_
        refine lv_icmp_lt (tgt := 19) hx hb dX1_walk_15 (by decide) (fun c3 => ?_) (fun c3 => ?_)
        · skip
          have c2n := c2
          rw [h0] at c2n
          obtain ⟨k, hk, rfl⟩ := part_of hn6 c1 c2n
          have hF := wkF.eq_2 g (25 + 6 * f) M (nI k) d
          rw [if_neg c1, if_neg c2, nI_clamp (show k < 2 ^ 31 by omega)] at hF
          refine lv_aload_n hx hb dX1_walk_19 rfl (lv_at hl 0 rfl) ?_
          refine cr_get (v := .ref (ad (g + 9))) hx hb hts hin1 hown hK hW g (by omega) (cE_f0 I Z F ad M hg) rfl 9 (by decide) rfl (by decide +kernel) rfl dX1_walk_20 ?_
          refine lv_iload_n hx hb dX1_walk_23 rfl (lv_at hl 2 rfl) ?_
          refine cr_iald hx hb hK hW (g + 9) (by omega) (cE_f9 I Z F ad M hg) k (by omega) (by decide) rfl dX1_walk_24 ?_
          refine lv_istore (lv' := [(4, .int (M (g + 9) k)), (0, .ref (ad g)), (1, .ref (ad (25 + 6 * f))), (2, .int (nI k)), (3, .int (nI (7 - d)))]) hx hb dX1_walk_25 hl (by decide) rfl (fun ls hl => ?_)
          refine lv_iload hx hb dX1_walk_27 (lv_at hl 0 rfl) ?_
          refine lv_if_ge (tgt := 49) hx hb dX1_walk_29 (by decide) (fun c4 => ?_) (fun c4 => ?_)
          · skip
            have hng : ¬ M (g + 9) k < 0 := fun h => Int32.not_le.mpr h c4
            obtain ⟨i, hi, ei⟩ := (h9 k (by omega)).resolve_left hng
            rw [if_neg hng, ei, nI_clamp (show i < 2 ^ 31 by omega)] at hF
            rw [ei] at hl
            refine lv_iload_n hx hb dX1_walk_49 rfl (lv_at hl 4 rfl) ?_
            refine lv_aload_n hx hb dX1_walk_50 rfl (lv_at hl 2 rfl) ?_
            refine cr_getN (v := .ref (ad (25 + 6 * f + 5))) (host := "SharedForks") hx hb hts hin0 hown hK hW (25 + 6 * f) (by omega) (cE_d0 I Z F ad M f) rfl 6 (by decide) rfl hN (by decide +kernel) rfl dX1_walk_51 ?_
            refine lv_iload hx hb dX1_walk_54 (lv_at hl 0 rfl) ?_
            refine cr_iald hx hb hK hW (25 + 6 * f + 5) (by omega) (cE_d5 I Z F ad M f) i (by omega) (by decide) rfl dX1_walk_56 ?_
            refine lv_icmp_lt (tgt := 64) hx hb dX1_walk_57 (by decide) (fun c5 => ?_) (fun c5 => ?_)
            · skip
              rw [if_neg (fun h => Int32.not_le.mpr c5 h)] at hF
              refine lv_iconst (v := 0) hx hb dX1_walk_64 (by decide) ?_
              refine lv_istore (lv' := [(5, .int 0), (4, .int (nI i)), (0, .ref (ad g)), (1, .ref (ad (25 + 6 * f))), (2, .int (nI k)), (3, .int (nI (7 - d)))]) hx hb dX1_walk_65 hl (by decide) rfl (fun ls hl => ?_)
              refine lv_iload hx hb dX1_walk_67 (lv_at hl 0 rfl) ?_
              refine lv_if_eq (tgt := 73) hx hb dX1_walk_69 (by decide) (fun c6 => ?_) (fun c6 => ?_)
              · skip
                refine lv_iload hx hb dX1_walk_73 (lv_at hl 1 rfl) ?_
                refine lv_if_ge (tgt := 86) hx hb dX1_walk_75 (by decide) (fun c7 => ?_) (fun c7 => ?_)
                · skip
                  refine lv_aload_n hx hb dX1_walk_86 rfl (lv_at hl 3 rfl) ?_
                  refine cr_getN (v := .ref (ad (25 + 6 * f + 5))) (host := "SharedForks") hx hb hts hin0 hown hK hW (25 + 6 * f) (by omega) (cE_d0 I Z F ad M f) rfl 6 (by decide) rfl hN (by decide +kernel) rfl dX1_walk_87 ?_
                  refine lv_iload hx hb dX1_walk_90 (lv_at hl 1 rfl) ?_
                  refine lv_iload_n hx hb dX1_walk_92 rfl (lv_at hl 5 rfl) ?_
                  refine cr_iast hx hb hK hDa hW (25 + 6 * f + 5) (by omega) (cE_d5 I Z F ad M f) i (by omega) (by decide) rfl dX1_walk_93 (fun H locs hW => ?_)
                  obtain ⟨M2, hM2⟩ : ∃ M2, M2 = (mst M (25 + 6 * f + 5) i (nI (7 - d))) := ⟨_, rfl⟩
                  rw [← hM2] at hW
                  have hok2 : wkOk M2 g (25 + 6 * f) n := by rw [hM2]; exact wkOk_st (by omega) hok _ _
                  rw [← hM2] at hF
                  refine lv_aload_n hx hb dX1_walk_94 rfl (lv_at hl 2 rfl) ?_
                  refine lv_aload_n hx hb dX1_walk_95 rfl (lv_at hl 3 rfl) ?_
                  refine lv_aload_n hx hb dX1_walk_96 rfl (lv_at hl 2 rfl) ?_
                  refine cr_get (v := .ref (ad (g + 2))) hx hb hts hin1 hown hK hW g (by omega) (cE_f0 I Z F ad M2 hg) rfl 2 (by decide) rfl (by decide +kernel) rfl dX1_walk_97 ?_
                  refine lv_iload_n hx hb dX1_walk_100 rfl (lv_at hl 4 rfl) ?_
                  refine cr_iald hx hb hK hW (g + 2) (by omega) (cE_f2 I Z F ad M2 hg) k (by omega) (by decide) rfl dX1_walk_101 ?_
                  refine lv_iload_n hx hb dX1_walk_102 rfl (lv_at hl 5 rfl) ?_
                  refine lv_iconst (v := 1) hx hb dX1_walk_103 (by decide) ?_
                  refine lv_iadd hx hb dX1_walk_104 ?_
                  rw [nI_1, show 7 - d + 1 = 8 - d by omega]
                  refine cr_callv (va_runS (As := [.ref (ad g), .ref (ad (25 + 6 * f)), .int (M2 (g + 2) k), .int (nI (8 - d))]) (rest := []) ⟨hx, hb, hml, hown, hts⟩ (ih (by omega) M2 H.size ((M2 (g + 2) k)) hok2) (va_cwS 4 hts gX1_walk_X1_walk rfl rfl rfl (by decide +kernel) ⟨Nat.le_refl _, by show 8 + (6 + 11) + 30 * (d + 1) ≤ 30 * (d + 1 + 1); omega⟩) (cr_preS hK hN hW) rfl rfl hl.1 rfl (lv_room (Nat.le_of_ble_eq_true rfl)) dX1_walk_105 ⟨Nat.le_refl _, Nat.le_refl _⟩) hA hDa hW (fun u H locs hp hW => ?_)
                  obtain ⟨M3, hM3⟩ : ∃ M3, M3 = wkF g (25 + 6 * f) d M2 ((M2 (g + 2) k)) := ⟨_, rfl⟩
                  rw [← hM3] at hp hF
                  have hok3 : wkOk M3 g (25 + 6 * f) n := by rw [hM3]; exact wkF_ok (by omega) _ _ _ hok2
                  rw [hp] at hW
                  refine lv_aload_n hx hb dX1_walk_108 rfl (lv_at hl 2 rfl) ?_
                  refine lv_aload_n hx hb dX1_walk_109 rfl (lv_at hl 3 rfl) ?_
                  refine lv_aload_n hx hb dX1_walk_110 rfl (lv_at hl 2 rfl) ?_
                  refine cr_get (v := .ref (ad (g + 3))) hx hb hts hin1 hown hK hW g (by omega) (cE_f0 I Z F ad M3 hg) rfl 3 (by decide) rfl (by decide +kernel) rfl dX1_walk_111 ?_
                  refine lv_iload_n hx hb dX1_walk_114 rfl (lv_at hl 4 rfl) ?_
                  refine cr_iald hx hb hK hW (g + 3) (by omega) (cE_f3 I Z F ad M3 hg) k (by omega) (by decide) rfl dX1_walk_115 ?_
                  refine lv_iload_n hx hb dX1_walk_116 rfl (lv_at hl 5 rfl) ?_
                  refine lv_iconst (v := 1) hx hb dX1_walk_117 (by decide) ?_
                  refine lv_iadd hx hb dX1_walk_118 ?_
                  rw [nI_1, show 7 - d + 1 = 8 - d by omega]
                  refine cr_callv (va_runS (As := [.ref (ad g), .ref (ad (25 + 6 * f)), .int (M3 (g + 3) k), .int (nI (8 - d))]) (rest := []) ⟨hx, hb, hml, hown, hts⟩ (ih (by omega) M3 H.size ((M3 (g + 3) k)) hok3) (va_cwS 4 hts gX1_walk_X1_walk rfl rfl rfl (by decide +kernel) ⟨Nat.le_refl _, by show 8 + (6 + 11) + 30 * (d + 1) ≤ 30 * (d + 1 + 1); omega⟩) (cr_preS hK hN hW) rfl rfl hl.1 rfl (lv_room (Nat.le_of_ble_eq_true rfl)) dX1_walk_119 ⟨Nat.le_refl _, Nat.le_refl _⟩) hA hDa hW (fun u H locs hp hW => ?_)
                  exact hret 122 ls H locs _ dX1_walk_122 (by rw [hp, hF]) hW
                · exact absurd (nI_pos' (by omega)) c7
              · exact absurd c6 (by decide)
            · skip
              rw [if_pos (Int32.not_lt.mp c5)] at hF
              refine lv_iconst (v := 1) hx hb dX1_walk_60 (by decide) ?_
              refine lv_goto (tgt := 65) hx hb dX1_walk_61 (by decide) ?_
              refine lv_istore (lv' := [(5, .int 1), (4, .int (nI i)), (0, .ref (ad g)), (1, .ref (ad (25 + 6 * f))), (2, .int (nI k)), (3, .int (nI (7 - d)))]) hx hb dX1_walk_65 hl (by decide) rfl (fun ls hl => ?_)
              refine lv_iload hx hb dX1_walk_67 (lv_at hl 0 rfl) ?_
              refine lv_if_eq (tgt := 73) hx hb dX1_walk_69 (by decide) (fun c6 => ?_) (fun c6 => ?_)
              · exact absurd c6 (by decide)
              · skip
                exact hret 72 ls _ _ _ dX1_walk_72 hF.symm hW
          · skip
            have hng : M (g + 9) k < 0 := Int32.not_le.mp c4
            rw [if_pos hng] at hF
            refine lv_aload_n hx hb dX1_walk_32 rfl (lv_at hl 2 rfl) ?_
            refine cr_getN (v := .int (M (25 + 6 * f) 2)) (host := "SharedForks") hx hb hts hin0 hown hK hW (25 + 6 * f) (by omega) (cE_d0 I Z F ad M f) rfl 2 (by decide) rfl hN (by decide +kernel) rfl dX1_walk_33 ?_
            refine lv_bipush (v := 77) hx hb dX1_walk_36 (by decide) ?_
            refine lv_icmp_lt (tgt := 45) hx hb dX1_walk_38 (by decide) (fun c5 => ?_) (fun c5 => ?_)
            · skip
              rw [if_neg (fun h => Int32.not_le.mpr c5 h), hz, nI_clamp (show z < 2 ^ 31 by omega)] at hF
              have hz8 : z < 77 := by rw [hz] at c5; exact (nI_ltI (by omega) (by decide)).mp c5
              refine lv_iconst (v := 0) hx hb dX1_walk_45 (by decide) ?_
              refine lv_goto (tgt := 65) hx hb dX1_walk_46 (by decide) ?_
              refine lv_istore (lv' := [(5, .int 0), (4, .int (M (g + 9) k)), (0, .ref (ad g)), (1, .ref (ad (25 + 6 * f))), (2, .int (nI k)), (3, .int (nI (7 - d)))]) hx hb dX1_walk_65 hl (by decide) rfl (fun ls hl => ?_)
              refine lv_iload hx hb dX1_walk_67 (lv_at hl 0 rfl) ?_
              refine lv_if_eq (tgt := 73) hx hb dX1_walk_69 (by decide) (fun c6 => ?_) (fun c6 => ?_)
              · skip
                refine lv_iload hx hb dX1_walk_73 (lv_at hl 1 rfl) ?_
                refine lv_if_ge (tgt := 86) hx hb dX1_walk_75 (by decide) (fun c7 => ?_) (fun c7 => ?_)
                · exact absurd c7 c4
                · skip
                  refine lv_aload_n hx hb dX1_walk_78 rfl (lv_at hl 2 rfl) ?_
                  refine lv_aload_n hx hb dX1_walk_79 rfl (lv_at hl 3 rfl) ?_
                  refine lv_iload_n hx hb dX1_walk_80 rfl (lv_at hl 4 rfl) ?_
                  refine cr_calli (va_runV (As := [.ref (ad (25 + 6 * f)), .int (nI k)]) (rest := []) ⟨hx, hb, hml, hown, hts⟩ (c_putLast l D I Z F ad hI M s.heap.size g hg f hf z hz hz8 k (by omega)) (cwV 2 hts gX1_walk_X1_putLast rfl rfl rfl (by decide +kernel) ⟨by show 0 + 1 ≤ d + 1 + 1; omega, by show 8 + (4 + 11) + 0 ≤ 30 * (d + 1 + 1); omega⟩) (cr_preV hK hN hW g (by omega) (cE_f0 I Z F ad M hg) rfl) rfl rfl hl.1 rfl (lv_room (Nat.le_of_ble_eq_true rfl)) dX1_walk_81 ⟨Nat.le_refl _, Nat.le_refl _⟩) hA hDa hW (fun r u H locs hp hW => ?_)
                  obtain ⟨rfl, rfl⟩ := hp
                  refine lv_istore (lv' := [(4, .int (nI z)), (5, .int 0), (0, .ref (ad g)), (1, .ref (ad (25 + 6 * f))), (2, .int (nI k)), (3, .int (nI (7 - d)))]) hx hb dX1_walk_84 hl (by decide) rfl (fun ls hl => ?_)
                  refine lv_aload_n hx hb dX1_walk_86 rfl (lv_at hl 3 rfl) ?_
                  refine cr_getN (v := .ref (ad (25 + 6 * f + 5))) (host := "SharedForks") hx hb hts hin0 hown hK hW (25 + 6 * f) (by omega) (cE_d0 I Z F ad (plM M g (25 + 6 * f) z k) f) rfl 6 (by decide) rfl hN (by decide +kernel) rfl dX1_walk_87 ?_
                  refine lv_iload hx hb dX1_walk_90 (lv_at hl 0 rfl) ?_
                  refine lv_iload_n hx hb dX1_walk_92 rfl (lv_at hl 5 rfl) ?_
                  refine cr_iast hx hb hK hDa hW (25 + 6 * f + 5) (by omega) (cE_d5 I Z F ad (plM M g (25 + 6 * f) z k) f) z hz8 (by decide) rfl dX1_walk_93 (fun H locs hW => ?_)
                  obtain ⟨M2, hM2⟩ : ∃ M2, M2 = (mst (plM M g (25 + 6 * f) z k) (25 + 6 * f + 5) z (nI (7 - d))) := ⟨_, rfl⟩
                  rw [← hM2] at hW
                  have hok2 : wkOk M2 g (25 + 6 * f) n := by rw [hM2]; exact wkOk_pl (by omega) hok hz hz8 hk _
                  rw [← hM2] at hF
                  refine lv_aload_n hx hb dX1_walk_94 rfl (lv_at hl 2 rfl) ?_
                  refine lv_aload_n hx hb dX1_walk_95 rfl (lv_at hl 3 rfl) ?_
                  refine lv_aload_n hx hb dX1_walk_96 rfl (lv_at hl 2 rfl) ?_
                  refine cr_get (v := .ref (ad (g + 2))) hx hb hts hin1 hown hK hW g (by omega) (cE_f0 I Z F ad M2 hg) rfl 2 (by decide) rfl (by decide +kernel) rfl dX1_walk_97 ?_
                  refine lv_iload_n hx hb dX1_walk_100 rfl (lv_at hl 4 rfl) ?_
                  refine cr_iald hx hb hK hW (g + 2) (by omega) (cE_f2 I Z F ad M2 hg) k (by omega) (by decide) rfl dX1_walk_101 ?_
                  refine lv_iload_n hx hb dX1_walk_102 rfl (lv_at hl 5 rfl) ?_
                  refine lv_iconst (v := 1) hx hb dX1_walk_103 (by decide) ?_
                  refine lv_iadd hx hb dX1_walk_104 ?_
                  rw [nI_1, show 7 - d + 1 = 8 - d by omega]
                  refine cr_callv (va_runS (As := [.ref (ad g), .ref (ad (25 + 6 * f)), .int (M2 (g + 2) k), .int (nI (8 - d))]) (rest := []) ⟨hx, hb, hml, hown, hts⟩ (ih (by omega) M2 H.size ((M2 (g + 2) k)) hok2) (va_cwS 4 hts gX1_walk_X1_walk rfl rfl rfl (by decide +kernel) ⟨Nat.le_refl _, by show 8 + (6 + 11) + 30 * (d + 1) ≤ 30 * (d + 1 + 1); omega⟩) (cr_preS hK hN hW) rfl rfl hl.1 rfl (lv_room (Nat.le_of_ble_eq_true rfl)) dX1_walk_105 ⟨Nat.le_refl _, Nat.le_refl _⟩) hA hDa hW (fun u H locs hp hW => ?_)
                  obtain ⟨M3, hM3⟩ : ∃ M3, M3 = wkF g (25 + 6 * f) d M2 ((M2 (g + 2) k)) := ⟨_, rfl⟩
                  rw [← hM3] at hp hF
                  have hok3 : wkOk M3 g (25 + 6 * f) n := by rw [hM3]; exact wkF_ok (by omega) _ _ _ hok2
                  rw [hp] at hW
                  refine lv_aload_n hx hb dX1_walk_108 rfl (lv_at hl 2 rfl) ?_
                  refine lv_aload_n hx hb dX1_walk_109 rfl (lv_at hl 3 rfl) ?_
                  refine lv_aload_n hx hb dX1_walk_110 rfl (lv_at hl 2 rfl) ?_
                  refine cr_get (v := .ref (ad (g + 3))) hx hb hts hin1 hown hK hW g (by omega) (cE_f0 I Z F ad M3 hg) rfl 3 (by decide) rfl (by decide +kernel) rfl dX1_walk_111 ?_
                  refine lv_iload_n hx hb dX1_walk_114 rfl (lv_at hl 4 rfl) ?_
                  refine cr_iald hx hb hK hW (g + 3) (by omega) (cE_f3 I Z F ad M3 hg) k (by omega) (by decide) rfl dX1_walk_115 ?_
                  refine lv_iload_n hx hb dX1_walk_116 rfl (lv_at hl 5 rfl) ?_
                  refine lv_iconst (v := 1) hx hb dX1_walk_117 (by decide) ?_
                  refine lv_iadd hx hb dX1_walk_118 ?_
                  rw [nI_1, show 7 - d + 1 = 8 - d by omega]
                  refine cr_callv (va_runS (As := [.ref (ad g), .ref (ad (25 + 6 * f)), .int (M3 (g + 3) k), .int (nI (8 - d))]) (rest := []) ⟨hx, hb, hml, hown, hts⟩ (ih (by omega) M3 H.size ((M3 (g + 3) k)) hok3) (va_cwS 4 hts gX1_walk_X1_walk rfl rfl rfl (by decide +kernel) ⟨Nat.le_refl _, by show 8 + (6 + 11) + 30 * (d + 1) ≤ 30 * (d + 1 + 1); omega⟩) (cr_preS hK hN hW) rfl rfl hl.1 rfl (lv_room (Nat.le_of_ble_eq_true rfl)) dX1_walk_119 ⟨Nat.le_refl _, Nat.le_refl _⟩) hA hDa hW (fun u H locs hp hW => ?_)
                  exact hret 122 ls H locs _ dX1_walk_122 (by rw [hp, hF]) hW
              · exact absurd c6 (by decide)
            · skip
              rw [if_pos (Int32.not_lt.mp c5)] at hF
              refine lv_iconst (v := 1) hx hb dX1_walk_41 (by decide) ?_
              refine lv_goto (tgt := 65) hx hb dX1_walk_42 (by decide) ?_
              refine lv_istore (lv' := [(5, .int 1), (4, .int (M (g + 9) k)), (0, .ref (ad g)), (1, .ref (ad (25 + 6 * f))), (2, .int (nI k)), (3, .int (nI (7 - d)))]) hx hb dX1_walk_65 hl (by decide) rfl (fun ls hl => ?_)
              refine lv_iload hx hb dX1_walk_67 (lv_at hl 0 rfl) ?_
              refine lv_if_eq (tgt := 73) hx hb dX1_walk_69 (by decide) (fun c6 => ?_) (fun c6 => ?_)
              · exact absurd c6 (by decide)
              · skip
                exact hret 72 ls _ _ _ dX1_walk_72 hF.symm hW
        · exact absurd ((nI_ltI (by omega) (by decide)).mpr (show 7 - d < 8 by omega)) c3
end
section
/-- low and high parts are leaves or numbers of forks -/
def lhOk (M : Nat → Nat → Int32) (g n : Nat) : Prop := ∀ k : Nat, k < n → (M (g + 2) k < 0 ∨ ∃ j : Nat, j < 626 ∧ M (g + 2) k = nI j) ∧ (M (g + 3) k < 0 ∨ ∃ j : Nat, j < 626 ∧ M (g + 3) k = nI j)
def pr1 (M : Nat → Nat → Int32) (b : Nat) : Nat → Nat → Int32 := mst M b 2 0
def pr2 (M : Nat → Nat → Int32) (g b : Nat) : Nat → Nat → Int32 := mrow (pr1 M b) (g + 9) (flF (-1) 626 (pr1 M b (g + 9)))
def pr3 (M : Nat → Nat → Int32) (g b : Nat) (part : Int32) : Nat → Nat → Int32 := wkF g b 8 (pr2 M g b) part
def prA (M : Nat → Nat → Int32) (g k : Nat) : Nat → Nat → Int32 := mst M (g + 4) k (M (g + 4) k + 1)
def prB (M : Nat → Nat → Int32) (g b i k : Nat) : Nat → Nat → Int32 := mst M (b + 3) i (polF M g (M (g + 2) k))
def prC (M : Nat → Nat → Int32) (g b i k : Nat) : Nat → Nat → Int32 := mst M (b + 4) i (polF M g (M (g + 3) k))
def prL (M : Nat → Nat → Int32) (g b : Nat) : Nat → Nat → Nat → Int32
  | 0 => M
  | i + 1 => prC (prB (prA (prL M g b i) g (prL M g b i (b + 2) i).toNatClampNeg) g b i (prL M g b i (b + 2) i).toNatClampNeg) g b i (prL M g b i (b + 2) i).toNatClampNeg
def prF (M : Nat → Nat → Int32) (g b : Nat) (part : Int32) : Nat → Nat → Int32 := prL (pr3 M g b part) g b (pr3 M g b part b 2).toNatClampNeg
theorem prL_row {M : Nat → Nat → Int32} {g b i : Nat} (h1 : i ≠ g + 4) (h2 : i ≠ b + 3) (h3 : i ≠ b + 4) : ∀ j : Nat, prL M g b j i = M i := by
  intro j
  induction j with
  | zero => rfl
  | succ j ih => rw [prL, prC, mst_ne h3, prB, mst_ne h2, prA, mst_ne h1, ih]
theorem pr2_row {M : Nat → Nat → Int32} {g b i : Nat} (h1 : i ≠ b) (h2 : i ≠ g + 9) : pr2 M g b i = M i := by rw [pr2, mrow_ne h2, pr1, mst_ne h1]
theorem pr2_ok {M : Nat → Nat → Int32} {g b n : Nat} (hgb : g + 9 < b) (hn : n ≤ 626) (h0 : M g 0 = nI n) : wkOk (pr2 M g b) g b n := by
  refine ⟨hn, by rw [pr2_row (by omega) (by omega)]; exact h0, 0, by omega, ?_, fun k hk => Or.inl ?_, fun i hi => by omega⟩
  · rw [pr2, mrow_ne (by omega), pr1, mst_same, pk_us]; rfl
  · rw [pr2, mrow_same, flF, if_pos hk]; decide
theorem pr3_ok {M : Nat → Nat → Int32} {g b n : Nat} (hgb : g + 9 < b) (hn : n ≤ 626) (h0 : M g 0 = nI n) (part : Int32) : wkOk (pr3 M g b part) g b n := wkF_ok hgb _ _ _ (pr2_ok hgb hn h0)
theorem pr3_row {M : Nat → Nat → Int32} {g b i : Nat} {part : Int32} (h1 : i ≠ b) (h2 : i ≠ b + 2) (h3 : i ≠ g + 9) (h5 : i ≠ b + 5) : pr3 M g b part i = M i := by
  rw [pr3, wkF_row h1 h2 h3 h5, pr2_row h1 h3]
theorem prF_row {M : Nat → Nat → Int32} {g b i : Nat} {part : Int32} (h1 : i < b ∨ b + 5 < i ∨ i = b + 1) (h4 : i ≠ g + 4) (h9 : i ≠ g + 9) : prF M g b part i = M i := by
  rw [prF, prL_row h4 (by omega) (by omega), pr3_row (by omega) (by omega) h9 (by omega)]
end
section
abbrev rm_putInRow : Room := { frames := 10, cells := 0, slots := 0, locals := 400 }
set_option maxHeartbeats 4000000 in
set_option maxRecDepth 100000 in
/-- a fold's row is written -/
theorem c_putInRow (l : Launch) (D : va_G) (I Z F : ClassId) (ad : Nat → Nat) (hI : cI ad) (M : Nat → Nat → Int32) (sz : Nat) (g : Nat) (hg : g = 3 ∨ g = 15) (f : Nat) (hf : f < 12) (n : Nat) (hn6 : n ≤ 626) (h0 : M g 0 = nI n) (hlh : lhOk M g n) (part : Int32) : Met l yX1_putInRow wsX1_putInRow rm_putInRow (va_Pc [.ref (ad g), .ref (ad (25 + 6 * f)), .int part] (cU D I Z F ad sz M)) (va_Qv (fun (u : Nat → Nat → Int32) => u = prF M g (25 + 6 * f) part) (fun u t => cP D I Z F ad u t.heap) (cA ad sz)) 0 0 (cA ad sz) := by
  refine cMet_v (cc := cX1_putInRow) (maxL := 5) hI (by decide) rfl ⟨rfl, rfl⟩ RX1 rfl (Nat.le_of_ble_eq_true rfl) (lv := [(0, .ref (ad g)), (1, .ref (ad (25 + 6 * f))), (2, .int part)]) rfl ?_
  intro p e s m args below meth c Q A ls hsz C0 hW hl hret
  obtain ⟨hx, hb, hml, hts, hown, hlocks, hK, hN, hDa, hA, hargs⟩ := C0
  have hin1 : ∀ w ∈ u_ws RX1 TX1 10, w ∈ wsX1_putInRow := by decide +kernel
  have hgl : g < 16 := by omega
  have hin0 : ∀ w ∈ u_ws RX0 TX0 7, w ∈ wsX1_putInRow := by decide +kernel
  refine lv_aload_n hx hb dX1_putInRow_0 rfl (lv_at hl 1 rfl) ?_
  refine lv_iconst (v := 0) hx hb dX1_putInRow_1 (by decide) ?_
  refine cr_putN (host := "SharedForks") hx hb hts hin0 tyX0 tyX0_ok nmX0 hown hK hDa hW (25 + 6 * f) (by omega) (cE_d0 I Z F ad M f) rfl 2 (by decide) rfl hN (by decide +kernel) (ty := .int) (by decide +kernel) rfl rfl (Nat.le_of_ble_eq_true rfl) (cS_d0p2 f _ _) dX1_putInRow_2 (fun H locs hW => ?_)
  rw [show mst M (25 + 6 * f) 2 0 = pr1 M (25 + 6 * f) from rfl] at hW
  refine lv_aload_n hx hb dX1_putInRow_5 rfl (lv_at hl 0 rfl) ?_
  refine cr_get (v := .ref (ad (g + 9))) hx hb hts hin1 hown hK hW g (by omega) (cE_f0 I Z F ad (pr1 M (25 + 6 * f)) hg) rfl 9 (by decide) rfl (by decide +kernel) rfl dX1_putInRow_6 ?_
  refine lv_iconst (v := -1) hx hb dX1_putInRow_9 (by decide) ?_
  refine cr_callv (va_runS (As := [.ref (ad (g + 9)), .int (-1)]) (rest := []) ⟨hx, hb, hml, hown, hts⟩ (c_fill l D I Z F ad hI (pr1 M (25 + 6 * f)) H.size (g + 9) 626 (by omega) (by decide) (cE_f9 I Z F ad _ hg) (-1)) (va_cwS 2 hts gX1_putInRow_J7_fill_53178 rfl rfl rfl (by decide +kernel) ⟨Nat.le_of_ble_eq_true rfl, Nat.le_of_ble_eq_true rfl⟩) (cr_preS hK hN hW) rfl rfl hl.1 rfl (lv_room (Nat.le_of_ble_eq_true rfl)) dX1_putInRow_10 ⟨Nat.le_refl _, Nat.le_refl _⟩) hA hDa hW (fun u H locs hp hW => ?_)
  obtain rfl := hp
  rw [show mrow (pr1 M (25 + 6 * f)) (g + 9) (flF (-1) 626 (pr1 M (25 + 6 * f) (g + 9))) = pr2 M g (25 + 6 * f) from rfl] at hW
  refine lv_aload_n hx hb dX1_putInRow_13 rfl (lv_at hl 0 rfl) ?_
  refine lv_aload_n hx hb dX1_putInRow_14 rfl (lv_at hl 1 rfl) ?_
  refine lv_iload_n hx hb dX1_putInRow_15 rfl (lv_at hl 2 rfl) ?_
  refine lv_iconst (v := 0) hx hb dX1_putInRow_16 (by decide) ?_
  refine cr_callv (va_runS (As := [.ref (ad g), .ref (ad (25 + 6 * f)), .int part, .int 0]) (rest := []) ⟨hx, hb, hml, hown, hts⟩ (c_walk l D I Z F ad hI g hg f hf n 8 (Nat.le_refl _) (pr2 M g (25 + 6 * f)) H.size part (pr2_ok (by omega) hn6 h0)) (va_cwS 4 hts gX1_putInRow_X1_walk rfl rfl rfl (by decide +kernel) ⟨Nat.le_of_ble_eq_true rfl, Nat.le_of_ble_eq_true rfl⟩) (cr_preS hK hN hW) rfl rfl hl.1 rfl (lv_room (Nat.le_of_ble_eq_true rfl)) dX1_putInRow_17 ⟨Nat.le_refl _, Nat.le_refl _⟩) hA hDa hW (fun u H locs hp hW => ?_)
  obtain rfl := hp
  rw [show wkF g (25 + 6 * f) 8 (pr2 M g (25 + 6 * f)) part = pr3 M g (25 + 6 * f) part from rfl] at hW
  obtain ⟨-, e0, z, hz7, hz, h9, h2⟩ := pr3_ok (M := M) (g := g) (b := (25 + 6 * f)) (by omega) hn6 h0 part
  have hF : prF M g (25 + 6 * f) part = prL (pr3 M g (25 + 6 * f) part) g (25 + 6 * f) z := by rw [prF, hz, nI_clamp (by omega)]
  have r2 : (pr3 M g (25 + 6 * f) part) (g + 2) = M (g + 2) := pr3_row (by omega) (by omega) (by omega) (by omega)
  have r3 : (pr3 M g (25 + 6 * f) part) (g + 3) = M (g + 3) := pr3_row (by omega) (by omega) (by omega) (by omega)
  obtain ⟨P, hP⟩ : ∃ P, P = (pr3 M g (25 + 6 * f) part) := ⟨_, rfl⟩
  rw [← hP] at hW e0 hz h9 h2 hF r2 r3
  refine lv_iconst (v := 0) hx hb dX1_putInRow_20 (by decide) ?_
  refine lv_istore_n (lv' := [(3, .int 0), (0, .ref (ad g)), (1, .ref (ad (25 + 6 * f))), (2, .int part)]) hx hb dX1_putInRow_21 rfl hl (by decide) rfl (fun ls hl => ?_)
  have loop : ∀ q i : Nat, i + q = z → ∀ (ls : Array Slot) (H : Heap) (locs : List Loc), lv_has ls 5 [(3, .int (nI i)), (0, .ref (ad g)), (1, .ref (ad (25 + 6 * f))), (2, .int part)] → cB9 D I Z F ad A s.heap (prL P g (25 + 6 * f) i) H locs → W p l e rm_putInRow s m args below meth c H locs 0 0 Q (F0 m 22 ls []) := by
    intro q
    induction q with
    | zero =>
      intro i hi ls H locs hl hW
      obtain rfl : i = z := by omega
      have ez : prL P g (25 + 6 * f) i (25 + 6 * f) 2 = nI i := by rw [prL_row (by omega) (by omega) (by omega)]; exact hz
      refine lv_iload_n hx hb dX1_putInRow_22 rfl (lv_at hl 0 rfl) ?_
      refine lv_aload_n hx hb dX1_putInRow_23 rfl (lv_at hl 2 rfl) ?_
      refine cr_getN (v := .int ((prL P g (25 + 6 * f) i) (25 + 6 * f) 2)) (host := "SharedForks") hx hb hts hin0 hown hK hW (25 + 6 * f) (by omega) (cE_d0 I Z F ad (prL P g (25 + 6 * f) i) f) rfl 2 (by decide) rfl hN (by decide +kernel) rfl dX1_putInRow_24 ?_
      rw [ez]
      refine lv_icmp_ge (tgt := 89) hx hb dX1_putInRow_27 (by decide) (fun c1 => ?_) (fun c1 => ?_)
      · skip
        exact hret 89 ls H locs _ dX1_putInRow_89 hF.symm hW
      · exact absurd (nI_le (Nat.le_refl _) (by omega)) c1
    | succ q ih =>
      intro i hi ls H locs hl hW
      have hstep := prL.eq_2 P g (25 + 6 * f) i
      have ez : prL P g (25 + 6 * f) i (25 + 6 * f) 2 = nI z := by rw [prL_row (by omega) (by omega) (by omega)]; exact hz
      obtain ⟨k, hk, ek⟩ := h2 i (by omega)
      have ef : prL P g (25 + 6 * f) i (25 + 6 * f + 2) i = nI k := by rw [prL_row (by omega) (by omega) (by omega)]; exact ek
      rw [ef, nI_clamp (show k < 2 ^ 31 by omega)] at hstep
      have g2 : prL P g (25 + 6 * f) i (g + 2) = M (g + 2) := by rw [prL_row (by omega) (by omega) (by omega)]; exact r2
      have g3 : prL P g (25 + 6 * f) i (g + 3) = M (g + 3) := by rw [prL_row (by omega) (by omega) (by omega)]; exact r3
      obtain ⟨X, hX⟩ : ∃ X, X = prL P g (25 + 6 * f) i := ⟨_, rfl⟩
      rw [← hX] at hW ez ef g2 g3 hstep
      refine lv_iload_n hx hb dX1_putInRow_22 rfl (lv_at hl 0 rfl) ?_
      refine lv_aload_n hx hb dX1_putInRow_23 rfl (lv_at hl 2 rfl) ?_
      refine cr_getN (v := .int (X (25 + 6 * f) 2)) (host := "SharedForks") hx hb hts hin0 hown hK hW (25 + 6 * f) (by omega) (cE_d0 I Z F ad X f) rfl 2 (by decide) rfl hN (by decide +kernel) rfl dX1_putInRow_24 ?_
      rw [ez]
      refine lv_icmp_ge (tgt := 89) hx hb dX1_putInRow_27 (by decide) (fun c1 => ?_) (fun c1 => ?_)
      · exact absurd c1 (nI_ge (by omega) (by omega))
      · skip
        refine lv_aload_n hx hb dX1_putInRow_30 rfl (lv_at hl 2 rfl) ?_
        refine cr_getN (v := .ref (ad (25 + 6 * f + 2))) (host := "SharedForks") hx hb hts hin0 hown hK hW (25 + 6 * f) (by omega) (cE_d0 I Z F ad X f) rfl 3 (by decide) rfl hN (by decide +kernel) rfl dX1_putInRow_31 ?_
        refine lv_iload_n hx hb dX1_putInRow_34 rfl (lv_at hl 0 rfl) ?_
        refine cr_iald hx hb hK hW (25 + 6 * f + 2) (by omega) (cE_d2 I Z F ad X f) i (by omega) (by decide) rfl dX1_putInRow_35 ?_
        rw [ef]
        refine lv_istore (lv' := [(4, .int (nI k)), (3, .int (nI i)), (0, .ref (ad g)), (1, .ref (ad (25 + 6 * f))), (2, .int part)]) hx hb dX1_putInRow_36 hl (by decide) rfl (fun ls hl => ?_)
        refine lv_aload_n hx hb dX1_putInRow_38 rfl (lv_at hl 2 rfl) ?_
        refine cr_get (v := .ref (ad (g + 4))) hx hb hts hin1 hown hK hW g (by omega) (cE_f0 I Z F ad X hg) rfl 4 (by decide) rfl (by decide +kernel) rfl dX1_putInRow_39 ?_
        refine lv_iload hx hb dX1_putInRow_42 (lv_at hl 0 rfl) ?_
        refine lv_dup2_11 hx hb dX1_putInRow_44 rfl rfl ?_
        refine cr_iald hx hb hK hW (g + 4) (by omega) (cE_f4 I Z F ad X hg) k (by omega) (by decide) rfl dX1_putInRow_45 ?_
        refine lv_iconst (v := 1) hx hb dX1_putInRow_46 (by decide) ?_
        refine lv_iadd hx hb dX1_putInRow_47 ?_
        refine cr_iast hx hb hK hDa hW (g + 4) (by omega) (cE_f4 I Z F ad X hg) k (by omega) (by decide) rfl dX1_putInRow_48 (fun H locs hW => ?_)
        rw [show mst X (g + 4) k (X (g + 4) k + 1) = prA X g k from rfl] at hW
        refine lv_aload_n hx hb dX1_putInRow_49 rfl (lv_at hl 3 rfl) ?_
        refine cr_getN (v := .ref (ad (25 + 6 * f + 3))) (host := "SharedForks") hx hb hts hin0 hown hK hW (25 + 6 * f) (by omega) (cE_d0 I Z F ad (prA X g k) f) rfl 4 (by decide) rfl hN (by decide +kernel) rfl dX1_putInRow_50 ?_
        refine lv_iload_n hx hb dX1_putInRow_53 rfl (lv_at hl 1 rfl) ?_
        refine lv_aload_n hx hb dX1_putInRow_54 rfl (lv_at hl 2 rfl) ?_
        refine lv_aload_n hx hb dX1_putInRow_55 rfl (lv_at hl 2 rfl) ?_
        refine cr_get (v := .ref (ad (g + 2))) hx hb hts hin1 hown hK hW g (by omega) (cE_f0 I Z F ad (prA X g k) hg) rfl 2 (by decide) rfl (by decide +kernel) rfl dX1_putInRow_56 ?_
        refine lv_iload hx hb dX1_putInRow_59 (lv_at hl 0 rfl) ?_
        refine cr_iald hx hb hK hW (g + 2) (by omega) (cE_f2 I Z F ad (prA X g k) hg) k (by omega) (by decide) rfl dX1_putInRow_61 ?_
        have p2 : prA X g k (g + 2) k < 0 ∨ ∃ j : Nat, j < 626 ∧ prA X g k (g + 2) k = nI j := by rw [prA, mst_ne (by omega), g2]; exact (hlh k hk).1
        refine cr_calli (va_runV (As := [.int ((prA X g k) (g + 2) k)]) (rest := [.int (nI i), .ref (ad (25 + 6 * f + 3))]) ⟨hx, hb, hml, hown, hts⟩ (c_placeOrLeaf l D I Z F ad hI (prA X g k) H.size g hg (prA X g k (g + 2) k) p2) (cwV 1 hts gX1_putInRow_X1_placeOrLeaf rfl rfl rfl (by decide +kernel) ⟨Nat.le_of_ble_eq_true rfl, Nat.le_of_ble_eq_true rfl⟩) (cr_preV hK hN hW g (by omega) (cE_f0 I Z F ad (prA X g k) hg) rfl) rfl rfl hl.1 rfl (lv_room (Nat.le_of_ble_eq_true rfl)) dX1_putInRow_62 ⟨Nat.le_refl _, Nat.le_refl _⟩) hA hDa hW (fun r u H locs hp hW => ?_)
        obtain ⟨rfl, rfl⟩ := hp
        refine cr_iast hx hb hK hDa hW (25 + 6 * f + 3) (by omega) (cE_d3 I Z F ad (prA X g k) f) i (by omega) (by decide) rfl dX1_putInRow_65 (fun H locs hW => ?_)
        rw [show mst (prA X g k) (25 + 6 * f + 3) i (polF (prA X g k) g (prA X g k (g + 2) k)) = prB (prA X g k) g (25 + 6 * f) i k from rfl] at hW
        refine lv_aload_n hx hb dX1_putInRow_66 rfl (lv_at hl 3 rfl) ?_
        refine cr_getN (v := .ref (ad (25 + 6 * f + 4))) (host := "SharedForks") hx hb hts hin0 hown hK hW (25 + 6 * f) (by omega) (cE_d0 I Z F ad (prB (prA X g k) g (25 + 6 * f) i k) f) rfl 5 (by decide) rfl hN (by decide +kernel) rfl dX1_putInRow_67 ?_
        refine lv_iload_n hx hb dX1_putInRow_70 rfl (lv_at hl 1 rfl) ?_
        refine lv_aload_n hx hb dX1_putInRow_71 rfl (lv_at hl 2 rfl) ?_
        refine lv_aload_n hx hb dX1_putInRow_72 rfl (lv_at hl 2 rfl) ?_
        refine cr_get (v := .ref (ad (g + 3))) hx hb hts hin1 hown hK hW g (by omega) (cE_f0 I Z F ad (prB (prA X g k) g (25 + 6 * f) i k) hg) rfl 3 (by decide) rfl (by decide +kernel) rfl dX1_putInRow_73 ?_
        refine lv_iload hx hb dX1_putInRow_76 (lv_at hl 0 rfl) ?_
        refine cr_iald hx hb hK hW (g + 3) (by omega) (cE_f3 I Z F ad (prB (prA X g k) g (25 + 6 * f) i k) hg) k (by omega) (by decide) rfl dX1_putInRow_78 ?_
        have p3 : prB (prA X g k) g (25 + 6 * f) i k (g + 3) k < 0 ∨ ∃ j : Nat, j < 626 ∧ prB (prA X g k) g (25 + 6 * f) i k (g + 3) k = nI j := by rw [prB, mst_ne (by omega), prA, mst_ne (by omega), g3]; exact (hlh k hk).2
        refine cr_calli (va_runV (As := [.int ((prB (prA X g k) g (25 + 6 * f) i k) (g + 3) k)]) (rest := [.int (nI i), .ref (ad (25 + 6 * f + 4))]) ⟨hx, hb, hml, hown, hts⟩ (c_placeOrLeaf l D I Z F ad hI (prB (prA X g k) g (25 + 6 * f) i k) H.size g hg ((prB (prA X g k) g (25 + 6 * f) i k) (g + 3) k) p3) (cwV 1 hts gX1_putInRow_X1_placeOrLeaf rfl rfl rfl (by decide +kernel) ⟨Nat.le_of_ble_eq_true rfl, Nat.le_of_ble_eq_true rfl⟩) (cr_preV hK hN hW g (by omega) (cE_f0 I Z F ad (prB (prA X g k) g (25 + 6 * f) i k) hg) rfl) rfl rfl hl.1 rfl (lv_room (Nat.le_of_ble_eq_true rfl)) dX1_putInRow_79 ⟨Nat.le_refl _, Nat.le_refl _⟩) hA hDa hW (fun r u H locs hp hW => ?_)
        obtain ⟨rfl, rfl⟩ := hp
        refine cr_iast hx hb hK hDa hW (25 + 6 * f + 4) (by omega) (cE_d4 I Z F ad (prB (prA X g k) g (25 + 6 * f) i k) f) i (by omega) (by decide) rfl dX1_putInRow_82 (fun H locs hW => ?_)
        rw [show mst (prB (prA X g k) g (25 + 6 * f) i k) (25 + 6 * f + 4) i (polF (prB (prA X g k) g (25 + 6 * f) i k) g (prB (prA X g k) g (25 + 6 * f) i k (g + 3) k)) = prC (prB (prA X g k) g (25 + 6 * f) i k) g (25 + 6 * f) i k from rfl, ← hstep] at hW
        refine lv_iinc (v := nI (i + 1)) (lv' := [(3, .int (nI (i + 1))), (4, .int (nI k)), (0, .ref (ad g)), (1, .ref (ad (25 + 6 * f))), (2, .int part)]) hx hb dX1_putInRow_83 hl (k := 1) rfl (nI_1 i) (by decide) rfl (fun ls hl => ?_)
        refine lv_goto (tgt := 22) hx hb dX1_putInRow_86 (by decide) ?_
        exact ih (i + 1) (by omega) ls H locs (lv_sub hl [0, 2, 3, 4] rfl) hW
  exact loop z 0 (by omega) ls H locs (lv_sub hl [0, 1, 2, 3] rfl) hW
end
section
/-! ===== numbers of forks are in range ===== -/
def vP (n : Nat) (x : Int32) : Prop := x < 0 ∨ ∃ j : Nat, j < n ∧ x = nI j
theorem vP.mono {n n' : Nat} {x : Int32} (h : vP n x) (hn : n ≤ n') : vP n' x := by
  rcases h with h | ⟨j, hj, e⟩
  · exact Or.inl h
  · exact Or.inr ⟨j, by omega, e⟩
def fk2 (M : Nat → Nat → Int32) (g n : Nat) : Prop := n ≤ 626 ∧ M g 0 = nI n ∧ slOk M g n ∧ ∀ k : Nat, k < n → vP n (M (g + 2) k) ∧ vP n (M (g + 3) k)
theorem fk2.ok {M : Nat → Nat → Int32} {g n : Nat} (h : fk2 M g n) : fkOk M g := ⟨n, h.1, h.2.1, h.2.2.1⟩
theorem fk2.lh {M : Nat → Nat → Int32} {g n : Nat} (h : fk2 M g n) : lhOk M g n := by
  have hn := h.1
  intro k hk
  exact ⟨(h.2.2.2 k hk).1.mono hn, (h.2.2.2 k hk).2.mono hn⟩
theorem fk2_row {M M' : Nat → Nat → Int32} {g n : Nat} (h : fk2 M g n) (h0 : M' g = M g) (h2 : M' (g + 2) = M (g + 2)) (h3 : M' (g + 3) = M (g + 3)) (h5 : M' (g + 5) = M (g + 5)) : fk2 M' g n := by
  obtain ⟨a, b, c, d⟩ := h
  exact ⟨a, by rw [h0]; exact b, fun j hj => by rw [h5]; exact c j hj, fun k hk => by rw [h2, h3]; exact d k hk⟩
theorem mkF_fk2 {M : Nat → Nat → Int32} {g n j : Nat} {a no yes : Int32} (h : fk2 M g n) (hno : vP n no) (hye : vP n yes) : ∃ n' : Nat, n ≤ n' ∧ fk2 (mkF M g j a no yes).1 g n' ∧ vP n' (mkF M g j a no yes).2 := by
  obtain ⟨hn, h0, hs, hl⟩ := id h
  unfold mkF
  rw [szF_of h0 hn]
  split
  · refine ⟨n + 1, by omega, ⟨by omega, mkM_0, fun i hi => ?_, fun k hk => ?_⟩, Or.inr ⟨n, by omega, rfl⟩⟩
    · dsimp only
      rw [mkM_5, upd_at]
      split
      · exact Or.inr ⟨n, by omega, rfl⟩
      · rcases hs i hi with h | ⟨k, hk, e⟩
        · exact Or.inl h
        · exact Or.inr ⟨k, by omega, e⟩
    · dsimp only
      rw [mkM_2, mkM_3, upd_at, upd_at]
      split
      · exact ⟨hno.mono (by omega), hye.mono (by omega)⟩
      · exact ⟨(hl k (by omega)).1.mono (by omega), (hl k (by omega)).2.mono (by omega)⟩
  · exact ⟨n, Nat.le_refl _, h, Or.inl (by show (-1 : Int32) < 0; decide)⟩
theorem ptL_fk2 {M : Nat → Nat → Int32} {g n : Nat} {st a no yes : Int32} (h : fk2 M g n) (hno : vP n no) (hye : vP n yes) : ∀ r k : Nat, ∃ n' : Nat, n ≤ n' ∧ fk2 (ptL M g st a no yes r k).1 g n' ∧ vP n' (ptL M g st a no yes r k).2 := by
  intro r
  induction r with
  | zero => intro k; exact ⟨n, Nat.le_refl _, h, Or.inl (by show (-1 : Int32) < 0; decide)⟩
  | succ r ih =>
    intro k
    rw [ptL]
    split
    · exact mkF_fk2 h hno hye
    · rename_i c1
      split
      · refine ⟨n, Nat.le_refl _, h, Or.inr ?_⟩
        obtain ⟨j, hj, -, ej⟩ := ptS_of st k
        rw [ej] at c1 ⊢
        exact (h.2.2.1 j hj).resolve_left c1
      · exact ih (k + 1)
theorem ptF_fk2 {M : Nat → Nat → Int32} {g n : Nat} {a no yes : Int32} (h : fk2 M g n) (hno : vP n no) (hye : vP n yes) : ∃ n' : Nat, n ≤ n' ∧ fk2 (ptF M g a no yes).1 g n' ∧ vP n' (ptF M g a no yes).2 := by
  unfold ptF; split
  · exact ⟨n, Nat.le_refl _, h, hno⟩
  · exact ptL_fk2 h hno hye _ _
def pwOk (M : Nat → Nat → Int32) (g n : Nat) : Prop := ∀ w : Nat, w < 256 → vP n (M (g + 8) w)
theorem lyW_fk2 {M : Nat → Nat → Int32} {g n place : Nat} (h : fk2 M g n) (hp : pwOk M g n) : ∀ w : Nat, w ≤ 128 → ∃ n' : Nat, n ≤ n' ∧ fk2 (lyW M g place w) g n' ∧ pwOk (lyW M g place w) g n' := by
  intro w
  induction w with
  | zero => intro _; exact ⟨n, Nat.le_refl _, h, hp⟩
  | succ w ih =>
    intro hw
    obtain ⟨n1, h1, f1, p1⟩ := ih (by omega)
    obtain ⟨n2, h2, f2, v2⟩ := ptF_fk2 (a := lyW M g place w (g + 6) place) f1 (p1 (2 * w) (by omega)) (p1 (2 * w + 1) (by omega))
    rw [lyW]
    refine ⟨n2, by omega, fk2_row f2 (mst_ne (by omega)) (mst_ne (by omega)) (mst_ne (by omega)) (mst_ne (by omega)), fun j hj => ?_⟩
    rw [mst_same, upd_at]
    split
    · exact v2
    · rw [ptF_row (by omega)]; exact (p1 j hj).mono h2
theorem lyD_fk2 {g : Nat} : ∀ (r : Nat), r ≤ 8 → ∀ {M : Nat → Nat → Int32} {n : Nat}, fk2 M g n → pwOk M g n → ∃ n' : Nat, n ≤ n' ∧ fk2 (lyD M g r) g n' ∧ pwOk (lyD M g r) g n' := by
  intro r
  induction r with
  | zero => intro _ M n h hp; exact ⟨n, Nat.le_refl _, h, hp⟩
  | succ r ih =>
    intro hr M n h hp
    obtain ⟨n1, h1, f1, p1⟩ := lyW_fk2 (place := r) h hp (2 ^ r) (pw8 r (by omega))
    obtain ⟨n2, h2, f2, p2⟩ := ih (by omega) f1 p1
    exact ⟨n2, by omega, f2, p2⟩
theorem lyF_fk2 {M : Nat → Nat → Int32} {g n yi : Nat} (h : fk2 M g n) : ∃ n' : Nat, n ≤ n' ∧ fk2 (lyF M g yi) g n' ∧ pwOk (lyF M g yi) g n' := by
  refine lyD_fk2 8 (Nat.le_refl _) (fk2_row h (mrow_ne (by omega)) (mrow_ne (by omega)) (mrow_ne (by omega)) (mrow_ne (by omega))) (fun w hw => ?_)
  rw [ly0, mrow_same, lyR, if_pos hw]
  split <;> exact Or.inl (by decide)
theorem aoF_in (f : Nat → Int32) (way : Int32) : ∃ a : Nat, a < 256 ∧ aoF f way = nI a := pk_andE (aoL f way 8) (m := 255) 8 (by decide)
theorem soF_7 (M : Nat → Nat → Int32) (g qi w : Nat) (hw : w < 256) : ∃ a : Nat, a < 256 ∧ soF M g qi (g + 7) w = nI a := by
  rw [soF, soL, mrow_same, aoR, if_pos hw]
  exact aoF_in _ _
theorem soF_row {M : Nat → Nat → Int32} {g qi i : Nat} (h : i ≠ g) (h5 : i ≠ g + 5) (h6 : i ≠ g + 6) (h7 : i ≠ g + 7) : soF M g qi i = M i := by
  rw [soF, soL, mrow_ne h7, so3, mrow_ne h6, so2, mrow_ne h5, so1, mst_ne h]
theorem soF_fk2 (M : Nat → Nat → Int32) (g qi : Nat) : fk2 (soF M g qi) g 0 := by
  refine ⟨by decide, ?_, fun j hj => Or.inl ?_, fun k hk => by omega⟩
  · rw [soF, soL, mrow_ne (by omega), so3, mrow_ne (by omega), so2, mrow_ne (by omega), so1, mst_same, pk_us]; rfl
  · rw [soF, soL, mrow_ne (by omega), so3, mrow_ne (by omega), so2, mrow_same, flF, if_pos hj]; decide
theorem prF_fk2 {M : Nat → Nat → Int32} {g b n : Nat} {part : Int32} (hgb : g + 9 < b) (h : fk2 M g n) : fk2 (prF M g b part) g n :=
  fk2_row h (prF_row (by omega) (by omega) (by omega)) (prF_row (by omega) (by omega) (by omega)) (prF_row (by omega) (by omega) (by omega)) (prF_row (by omega) (by omega) (by omega))
/-- all folds laid: the first f of them -/
def laL (M : Nat → Nat → Int32) : Nat → Nat → Nat → Int32
  | 0 => M
  | f + 1 => if laL M f (25 + 6 * f) 0 = 0 then laL M f else prF (lyF (laL M f) 3 (25 + 6 * f + 1)) 3 (25 + 6 * f) (lyF (laL M f) 3 (25 + 6 * f + 1) (3 + 8) 0)
def laF (M : Nat → Nat → Int32) : Nat → Nat → Int32 := laL (soF M 3 2) 12
/-- what stands between the folds that are laid -/
def laOk (M : Nat → Nat → Int32) : Prop := (∃ n : Nat, fk2 M 3 n) ∧ ∀ w : Nat, w < 256 → ∃ a : Nat, a < 256 ∧ M (3 + 7) w = nI a
theorem laL_ok {M : Nat → Nat → Int32} (h : laOk M) : ∀ f : Nat, f ≤ 12 → laOk (laL M f) := by
  intro f
  induction f with
  | zero => intro _; exact h
  | succ f ih =>
    intro hf
    obtain ⟨⟨n, h1⟩, h2⟩ := ih (by omega)
    rw [laL]
    split
    · exact ⟨⟨n, h1⟩, h2⟩
    · obtain ⟨n', -, h3, -⟩ := lyF_fk2 (yi := 25 + 6 * f + 1) h1
      refine ⟨⟨n', prF_fk2 (by omega) h3⟩, fun w hw => ?_⟩
      rw [prF_row (by omega) (by omega) (by omega), lyF_row (by omega) (by omega)]
      exact h2 w hw
theorem soF_laOk (M : Nat → Nat → Int32) (qi : Nat) : laOk (soF M 3 qi) := ⟨⟨0, soF_fk2 M 3 qi⟩, soF_7 M 3 qi⟩
end
section
abbrev rm_layAll : Room := { frames := 12, cells := 0, slots := 0, locals := 600 }
set_option maxHeartbeats 4000000 in
set_option maxRecDepth 100000 in
/-- all folds are laid anew -/
theorem c_layAll (l : Launch) (D : va_G) (I Z F : ClassId) (ad : Nat → Nat) (hI : cI ad) (M : Nat → Nat → Int32) (sz : Nat)  : Met l yX2_layAll wsX2_layAll rm_layAll (va_Pc [.ref (ad 0)] (cU D I Z F ad sz M)) (va_Qv (fun (u : Nat → Nat → Int32) => u = laF M) (fun u t => cP D I Z F ad u t.heap) (cA ad sz)) 0 0 (cA ad sz) := by
  refine cMet_v (cc := cX2_layAll) (maxL := 3) hI (by decide) rfl ⟨rfl, rfl⟩ RX2 rfl (Nat.le_of_ble_eq_true rfl) (lv := [(0, .ref (ad 0))]) rfl ?_
  intro p e s m args below meth c Q A ls hsz C0 hW hl hret
  obtain ⟨hx, hb, hml, hts, hown, hlocks, hK, hN, hDa, hA, hargs⟩ := C0
  have hin2 : ∀ w ∈ u_ws RX2 TX2 6, w ∈ wsX2_layAll := by decide +kernel
  have hin0 : ∀ w ∈ u_ws RX0 TX0 7, w ∈ wsX2_layAll := by decide +kernel
  have hin1 : ∀ w ∈ u_ws RX1 TX1 10, w ∈ wsX2_layAll := by decide +kernel
  refine lv_aload_n hx hb dX2_layAll_0 rfl (lv_at hl 0 rfl) ?_
  refine cr_get (v := .ref (ad 3)) hx hb hts hin2 hown hK hW 0 (by decide) (cE_x I Z F ad M) rfl 2 (by decide) rfl (by decide +kernel) rfl dX2_layAll_1 ?_
  refine lv_aload_n hx hb dX2_layAll_4 rfl (lv_at hl 0 rfl) ?_
  refine cr_get (v := .ref (ad 2)) hx hb hts hin2 hown hK hW 0 (by decide) (cE_x I Z F ad M) rfl 1 (by decide) rfl (by decide +kernel) rfl dX2_layAll_5 ?_
  refine cr_callv (va_runVN (As := [.ref (ad 2)]) (rest := []) (own := RX2) (host := "SharedForks") ⟨hx, hb, hml, hown, hts⟩ (c_startOver l D I Z F ad hI M s.heap.size 3 (Or.inl rfl) 2 (by decide) ⟨by decide, by decide, by decide⟩ (cE_q I Z F ad M)) ⟨va_cnB 1 hts gX2_layAll_X1_startOver_n113 rfl rfl rfl (hN (.methodLinkNest RX2 113 yX1_startOver "SharedForks") (by decide +kernel)) (hts (.initialized yX1_startOver.cls) (by decide +kernel)) (by decide +kernel) ⟨Nat.le_of_ble_eq_true rfl, Nat.le_of_ble_eq_true rfl⟩, hts (.instanceMethod yX1_startOver) (by decide +kernel), hts (.selects yX1_startOver.cls yX1_startOver yX1_startOver) (by decide +kernel)⟩ (cr_preV hK hN hW 3 (by decide) (cE_f0 I Z F ad M (Or.inl rfl)) rfl) rfl rfl hl.1 rfl (lv_room (Nat.le_of_ble_eq_true rfl)) dX2_layAll_8 ⟨Nat.le_of_ble_eq_true rfl, Nat.le_of_ble_eq_true rfl⟩) hA hDa hW (fun u H locs hp hW => ?_)
  rw [hp] at hW
  refine lv_iconst (v := 0) hx hb dX2_layAll_11 (by decide) ?_
  refine lv_istore_n (lv' := [(1, .int 0), (0, .ref (ad 0))]) hx hb dX2_layAll_12 rfl hl (by decide) rfl (fun ls hl => ?_)
  have loop : ∀ q f : Nat, f + q = 12 → ∀ (ls : Array Slot) (H : Heap) (locs : List Loc), lv_has ls 3 [(1, .int (nI f)), (0, .ref (ad 0))] → cB9 D I Z F ad A s.heap (laL (soF M 3 2) f) H locs → W p l e rm_layAll s m args below meth c H locs 0 0 Q (F0 m 13 ls []) := by
    intro q
    induction q with
    | zero =>
      intro f hf ls H locs hl hW
      obtain rfl : f = 12 := by omega
      refine lv_iload_n hx hb dX2_layAll_13 rfl (lv_at hl 0 rfl) ?_
      refine lv_bipush (v := 12) hx hb dX2_layAll_14 (by decide) ?_
      refine lv_icmp_ge (tgt := 58) hx hb dX2_layAll_16 (by decide) (fun c1 => ?_) (fun c1 => ?_)
      · skip
        exact hret 58 ls H locs _ dX2_layAll_58 rfl hW
      · exact absurd (nI_le (by decide) (by decide)) c1
    | succ q ih =>
      intro f hf ls H locs hl hW
      have hstep := laL.eq_2 (soF M 3 2) f
      obtain ⟨⟨n, hk2⟩, haw⟩ := laL_ok (soF_laOk M 2) f (by omega)
      obtain ⟨X, hX⟩ : ∃ X, X = laL (soF M 3 2) f := ⟨_, rfl⟩
      rw [← hX] at hW hstep hk2 haw
      refine lv_iload_n hx hb dX2_layAll_13 rfl (lv_at hl 0 rfl) ?_
      refine lv_bipush (v := 12) hx hb dX2_layAll_14 (by decide) ?_
      refine lv_icmp_ge (tgt := 58) hx hb dX2_layAll_16 (by decide) (fun c1 => ?_) (fun c1 => ?_)
      · exact absurd c1 (nI_ge (b := 12) (by omega) (by decide))
      · skip
        refine lv_aload_n hx hb dX2_layAll_19 rfl (lv_at hl 1 rfl) ?_
        refine cr_get (v := .ref (ad 1)) hx hb hts hin2 hown hK hW 0 (by decide) (cE_x I Z F ad X) rfl 0 (by decide) rfl (by decide +kernel) rfl dX2_layAll_20 ?_
        refine lv_iload_n hx hb dX2_layAll_23 rfl (lv_at hl 0 rfl) ?_
        refine cr_fald hx hb hK hW f (by omega) rfl dX2_layAll_24 ?_
        refine lv_astore_n (lv' := [(2, .ref (ad (25 + 6 * f))), (1, .int (nI f)), (0, .ref (ad 0))]) hx hb dX2_layAll_25 rfl hl (by decide) rfl (fun ls hl => ?_)
        refine lv_aload_n hx hb dX2_layAll_26 rfl (lv_at hl 0 rfl) ?_
        refine cr_getN (v := .int (X (25 + 6 * f) 0)) (host := "SharedForks") hx hb hts hin0 hown hK hW (25 + 6 * f) (by omega) (cE_d0 I Z F ad X f) rfl 0 (by decide) rfl hN (by decide +kernel) rfl dX2_layAll_27 ?_
        refine lv_if_eq (tgt := 52) hx hb dX2_layAll_30 (by decide) (fun c2 => ?_) (fun c2 => ?_)
        · skip
          rw [if_pos c2] at hstep
          refine lv_iinc (v := nI (f + 1)) (lv' := [(1, .int (nI (f + 1))), (2, .ref (ad (25 + 6 * f))), (0, .ref (ad 0))]) hx hb dX2_layAll_52 hl (k := 1) rfl (nI_1 f) (by decide) rfl (fun ls hl => ?_)
          refine lv_goto (tgt := 13) hx hb dX2_layAll_55 (by decide) ?_
          exact ih (f + 1) (by omega) ls H locs (lv_sub hl [0, 2] rfl) (by rw [hstep]; exact hW)
        · skip
          rw [if_neg c2] at hstep
          refine lv_aload_n hx hb dX2_layAll_33 rfl (lv_at hl 2 rfl) ?_
          refine cr_get (v := .ref (ad 3)) hx hb hts hin2 hown hK hW 0 (by decide) (cE_x I Z F ad X) rfl 2 (by decide) rfl (by decide +kernel) rfl dX2_layAll_34 ?_
          refine lv_aload_n hx hb dX2_layAll_37 rfl (lv_at hl 0 rfl) ?_
          refine lv_aload_n hx hb dX2_layAll_38 rfl (lv_at hl 2 rfl) ?_
          refine cr_get (v := .ref (ad 3)) hx hb hts hin2 hown hK hW 0 (by decide) (cE_x I Z F ad X) rfl 2 (by decide) rfl (by decide +kernel) rfl dX2_layAll_39 ?_
          refine lv_aload_n hx hb dX2_layAll_42 rfl (lv_at hl 0 rfl) ?_
          refine cr_getN (v := .ref (ad (25 + 6 * f + 1))) (host := "SharedForks") hx hb hts hin0 hown hK hW (25 + 6 * f) (by omega) (cE_d0 I Z F ad X f) rfl 1 (by decide) rfl hN (by decide +kernel) rfl dX2_layAll_43 ?_
          refine cr_calli (va_runVN (As := [.ref (ad (25 + 6 * f + 1))]) (rest := [.ref (ad (25 + 6 * f)), .ref (ad 3)]) (own := RX2) (host := "SharedForks") ⟨hx, hb, hml, hown, hts⟩ (c_lay l D I Z F ad hI X H.size 3 (Or.inl rfl) hk2.ok haw (25 + 6 * f + 1) (by omega) (by omega) (cE_d1 I Z F ad X f)) ⟨va_cnB 1 hts gX2_layAll_X1_lay_n117 rfl rfl rfl (hN (.methodLinkNest RX2 117 yX1_lay "SharedForks") (by decide +kernel)) (hts (.initialized yX1_lay.cls) (by decide +kernel)) (by decide +kernel) ⟨Nat.le_of_ble_eq_true rfl, Nat.le_of_ble_eq_true rfl⟩, hts (.instanceMethod yX1_lay) (by decide +kernel), hts (.selects yX1_lay.cls yX1_lay yX1_lay) (by decide +kernel)⟩ (cr_preV hK hN hW 3 (by decide) (cE_f0 I Z F ad X (Or.inl rfl)) rfl) rfl rfl hl.1 rfl (lv_room (Nat.le_of_ble_eq_true rfl)) dX2_layAll_46 ⟨Nat.le_of_ble_eq_true rfl, Nat.le_of_ble_eq_true rfl⟩) hA hDa hW (fun r u H locs hp hW => ?_)
          obtain ⟨hu, hv9⟩ := hp
          rw [hu] at hW
          rw [hv9]
          obtain ⟨n2, -, hk3, -⟩ := lyF_fk2 (yi := 25 + 6 * f + 1) hk2
          refine cr_callv (va_runVN (As := [.ref (ad (25 + 6 * f)), .int (lyF X 3 (25 + 6 * f + 1) (3 + 8) 0)]) (rest := []) (own := RX2) (host := "SharedForks") ⟨hx, hb, hml, hown, hts⟩ (c_putInRow l D I Z F ad hI (lyF X 3 (25 + 6 * f + 1)) H.size 3 (Or.inl rfl) f (by omega) n2 hk3.1 hk3.2.1 hk3.lh (lyF X 3 (25 + 6 * f + 1) (3 + 8) 0)) ⟨va_cnB 2 hts gX2_layAll_X1_putInRow_n144 rfl rfl rfl (hN (.methodLinkNest RX2 144 yX1_putInRow "SharedForks") (by decide +kernel)) (hts (.initialized yX1_putInRow.cls) (by decide +kernel)) (by decide +kernel) ⟨Nat.le_of_ble_eq_true rfl, Nat.le_of_ble_eq_true rfl⟩, hts (.instanceMethod yX1_putInRow) (by decide +kernel), hts (.selects yX1_putInRow.cls yX1_putInRow yX1_putInRow) (by decide +kernel)⟩ (cr_preV hK hN hW 3 (by decide) (cE_f0 I Z F ad (lyF X 3 (25 + 6 * f + 1)) (Or.inl rfl)) rfl) rfl rfl hl.1 rfl (lv_room (Nat.le_of_ble_eq_true rfl)) dX2_layAll_49 ⟨Nat.le_of_ble_eq_true rfl, Nat.le_of_ble_eq_true rfl⟩) hA hDa hW (fun u H locs hp hW => ?_)
          rw [hp] at hW
          refine lv_iinc (v := nI (f + 1)) (lv' := [(1, .int (nI (f + 1))), (2, .ref (ad (25 + 6 * f))), (0, .ref (ad 0))]) hx hb dX2_layAll_52 hl (k := 1) rfl (nI_1 f) (by decide) rfl (fun ls hl => ?_)
          refine lv_goto (tgt := 13) hx hb dX2_layAll_55 (by decide) ?_
          exact ih (f + 1) (by omega) ls H locs (lv_sub hl [0, 2] rfl) (by rw [hstep]; exact hW)
  exact loop 12 0 (by decide) ls H locs (lv_sub hl [0, 1] rfl) hW
end
section
section CMET2
variable {l : Launch} {D : va_G} {I Z F : ClassId} {ad : Nat → Nat} {M : Nat → Nat → Int32} {sz : Nat} {y : MethodName} {ws ws' : List Cond} {rm : Room} {cc : ByteArray} {maxL : Nat} {av : List Value}
theorem cMet_z {post : Int32 → (Nat → Nat → Int32) → Prop} (hI : cI ad) (hy : plainName y.cls = true) (hw : ws = Cond.code y cc maxL (some .boolean) :: ws') (hrm : rm.cells = 0 ∧ rm.slots = 0) (C : String) (hC : y.cls = C) (hle : (lg_sl av).length ≤ maxL) {lv : List (Nat × Value)} (hlv : lv_args 0 av = lv)
    (body : ∀ (p : Program) (e : Env) (s : State) (m : MethodId) (args : Array Value) (below : List Frame) (meth : Method) (c : Code) (Q : State → Prop) (A : Nat → Prop) (ls : Array Slot), s.heap.size = sz → cX p s m meth c args av D I Z F ad A ws C cc maxL → cB9 D I Z F ad A s.heap M s.heap [] → lv_has ls maxL lv →
      (∀ (pc : Nat) (ls : Array Slot) (H : Heap) (locs : List Loc) (r : Int32) (u : Nat → Nat → Int32), decode cc pc = .ok (.ireturn, 1) → post r u → (r = 0 ∨ r = 1) → cB9 D I Z F ad A s.heap u H locs → W p l e rm s m args below meth c H locs 0 0 Q (F0 m pc ls [.int r])) →
      W p l e rm s m args below meth c s.heap [] 0 0 Q (F0 m 0 ls [])) :
    Met l y ws rm (va_Pc av (cU D I Z F ad sz M)) (va_Qi post (fun u t => cP D I Z F ad u t.heap) (cA ad sz)) 0 0 (cA ad sz) := by
  refine Met.ofW (cc := cc) (maxL := maxL) (ret := (some .boolean)) hy hw ?_
  intro p e s m args below meth c s₁ B hml hv
  obtain ⟨hargs, hsz, hP, hK, hN⟩ := hv
  have hown : s.vm.findClass C = some m.cls := by rw [← hC]; exact findClass_of_methodNamed B.named
  have hl := lv_entry av (n := maxL) hle
  rw [hlv] at hl
  have he : entryFrame m args maxL = F0 m 0 ((lg_sl av ++ List.replicate (maxL - (lg_sl av).length) Slot.unset).toArray) [] := by rw [hargs]; exact lg_entry_eq m av maxL
  rw [he]
  refine body p e s m args below meth c _ (cA ad s.heap.size) _ hsz ⟨B.exec, B.bytes, hml, atoms_spec (ws := ws) B.pre, hown, B.notSynchronized, hK, hN, hI.d s.heap.size, fun q h => Or.inr h, hargs⟩ ⟨hP, va_S.rf⟩ hl (fun pc ls H locs r u hd hp h01 hW => ?_)
  rw [← hsz]
  exact W.zret (v := r) (ty := .boolean) B.exec B.bytes B.returns (by rcases h01 with rfl | rfl <;> rfl) (fun t ht _ => ⟨⟨r, u, rfl, hp, by show cP D I Z F ad u t.heap; rw [ht]; exact hW.1⟩, hW.2.F ht⟩) hW.2.2.2 hd
end CMET2
/-- a sum of the first k -/
def sI (f : Nat → Int32) : Nat → Int32
  | 0 => 0
  | k + 1 => sI f k + f k
theorem sI_s {f : Nat → Int32} {k : Nat} {v : Int32} (h : f k = v) : sI f k + v = sI f (k + 1) := by rw [sI, h]
theorem vp_narZn {x : Int32} (h : x = 0 ∨ x = 1) : narrow .boolean (.int x) = .int x := by rcases h with rfl | rfl <;> rfl
theorem vp_narZf {x : Int32} (h : x = 0 ∨ x = 1) : fits .boolean (.int x) = true := by rcases h with rfl | rfl <;> rfl
/-- a truth as an int -/
def b2 (P : Prop) [Decidable P] : Int32 := if P then 1 else 0
theorem b2_01 (P : Prop) [Decidable P] : b2 P = 0 ∨ b2 P = 1 := by unfold b2; split <;> simp
end
section
def exF (M : Nat → Nat → Int32) (i p0 : Nat) : Nat → Nat → Int32 := mst (mst M i p0 (M i (p0 + 1))) i (p0 + 1) (M i p0)
abbrev rm_exchange : Room := { frames := 0, cells := 0, slots := 0, locals := 0 }
set_option maxHeartbeats 4000000 in
set_option maxRecDepth 100000 in
/-- two neighbours of a row of eight change places -/
theorem c_exchange (l : Launch) (D : va_G) (I Z F : ClassId) (ad : Nat → Nat) (hI : cI ad) (M : Nat → Nat → Int32) (sz : Nat) (i : Nat) (hi : i < 97) (he : cE I Z F ad M i = .inl (I, 8, .inl (M i))) (p0 : Nat) (hp0 : p0 < 7) : Met l yX2_exchange wsX2_exchange rm_exchange (va_Pc [.ref (ad i), .int (nI p0)] (cU D I Z F ad sz M)) (va_Qv (fun (u : Nat → Nat → Int32) => u = exF M i p0) (fun u t => cP D I Z F ad u t.heap) (cA ad sz)) 0 0 (cA ad sz) := by
  refine cMet_v (cc := cX2_exchange) (maxL := 3) hI (by decide) rfl ⟨rfl, rfl⟩ RX2 rfl (Nat.le_of_ble_eq_true rfl) (lv := [(0, .ref (ad i)), (1, .int (nI p0))]) rfl ?_
  intro p e s m args below meth c Q A ls hsz C0 hW hl hret
  obtain ⟨hx, hb, hml, hts, hown, hlocks, hK, hN, hDa, hA, hargs⟩ := C0
  refine lv_aload_n hx hb dX2_exchange_0 rfl (lv_at hl 0 rfl) ?_
  refine lv_iload_n hx hb dX2_exchange_1 rfl (lv_at hl 1 rfl) ?_
  refine cr_iald hx hb hK hW i (hi) (cE_arr he _) p0 (by omega) (by decide) rfl dX2_exchange_2 ?_
  refine lv_istore_n (lv' := [(2, .int (M i p0)), (0, .ref (ad i)), (1, .int (nI p0))]) hx hb dX2_exchange_3 rfl hl (by decide) rfl (fun ls hl => ?_)
  refine lv_aload_n hx hb dX2_exchange_4 rfl (lv_at hl 1 rfl) ?_
  refine lv_iload_n hx hb dX2_exchange_5 rfl (lv_at hl 2 rfl) ?_
  refine lv_aload_n hx hb dX2_exchange_6 rfl (lv_at hl 1 rfl) ?_
  refine lv_iload_n hx hb dX2_exchange_7 rfl (lv_at hl 2 rfl) ?_
  refine lv_iconst (v := 1) hx hb dX2_exchange_8 (by decide) ?_
  refine lv_iadd hx hb dX2_exchange_9 ?_
  rw [nI_1]
  refine cr_iald hx hb hK hW i (hi) (cE_arr he _) (p0 + 1) (by omega) (by decide) rfl dX2_exchange_10 ?_
  refine cr_iast hx hb hK hDa hW i (hi) (cE_arr he _) p0 (by omega) (by decide) rfl dX2_exchange_11 (fun H locs hW => ?_)
  refine lv_aload_n hx hb dX2_exchange_12 rfl (lv_at hl 1 rfl) ?_
  refine lv_iload_n hx hb dX2_exchange_13 rfl (lv_at hl 2 rfl) ?_
  refine lv_iconst (v := 1) hx hb dX2_exchange_14 (by decide) ?_
  refine lv_iadd hx hb dX2_exchange_15 ?_
  rw [nI_1]
  refine lv_iload_n hx hb dX2_exchange_16 rfl (lv_at hl 0 rfl) ?_
  refine cr_iast hx hb hK hDa hW i (hi) (cE_arr he _) (p0 + 1) (by omega) (by decide) rfl dX2_exchange_17 (fun H locs hW => ?_)
  exact hret 18 ls H locs _ dX2_exchange_18 rfl hW

def isF (a q : Int32) : Int32 := b2 ((a >>> (q &&& 31)) &&& 1 = 1)
abbrev rm_isYes : Room := { frames := 0, cells := 0, slots := 0, locals := 0 }
set_option maxHeartbeats 4000000 in
set_option maxRecDepth 100000 in
/-- the answer to a question -/
theorem c_isYes (l : Launch) (D : va_G) (I Z F : ClassId) (ad : Nat → Nat) (hI : cI ad) (M : Nat → Nat → Int32) (sz : Nat) (a q : Int32) : Met l yX2_isYes wsX2_isYes rm_isYes (va_Pc [.int a, .int q] (cU D I Z F ad sz M)) (va_Qi (fun (r : Int32) (u : Nat → Nat → Int32) => u = M ∧ r = isF a q) (fun u t => cP D I Z F ad u t.heap) (cA ad sz)) 0 0 (cA ad sz) := by
  refine cMet_z (cc := cX2_isYes) (maxL := 2) hI (by decide) rfl ⟨rfl, rfl⟩ RX2 rfl (Nat.le_of_ble_eq_true rfl) (lv := [(0, .int a), (1, .int q)]) rfl ?_
  intro p e s m args below meth c Q A ls hsz C0 hW hl hret
  obtain ⟨hx, hb, hml, hts, hown, hlocks, hK, hN, hDa, hA, hargs⟩ := C0
  refine lv_iload_n hx hb dX2_isYes_0 rfl (lv_at hl 0 rfl) ?_
  refine lv_iload_n hx hb dX2_isYes_1 rfl (lv_at hl 1 rfl) ?_
  refine lv_ishr hx hb dX2_isYes_2 ?_
  refine lv_iconst (v := 1) hx hb dX2_isYes_3 (by decide) ?_
  refine lv_iand hx hb dX2_isYes_4 ?_
  refine lv_iconst (v := 1) hx hb dX2_isYes_5 (by decide) ?_
  refine lv_icmp_ne (tgt := 13) hx hb dX2_isYes_6 (by decide) (fun c1 => ?_) (fun c1 => ?_)
  · skip
    refine lv_iconst (v := 0) hx hb dX2_isYes_13 (by decide) ?_
    exact hret 14 ls _ _ _ _ dX2_isYes_14 ⟨rfl, by rw [isF, b2, if_neg c1]⟩ (Or.inl rfl) hW
  · skip
    refine lv_iconst (v := 1) hx hb dX2_isYes_9 (by decide) ?_
    refine lv_goto (tgt := 14) hx hb dX2_isYes_10 (by decide) ?_
    exact hret 14 ls _ _ _ _ dX2_isYes_14 ⟨rfl, by rw [isF, b2, if_pos c1]⟩ (Or.inr rfl) hW

def waF (a q y : Int32) : Int32 := if y = 0 then a &&& ((1 <<< (q &&& 31)) ^^^ (-1)) else a ||| (1 <<< (q &&& 31))
abbrev rm_withAnswer : Room := { frames := 0, cells := 0, slots := 0, locals := 0 }
set_option maxHeartbeats 4000000 in
set_option maxRecDepth 100000 in
/-- answers with one of them given -/
theorem c_withAnswer (l : Launch) (D : va_G) (I Z F : ClassId) (ad : Nat → Nat) (hI : cI ad) (M : Nat → Nat → Int32) (sz : Nat) (a q y : Int32) : Met l yX2_withAnswer wsX2_withAnswer rm_withAnswer (va_Pc [.int a, .int q, .int y] (cU D I Z F ad sz M)) (va_Qi (fun (r : Int32) (u : Nat → Nat → Int32) => u = M ∧ r = waF a q y) (fun u t => cP D I Z F ad u t.heap) (cA ad sz)) 0 0 (cA ad sz) := by
  refine cMet_i (cc := cX2_withAnswer) (maxL := 4) hI (by decide) rfl ⟨rfl, rfl⟩ RX2 rfl (Nat.le_of_ble_eq_true rfl) (lv := [(0, .int a), (1, .int q), (2, .int y)]) rfl ?_
  intro p e s m args below meth c Q A ls hsz C0 hW hl hret
  obtain ⟨hx, hb, hml, hts, hown, hlocks, hK, hN, hDa, hA, hargs⟩ := C0
  refine lv_iconst (v := 1) hx hb dX2_withAnswer_0 (by decide) ?_
  refine lv_iload_n hx hb dX2_withAnswer_1 rfl (lv_at hl 1 rfl) ?_
  refine lv_ishl hx hb dX2_withAnswer_2 ?_
  refine lv_istore_n (lv' := [(3, .int (1 <<< (q &&& 31))), (0, .int a), (1, .int q), (2, .int y)]) hx hb dX2_withAnswer_3 rfl hl (by decide) rfl (fun ls hl => ?_)
  refine lv_iload_n hx hb dX2_withAnswer_4 rfl (lv_at hl 3 rfl) ?_
  refine lv_if_eq (tgt := 14) hx hb dX2_withAnswer_5 (by decide) (fun c1 => ?_) (fun c1 => ?_)
  · skip
    refine lv_iload_n hx hb dX2_withAnswer_14 rfl (lv_at hl 1 rfl) ?_
    refine lv_iload_n hx hb dX2_withAnswer_15 rfl (lv_at hl 0 rfl) ?_
    refine lv_iconst (v := -1) hx hb dX2_withAnswer_16 (by decide) ?_
    refine lv_ixor hx hb dX2_withAnswer_17 ?_
    refine lv_iand hx hb dX2_withAnswer_18 ?_
    exact hret 19 ls _ _ _ _ dX2_withAnswer_19 ⟨rfl, by rw [waF, if_pos c1]⟩ hW
  · skip
    refine lv_iload_n hx hb dX2_withAnswer_8 rfl (lv_at hl 1 rfl) ?_
    refine lv_iload_n hx hb dX2_withAnswer_9 rfl (lv_at hl 0 rfl) ?_
    refine lv_ior hx hb dX2_withAnswer_10 ?_
    refine lv_goto (tgt := 19) hx hb dX2_withAnswer_11 (by decide) ?_
    exact hret 19 ls _ _ _ _ dX2_withAnswer_19 ⟨rfl, by rw [waF, if_neg c1]⟩ hW

/-- two truths joined -/
def jnF (a b : Int32) (wh : Nat) : Int32 := match wh with
  | 0 => b2 (¬ a = 0 ∧ ¬ b = 0)
  | 1 => b2 (¬ a = 0 ∨ ¬ b = 0)
  | 2 => b2 (¬ a = b)
  | 3 => b2 (a = 0 ∨ b = 0)
  | 4 => b2 (a = 0 ∧ b = 0)
  | _ => b2 (a = b)
abbrev rm_joined : Room := { frames := 0, cells := 0, slots := 0, locals := 0 }
set_option maxHeartbeats 4000000 in
set_option maxRecDepth 100000 in
/-- two answers joined -/
theorem c_joined (l : Launch) (D : va_G) (I Z F : ClassId) (ad : Nat → Nat) (hI : cI ad) (M : Nat → Nat → Int32) (sz : Nat) (a b : Int32) (wh : Nat) (hwh : wh < 6) : Met l yX2_joined wsX2_joined rm_joined (va_Pc [.int a, .int b, .int (nI wh)] (cU D I Z F ad sz M)) (va_Qi (fun (r : Int32) (u : Nat → Nat → Int32) => u = M ∧ r = jnF a b wh) (fun u t => cP D I Z F ad u t.heap) (cA ad sz)) 0 0 (cA ad sz) := by
  refine cMet_z (cc := cX2_joined) (maxL := 3) hI (by decide) rfl ⟨rfl, rfl⟩ RX2 rfl (Nat.le_of_ble_eq_true rfl) (lv := [(0, .int a), (1, .int b), (2, .int (nI wh))]) rfl ?_
  intro p e s m args below meth c Q A ls hsz C0 hW hl hret
  obtain ⟨hx, hb, hml, hts, hown, hlocks, hK, hN, hDa, hA, hargs⟩ := C0
  rcases (show wh = 0 ∨ wh = 1 ∨ wh = 2 ∨ wh = 3 ∨ wh = 4 ∨ wh = 5 by omega) with rfl | rfl | rfl | rfl | rfl | rfl
  · skip
    refine lv_iload_n hx hb dX2_joined_0 rfl (lv_at hl 2 rfl) ?_
    refine lv_tableIn (off := 35) (tgt := 36) hx hb dX2_joined_1 (by decide) (by decide) rfl (by decide) ?_
    refine lv_iload_n hx hb dX2_joined_36 rfl (lv_at hl 0 rfl) ?_
    refine lv_if_eq (tgt := 48) hx hb dX2_joined_37 (by decide) (fun c1 => ?_) (fun c1 => ?_)
    · skip
      refine lv_iconst (v := 0) hx hb dX2_joined_48 (by decide) ?_
      exact hret 49 ls _ _ _ _ dX2_joined_49 ⟨rfl, by simp [jnF, b2, c1]⟩ (Or.inl rfl) hW
    · skip
      refine lv_iload_n hx hb dX2_joined_40 rfl (lv_at hl 1 rfl) ?_
      refine lv_if_eq (tgt := 48) hx hb dX2_joined_41 (by decide) (fun c2 => ?_) (fun c2 => ?_)
      · skip
        refine lv_iconst (v := 0) hx hb dX2_joined_48 (by decide) ?_
        exact hret 49 ls _ _ _ _ dX2_joined_49 ⟨rfl, by simp [jnF, b2, c1, c2]⟩ (Or.inl rfl) hW
      · skip
        refine lv_iconst (v := 1) hx hb dX2_joined_44 (by decide) ?_
        refine lv_goto (tgt := 49) hx hb dX2_joined_45 (by decide) ?_
        exact hret 49 ls _ _ _ _ dX2_joined_49 ⟨rfl, by simp [jnF, b2, c1, c2]⟩ (Or.inr rfl) hW
  · skip
    refine lv_iload_n hx hb dX2_joined_0 rfl (lv_at hl 2 rfl) ?_
    refine lv_tableIn (off := 49) (tgt := 50) hx hb dX2_joined_1 (by decide) (by decide) rfl (by decide) ?_
    refine lv_iload_n hx hb dX2_joined_50 rfl (lv_at hl 0 rfl) ?_
    refine lv_if_ne (tgt := 58) hx hb dX2_joined_51 (by decide) (fun c1 => ?_) (fun c1 => ?_)
    · skip
      refine lv_iconst (v := 1) hx hb dX2_joined_58 (by decide) ?_
      refine lv_goto (tgt := 63) hx hb dX2_joined_59 (by decide) ?_
      exact hret 63 ls _ _ _ _ dX2_joined_63 ⟨rfl, by simp [jnF, b2, c1]⟩ (Or.inr rfl) hW
    · skip
      refine lv_iload_n hx hb dX2_joined_54 rfl (lv_at hl 1 rfl) ?_
      refine lv_if_eq (tgt := 62) hx hb dX2_joined_55 (by decide) (fun c2 => ?_) (fun c2 => ?_)
      · skip
        refine lv_iconst (v := 0) hx hb dX2_joined_62 (by decide) ?_
        exact hret 63 ls _ _ _ _ dX2_joined_63 ⟨rfl, by simp [jnF, b2, c1, c2]⟩ (Or.inl rfl) hW
      · skip
        refine lv_iconst (v := 1) hx hb dX2_joined_58 (by decide) ?_
        refine lv_goto (tgt := 63) hx hb dX2_joined_59 (by decide) ?_
        exact hret 63 ls _ _ _ _ dX2_joined_63 ⟨rfl, by simp [jnF, b2, c1, c2]⟩ (Or.inr rfl) hW
  · skip
    refine lv_iload_n hx hb dX2_joined_0 rfl (lv_at hl 2 rfl) ?_
    refine lv_tableIn (off := 63) (tgt := 64) hx hb dX2_joined_1 (by decide) (by decide) rfl (by decide) ?_
    refine lv_iload_n hx hb dX2_joined_64 rfl (lv_at hl 0 rfl) ?_
    refine lv_iload_n hx hb dX2_joined_65 rfl (lv_at hl 1 rfl) ?_
    refine lv_icmp_eq (tgt := 73) hx hb dX2_joined_66 (by decide) (fun c1 => ?_) (fun c1 => ?_)
    · skip
      refine lv_iconst (v := 0) hx hb dX2_joined_73 (by decide) ?_
      exact hret 74 ls _ _ _ _ dX2_joined_74 ⟨rfl, by simp [jnF, b2, c1]⟩ (Or.inl rfl) hW
    · skip
      refine lv_iconst (v := 1) hx hb dX2_joined_69 (by decide) ?_
      refine lv_goto (tgt := 74) hx hb dX2_joined_70 (by decide) ?_
      exact hret 74 ls _ _ _ _ dX2_joined_74 ⟨rfl, by simp [jnF, b2, c1]⟩ (Or.inr rfl) hW
  · skip
    refine lv_iload_n hx hb dX2_joined_0 rfl (lv_at hl 2 rfl) ?_
    refine lv_tableIn (off := 74) (tgt := 75) hx hb dX2_joined_1 (by decide) (by decide) rfl (by decide) ?_
    refine lv_iload_n hx hb dX2_joined_75 rfl (lv_at hl 0 rfl) ?_
    refine lv_if_eq (tgt := 83) hx hb dX2_joined_76 (by decide) (fun c1 => ?_) (fun c1 => ?_)
    · skip
      refine lv_iconst (v := 1) hx hb dX2_joined_83 (by decide) ?_
      refine lv_goto (tgt := 88) hx hb dX2_joined_84 (by decide) ?_
      exact hret 88 ls _ _ _ _ dX2_joined_88 ⟨rfl, by simp [jnF, b2, c1]⟩ (Or.inr rfl) hW
    · skip
      refine lv_iload_n hx hb dX2_joined_79 rfl (lv_at hl 1 rfl) ?_
      refine lv_if_ne (tgt := 87) hx hb dX2_joined_80 (by decide) (fun c2 => ?_) (fun c2 => ?_)
      · skip
        refine lv_iconst (v := 0) hx hb dX2_joined_87 (by decide) ?_
        exact hret 88 ls _ _ _ _ dX2_joined_88 ⟨rfl, by simp [jnF, b2, c1, c2]⟩ (Or.inl rfl) hW
      · skip
        refine lv_iconst (v := 1) hx hb dX2_joined_83 (by decide) ?_
        refine lv_goto (tgt := 88) hx hb dX2_joined_84 (by decide) ?_
        exact hret 88 ls _ _ _ _ dX2_joined_88 ⟨rfl, by simp [jnF, b2, c1, c2]⟩ (Or.inr rfl) hW
  · skip
    refine lv_iload_n hx hb dX2_joined_0 rfl (lv_at hl 2 rfl) ?_
    refine lv_tableIn (off := 88) (tgt := 89) hx hb dX2_joined_1 (by decide) (by decide) rfl (by decide) ?_
    refine lv_iload_n hx hb dX2_joined_89 rfl (lv_at hl 0 rfl) ?_
    refine lv_if_ne (tgt := 101) hx hb dX2_joined_90 (by decide) (fun c1 => ?_) (fun c1 => ?_)
    · skip
      refine lv_iconst (v := 0) hx hb dX2_joined_101 (by decide) ?_
      exact hret 102 ls _ _ _ _ dX2_joined_102 ⟨rfl, by simp [jnF, b2, c1]⟩ (Or.inl rfl) hW
    · skip
      refine lv_iload_n hx hb dX2_joined_93 rfl (lv_at hl 1 rfl) ?_
      refine lv_if_ne (tgt := 101) hx hb dX2_joined_94 (by decide) (fun c2 => ?_) (fun c2 => ?_)
      · skip
        refine lv_iconst (v := 0) hx hb dX2_joined_101 (by decide) ?_
        exact hret 102 ls _ _ _ _ dX2_joined_102 ⟨rfl, by simp [jnF, b2, c1, c2]⟩ (Or.inl rfl) hW
      · skip
        refine lv_iconst (v := 1) hx hb dX2_joined_97 (by decide) ?_
        refine lv_goto (tgt := 102) hx hb dX2_joined_98 (by decide) ?_
        exact hret 102 ls _ _ _ _ dX2_joined_102 ⟨rfl, by simp [jnF, b2, c1, c2]⟩ (Or.inr rfl) hW
  · skip
    refine lv_iload_n hx hb dX2_joined_0 rfl (lv_at hl 2 rfl) ?_
    refine lv_tableOut (tgt := 103) hx hb dX2_joined_1 (Or.inr (by decide)) (by decide) ?_
    refine lv_iload_n hx hb dX2_joined_103 rfl (lv_at hl 0 rfl) ?_
    refine lv_iload_n hx hb dX2_joined_104 rfl (lv_at hl 1 rfl) ?_
    refine lv_icmp_ne (tgt := 112) hx hb dX2_joined_105 (by decide) (fun c1 => ?_) (fun c1 => ?_)
    · skip
      refine lv_iconst (v := 0) hx hb dX2_joined_112 (by decide) ?_
      exact hret 113 ls _ _ _ _ dX2_joined_113 ⟨rfl, by simp [jnF, b2, c1]⟩ (Or.inl rfl) hW
    · skip
      refine lv_iconst (v := 1) hx hb dX2_joined_108 (by decide) ?_
      refine lv_goto (tgt := 113) hx hb dX2_joined_109 (by decide) ?_
      exact hret 113 ls _ _ _ _ dX2_joined_113 ⟨rfl, by simp [jnF, b2, c1]⟩ (Or.inr rfl) hW
end
section
def cyT (M : Nat → Nat → Int32) (b : Nat) : Nat → Int32 := fun j => if M (b + 1) j = 0 then 0 else 1
abbrev rm_countYes : Room := { frames := 0, cells := 0, slots := 0, locals := 0 }
set_option maxHeartbeats 4000000 in
set_option maxRecDepth 100000 in
/-- to how many answers a fold says yes -/
theorem c_countYes (l : Launch) (D : va_G) (I Z F : ClassId) (ad : Nat → Nat) (hI : cI ad) (M : Nat → Nat → Int32) (sz : Nat) (f : Nat) (hf : f < 12) : Met l yX2_countYes wsX2_countYes rm_countYes (va_Pc [.ref (ad (25 + 6 * f))] (cU D I Z F ad sz M)) (va_Qi (fun (r : Int32) (u : Nat → Nat → Int32) => u = M ∧ r = sI (cyT M (25 + 6 * f)) 256) (fun u t => cP D I Z F ad u t.heap) (cA ad sz)) 0 0 (cA ad sz) := by
  refine cMet_i (cc := cX2_countYes) (maxL := 3) hI (by decide) rfl ⟨rfl, rfl⟩ RX2 rfl (Nat.le_of_ble_eq_true rfl) (lv := [(0, .ref (ad (25 + 6 * f)))]) rfl ?_
  intro p e s m args below meth c Q A ls hsz C0 hW hl hret
  obtain ⟨hx, hb, hml, hts, hown, hlocks, hK, hN, hDa, hA, hargs⟩ := C0
  have hin0 : ∀ w ∈ u_ws RX0 TX0 7, w ∈ wsX2_countYes := by decide +kernel
  refine lv_iconst (v := 0) hx hb dX2_countYes_0 (by decide) ?_
  refine lv_istore_n (lv' := [(1, .int 0), (0, .ref (ad (25 + 6 * f)))]) hx hb dX2_countYes_1 rfl hl (by decide) rfl (fun ls hl => ?_)
  refine lv_iconst (v := 0) hx hb dX2_countYes_2 (by decide) ?_
  refine lv_istore_n (lv' := [(2, .int 0), (1, .int 0), (0, .ref (ad (25 + 6 * f)))]) hx hb dX2_countYes_3 rfl hl (by decide) rfl (fun ls hl => ?_)
  have loop : ∀ q i : Nat, i + q = 256 → ∀ (ls : Array Slot), lv_has ls 3 [(2, .int (nI i)), (1, .int (sI (cyT M (25 + 6 * f)) i)), (0, .ref (ad (25 + 6 * f)))] → W p l e rm_countYes s m args below meth c s.heap [] 0 0 Q (F0 m 4 ls []) := by
    intro q
    induction q with
    | zero =>
      intro i hi ls hl
      obtain rfl : i = 256 := by omega
      refine lv_iload_n hx hb dX2_countYes_4 rfl (lv_at hl 0 rfl) ?_
      refine lv_sipush (v := 256) hx hb dX2_countYes_5 (by decide) ?_
      refine lv_icmp_ge (tgt := 34) hx hb dX2_countYes_8 (by decide) (fun c1 => ?_) (fun c1 => ?_)
      · skip
        refine lv_iload_n hx hb dX2_countYes_34 rfl (lv_at hl 1 rfl) ?_
        exact hret 35 ls _ _ _ _ dX2_countYes_35 ⟨rfl, rfl⟩ hW
      · exact absurd (nI_le (Nat.le_refl 256) (by omega)) c1
    | succ q ih =>
      intro i hi ls hl
      refine lv_iload_n hx hb dX2_countYes_4 rfl (lv_at hl 0 rfl) ?_
      refine lv_sipush (v := 256) hx hb dX2_countYes_5 (by decide) ?_
      refine lv_icmp_ge (tgt := 34) hx hb dX2_countYes_8 (by decide) (fun c1 => ?_) (fun c1 => ?_)
      · exact absurd c1 (nI_ge (b := 256) (by omega) (by omega))
      · skip
        refine lv_iload_n hx hb dX2_countYes_11 rfl (lv_at hl 1 rfl) ?_
        refine lv_aload_n hx hb dX2_countYes_12 rfl (lv_at hl 2 rfl) ?_
        refine cr_getN (v := .ref (ad (25 + 6 * f + 1))) (host := "SharedForks") hx hb hts hin0 hown hK hW (25 + 6 * f) (by omega) (cE_d0 I Z F ad M f) rfl 1 (by decide) rfl hN (by decide +kernel) rfl dX2_countYes_13 ?_
        refine lv_iload_n hx hb dX2_countYes_16 rfl (lv_at hl 0 rfl) ?_
        refine cr_zald hx hb hK hW (25 + 6 * f + 1) (by omega) (cE_d1 I Z F ad M f) i (by omega) (by decide) rfl dX2_countYes_17 ?_
        refine lv_if_eq (tgt := 25) hx hb dX2_countYes_18 (by decide) (fun c2 => ?_) (fun c2 => ?_)
        · skip
          refine lv_iconst (v := 0) hx hb dX2_countYes_25 (by decide) ?_
          refine lv_iadd hx hb dX2_countYes_26 ?_
          rw [show ((sI (cyT M (25 + 6 * f)) i) + 0) = sI (cyT M (25 + 6 * f)) (i + 1) from sI_s (by rw [cyT, if_pos c2])]
          refine lv_istore_n (lv' := [(1, .int (sI (cyT M (25 + 6 * f)) (i + 1))), (2, .int (nI i)), (0, .ref (ad (25 + 6 * f)))]) hx hb dX2_countYes_27 rfl hl (by decide) rfl (fun ls hl => ?_)
          refine lv_iinc (v := nI (i + 1)) (lv' := [(2, .int (nI (i + 1))), (1, .int (sI (cyT M (25 + 6 * f)) (i + 1))), (0, .ref (ad (25 + 6 * f)))]) hx hb dX2_countYes_28 hl (k := 1) rfl (nI_1 i) (by decide) rfl (fun ls hl => ?_)
          refine lv_goto (tgt := 4) hx hb dX2_countYes_31 (by decide) ?_
          exact ih (i + 1) (by omega) ls (lv_sub hl [0, 1, 2] rfl)
        · skip
          refine lv_iconst (v := 1) hx hb dX2_countYes_21 (by decide) ?_
          refine lv_goto (tgt := 26) hx hb dX2_countYes_22 (by decide) ?_
          refine lv_iadd hx hb dX2_countYes_26 ?_
          rw [show ((sI (cyT M (25 + 6 * f)) i) + 1) = sI (cyT M (25 + 6 * f)) (i + 1) from sI_s (by rw [cyT, if_neg c2])]
          refine lv_istore_n (lv' := [(1, .int (sI (cyT M (25 + 6 * f)) (i + 1))), (2, .int (nI i)), (0, .ref (ad (25 + 6 * f)))]) hx hb dX2_countYes_27 rfl hl (by decide) rfl (fun ls hl => ?_)
          refine lv_iinc (v := nI (i + 1)) (lv' := [(2, .int (nI (i + 1))), (1, .int (sI (cyT M (25 + 6 * f)) (i + 1))), (0, .ref (ad (25 + 6 * f)))]) hx hb dX2_countYes_28 hl (k := 1) rfl (nI_1 i) (by decide) rfl (fun ls hl => ?_)
          refine lv_goto (tgt := 4) hx hb dX2_countYes_31 (by decide) ?_
          exact ih (i + 1) (by omega) ls (lv_sub hl [0, 1, 2] rfl)
  exact loop 256 0 (by omega) ls (lv_sub hl [0, 1, 2] rfl)

def ckT (M : Nat → Nat → Int32) : Nat → Int32 := fun f => if M (25 + 6 * f) 0 = 0 then 0 else 1
abbrev rm_countKept : Room := { frames := 0, cells := 0, slots := 0, locals := 0 }
set_option maxHeartbeats 4000000 in
set_option maxRecDepth 100000 in
/-- how many folds there are -/
theorem c_countKept (l : Launch) (D : va_G) (I Z F : ClassId) (ad : Nat → Nat) (hI : cI ad) (M : Nat → Nat → Int32) (sz : Nat)  : Met l yX2_countKept wsX2_countKept rm_countKept (va_Pc [.ref (ad 0)] (cU D I Z F ad sz M)) (va_Qi (fun (r : Int32) (u : Nat → Nat → Int32) => u = M ∧ r = sI (ckT M) 12) (fun u t => cP D I Z F ad u t.heap) (cA ad sz)) 0 0 (cA ad sz) := by
  refine cMet_i (cc := cX2_countKept) (maxL := 3) hI (by decide) rfl ⟨rfl, rfl⟩ RX2 rfl (Nat.le_of_ble_eq_true rfl) (lv := [(0, .ref (ad 0))]) rfl ?_
  intro p e s m args below meth c Q A ls hsz C0 hW hl hret
  obtain ⟨hx, hb, hml, hts, hown, hlocks, hK, hN, hDa, hA, hargs⟩ := C0
  have hin0 : ∀ w ∈ u_ws RX0 TX0 7, w ∈ wsX2_countKept := by decide +kernel
  have hin2 : ∀ w ∈ u_ws RX2 TX2 6, w ∈ wsX2_countKept := by decide +kernel
  refine lv_iconst (v := 0) hx hb dX2_countKept_0 (by decide) ?_
  refine lv_istore_n (lv' := [(1, .int 0), (0, .ref (ad 0))]) hx hb dX2_countKept_1 rfl hl (by decide) rfl (fun ls hl => ?_)
  refine lv_iconst (v := 0) hx hb dX2_countKept_2 (by decide) ?_
  refine lv_istore_n (lv' := [(2, .int 0), (1, .int 0), (0, .ref (ad 0))]) hx hb dX2_countKept_3 rfl hl (by decide) rfl (fun ls hl => ?_)
  have loop : ∀ q i : Nat, i + q = 12 → ∀ (ls : Array Slot), lv_has ls 3 [(2, .int (nI i)), (1, .int (sI (ckT M) i)), (0, .ref (ad 0))] → W p l e rm_countKept s m args below meth c s.heap [] 0 0 Q (F0 m 4 ls []) := by
    intro q
    induction q with
    | zero =>
      intro i hi ls hl
      obtain rfl : i = 12 := by omega
      refine lv_iload_n hx hb dX2_countKept_4 rfl (lv_at hl 0 rfl) ?_
      refine lv_bipush (v := 12) hx hb dX2_countKept_5 (by decide) ?_
      refine lv_icmp_ge (tgt := 36) hx hb dX2_countKept_7 (by decide) (fun c1 => ?_) (fun c1 => ?_)
      · skip
        refine lv_iload_n hx hb dX2_countKept_36 rfl (lv_at hl 1 rfl) ?_
        exact hret 37 ls _ _ _ _ dX2_countKept_37 ⟨rfl, rfl⟩ hW
      · exact absurd (nI_le (Nat.le_refl 12) (by omega)) c1
    | succ q ih =>
      intro i hi ls hl
      refine lv_iload_n hx hb dX2_countKept_4 rfl (lv_at hl 0 rfl) ?_
      refine lv_bipush (v := 12) hx hb dX2_countKept_5 (by decide) ?_
      refine lv_icmp_ge (tgt := 36) hx hb dX2_countKept_7 (by decide) (fun c1 => ?_) (fun c1 => ?_)
      · exact absurd c1 (nI_ge (b := 12) (by omega) (by omega))
      · skip
        refine lv_iload_n hx hb dX2_countKept_10 rfl (lv_at hl 1 rfl) ?_
        refine lv_aload_n hx hb dX2_countKept_11 rfl (lv_at hl 2 rfl) ?_
        refine cr_get (v := .ref (ad 1)) hx hb hts hin2 hown hK hW 0 (by decide) (cE_x I Z F ad M) rfl 0 (by decide) rfl (by decide +kernel) rfl dX2_countKept_12 ?_
        refine lv_iload_n hx hb dX2_countKept_15 rfl (lv_at hl 0 rfl) ?_
        refine cr_fald hx hb hK hW i (by omega) rfl dX2_countKept_16 ?_
        refine cr_getN (v := .int (M (25 + 6 * i) 0)) (host := "SharedForks") hx hb hts hin0 hown hK hW (25 + 6 * i) (by omega) (cE_d0 I Z F ad M i) rfl 0 (by decide) rfl hN (by decide +kernel) rfl dX2_countKept_17 ?_
        refine lv_if_eq (tgt := 27) hx hb dX2_countKept_20 (by decide) (fun c2 => ?_) (fun c2 => ?_)
        · skip
          refine lv_iconst (v := 0) hx hb dX2_countKept_27 (by decide) ?_
          refine lv_iadd hx hb dX2_countKept_28 ?_
          rw [show ((sI (ckT M) i) + 0) = sI (ckT M) (i + 1) from sI_s (by rw [ckT, if_pos c2])]
          refine lv_istore_n (lv' := [(1, .int (sI (ckT M) (i + 1))), (2, .int (nI i)), (0, .ref (ad 0))]) hx hb dX2_countKept_29 rfl hl (by decide) rfl (fun ls hl => ?_)
          refine lv_iinc (v := nI (i + 1)) (lv' := [(2, .int (nI (i + 1))), (1, .int (sI (ckT M) (i + 1))), (0, .ref (ad 0))]) hx hb dX2_countKept_30 hl (k := 1) rfl (nI_1 i) (by decide) rfl (fun ls hl => ?_)
          refine lv_goto (tgt := 4) hx hb dX2_countKept_33 (by decide) ?_
          exact ih (i + 1) (by omega) ls (lv_sub hl [0, 1, 2] rfl)
        · skip
          refine lv_iconst (v := 1) hx hb dX2_countKept_23 (by decide) ?_
          refine lv_goto (tgt := 28) hx hb dX2_countKept_24 (by decide) ?_
          refine lv_iadd hx hb dX2_countKept_28 ?_
          rw [show ((sI (ckT M) i) + 1) = sI (ckT M) (i + 1) from sI_s (by rw [ckT, if_neg c2])]
          refine lv_istore_n (lv' := [(1, .int (sI (ckT M) (i + 1))), (2, .int (nI i)), (0, .ref (ad 0))]) hx hb dX2_countKept_29 rfl hl (by decide) rfl (fun ls hl => ?_)
          refine lv_iinc (v := nI (i + 1)) (lv' := [(2, .int (nI (i + 1))), (1, .int (sI (ckT M) (i + 1))), (0, .ref (ad 0))]) hx hb dX2_countKept_30 hl (k := 1) rfl (nI_1 i) (by decide) rfl (fun ls hl => ?_)
          refine lv_goto (tgt := 4) hx hb dX2_countKept_33 (by decide) ?_
          exact ih (i + 1) (by omega) ls (lv_sub hl [0, 1, 2] rfl)
  exact loop 12 0 (by omega) ls (lv_sub hl [0, 1, 2] rfl)

def afT (M : Nat → Nat → Int32) : Nat → Int32 := fun f => if M (25 + 6 * f) 0 = 0 then 0 else M (25 + 6 * f) 2
abbrev rm_addForks : Room := { frames := 0, cells := 0, slots := 0, locals := 0 }
set_option maxHeartbeats 4000000 in
set_option maxRecDepth 100000 in
/-- the folds' forks, added -/
theorem c_addForks (l : Launch) (D : va_G) (I Z F : ClassId) (ad : Nat → Nat) (hI : cI ad) (M : Nat → Nat → Int32) (sz : Nat)  : Met l yX2_addForks wsX2_addForks rm_addForks (va_Pc [.ref (ad 0)] (cU D I Z F ad sz M)) (va_Qi (fun (r : Int32) (u : Nat → Nat → Int32) => u = M ∧ r = sI (afT M) 12) (fun u t => cP D I Z F ad u t.heap) (cA ad sz)) 0 0 (cA ad sz) := by
  refine cMet_i (cc := cX2_addForks) (maxL := 3) hI (by decide) rfl ⟨rfl, rfl⟩ RX2 rfl (Nat.le_of_ble_eq_true rfl) (lv := [(0, .ref (ad 0))]) rfl ?_
  intro p e s m args below meth c Q A ls hsz C0 hW hl hret
  obtain ⟨hx, hb, hml, hts, hown, hlocks, hK, hN, hDa, hA, hargs⟩ := C0
  have hin0 : ∀ w ∈ u_ws RX0 TX0 7, w ∈ wsX2_addForks := by decide +kernel
  have hin2 : ∀ w ∈ u_ws RX2 TX2 6, w ∈ wsX2_addForks := by decide +kernel
  refine lv_iconst (v := 0) hx hb dX2_addForks_0 (by decide) ?_
  refine lv_istore_n (lv' := [(1, .int 0), (0, .ref (ad 0))]) hx hb dX2_addForks_1 rfl hl (by decide) rfl (fun ls hl => ?_)
  refine lv_iconst (v := 0) hx hb dX2_addForks_2 (by decide) ?_
  refine lv_istore_n (lv' := [(2, .int 0), (1, .int 0), (0, .ref (ad 0))]) hx hb dX2_addForks_3 rfl hl (by decide) rfl (fun ls hl => ?_)
  have loop : ∀ q i : Nat, i + q = 12 → ∀ (ls : Array Slot), lv_has ls 3 [(2, .int (nI i)), (1, .int (sI (afT M) i)), (0, .ref (ad 0))] → W p l e rm_addForks s m args below meth c s.heap [] 0 0 Q (F0 m 4 ls []) := by
    intro q
    induction q with
    | zero =>
      intro i hi ls hl
      obtain rfl : i = 12 := by omega
      refine lv_iload_n hx hb dX2_addForks_4 rfl (lv_at hl 0 rfl) ?_
      refine lv_bipush (v := 12) hx hb dX2_addForks_5 (by decide) ?_
      refine lv_icmp_ge (tgt := 44) hx hb dX2_addForks_7 (by decide) (fun c1 => ?_) (fun c1 => ?_)
      · skip
        refine lv_iload_n hx hb dX2_addForks_44 rfl (lv_at hl 1 rfl) ?_
        exact hret 45 ls _ _ _ _ dX2_addForks_45 ⟨rfl, rfl⟩ hW
      · exact absurd (nI_le (Nat.le_refl 12) (by omega)) c1
    | succ q ih =>
      intro i hi ls hl
      refine lv_iload_n hx hb dX2_addForks_4 rfl (lv_at hl 0 rfl) ?_
      refine lv_bipush (v := 12) hx hb dX2_addForks_5 (by decide) ?_
      refine lv_icmp_ge (tgt := 44) hx hb dX2_addForks_7 (by decide) (fun c1 => ?_) (fun c1 => ?_)
      · exact absurd c1 (nI_ge (b := 12) (by omega) (by omega))
      · skip
        refine lv_iload_n hx hb dX2_addForks_10 rfl (lv_at hl 1 rfl) ?_
        refine lv_aload_n hx hb dX2_addForks_11 rfl (lv_at hl 2 rfl) ?_
        refine cr_get (v := .ref (ad 1)) hx hb hts hin2 hown hK hW 0 (by decide) (cE_x I Z F ad M) rfl 0 (by decide) rfl (by decide +kernel) rfl dX2_addForks_12 ?_
        refine lv_iload_n hx hb dX2_addForks_15 rfl (lv_at hl 0 rfl) ?_
        refine cr_fald hx hb hK hW i (by omega) rfl dX2_addForks_16 ?_
        refine cr_getN (v := .int (M (25 + 6 * i) 0)) (host := "SharedForks") hx hb hts hin0 hown hK hW (25 + 6 * i) (by omega) (cE_d0 I Z F ad M i) rfl 0 (by decide) rfl hN (by decide +kernel) rfl dX2_addForks_17 ?_
        refine lv_if_eq (tgt := 35) hx hb dX2_addForks_20 (by decide) (fun c2 => ?_) (fun c2 => ?_)
        · skip
          refine lv_iconst (v := 0) hx hb dX2_addForks_35 (by decide) ?_
          refine lv_iadd hx hb dX2_addForks_36 ?_
          rw [show ((sI (afT M) i) + 0) = sI (afT M) (i + 1) from sI_s (by rw [afT, if_pos c2])]
          refine lv_istore_n (lv' := [(1, .int (sI (afT M) (i + 1))), (2, .int (nI i)), (0, .ref (ad 0))]) hx hb dX2_addForks_37 rfl hl (by decide) rfl (fun ls hl => ?_)
          refine lv_iinc (v := nI (i + 1)) (lv' := [(2, .int (nI (i + 1))), (1, .int (sI (afT M) (i + 1))), (0, .ref (ad 0))]) hx hb dX2_addForks_38 hl (k := 1) rfl (nI_1 i) (by decide) rfl (fun ls hl => ?_)
          refine lv_goto (tgt := 4) hx hb dX2_addForks_41 (by decide) ?_
          exact ih (i + 1) (by omega) ls (lv_sub hl [0, 1, 2] rfl)
        · skip
          refine lv_aload_n hx hb dX2_addForks_23 rfl (lv_at hl 2 rfl) ?_
          refine cr_get (v := .ref (ad 1)) hx hb hts hin2 hown hK hW 0 (by decide) (cE_x I Z F ad M) rfl 0 (by decide) rfl (by decide +kernel) rfl dX2_addForks_24 ?_
          refine lv_iload_n hx hb dX2_addForks_27 rfl (lv_at hl 0 rfl) ?_
          refine cr_fald hx hb hK hW i (by omega) rfl dX2_addForks_28 ?_
          refine cr_getN (v := .int (M (25 + 6 * i) 2)) (host := "SharedForks") hx hb hts hin0 hown hK hW (25 + 6 * i) (by omega) (cE_d0 I Z F ad M i) rfl 2 (by decide) rfl hN (by decide +kernel) rfl dX2_addForks_29 ?_
          refine lv_goto (tgt := 36) hx hb dX2_addForks_32 (by decide) ?_
          refine lv_iadd hx hb dX2_addForks_36 ?_
          rw [show ((sI (afT M) i) + (M (25 + 6 * i) 2)) = sI (afT M) (i + 1) from sI_s (by rw [afT, if_neg c2])]
          refine lv_istore_n (lv' := [(1, .int (sI (afT M) (i + 1))), (2, .int (nI i)), (0, .ref (ad 0))]) hx hb dX2_addForks_37 rfl hl (by decide) rfl (fun ls hl => ?_)
          refine lv_iinc (v := nI (i + 1)) (lv' := [(2, .int (nI (i + 1))), (1, .int (sI (afT M) (i + 1))), (0, .ref (ad 0))]) hx hb dX2_addForks_38 hl (k := 1) rfl (nI_1 i) (by decide) rfl (fun ls hl => ?_)
          refine lv_goto (tgt := 4) hx hb dX2_addForks_41 (by decide) ?_
          exact ih (i + 1) (by omega) ls (lv_sub hl [0, 1, 2] rfl)
  exact loop 12 0 (by omega) ls (lv_sub hl [0, 1, 2] rfl)

def cfT (M : Nat → Nat → Int32) : Nat → Int32 := fun k => if M (3 + 1) k = M 2 0 then 1 else 0
abbrev rm_countForksAtFirstPlace : Room := { frames := 0, cells := 0, slots := 0, locals := 0 }
set_option maxHeartbeats 4000000 in
set_option maxRecDepth 100000 in
/-- the forks with the first question -/
theorem c_countForksAtFirstPlace (l : Launch) (D : va_G) (I Z F : ClassId) (ad : Nat → Nat) (hI : cI ad) (M : Nat → Nat → Int32) (sz : Nat) (n : Nat) (hn6 : n ≤ 626) (h0 : M 3 0 = nI n) : Met l yX2_countForksAtFirstPlace wsX2_countForksAtFirstPlace rm_countForksAtFirstPlace (va_Pc [.ref (ad 0)] (cU D I Z F ad sz M)) (va_Qi (fun (r : Int32) (u : Nat → Nat → Int32) => u = M ∧ r = sI (cfT M) n) (fun u t => cP D I Z F ad u t.heap) (cA ad sz)) 0 0 (cA ad sz) := by
  refine cMet_i (cc := cX2_countForksAtFirstPlace) (maxL := 3) hI (by decide) rfl ⟨rfl, rfl⟩ RX2 rfl (Nat.le_of_ble_eq_true rfl) (lv := [(0, .ref (ad 0))]) rfl ?_
  intro p e s m args below meth c Q A ls hsz C0 hW hl hret
  obtain ⟨hx, hb, hml, hts, hown, hlocks, hK, hN, hDa, hA, hargs⟩ := C0
  have hin1 : ∀ w ∈ u_ws RX1 TX1 10, w ∈ wsX2_countForksAtFirstPlace := by decide +kernel
  have hin2 : ∀ w ∈ u_ws RX2 TX2 6, w ∈ wsX2_countForksAtFirstPlace := by decide +kernel
  refine lv_iconst (v := 0) hx hb dX2_countForksAtFirstPlace_0 (by decide) ?_
  refine lv_istore_n (lv' := [(1, .int 0), (0, .ref (ad 0))]) hx hb dX2_countForksAtFirstPlace_1 rfl hl (by decide) rfl (fun ls hl => ?_)
  refine lv_iconst (v := 0) hx hb dX2_countForksAtFirstPlace_2 (by decide) ?_
  refine lv_istore_n (lv' := [(2, .int 0), (1, .int 0), (0, .ref (ad 0))]) hx hb dX2_countForksAtFirstPlace_3 rfl hl (by decide) rfl (fun ls hl => ?_)
  have loop : ∀ q i : Nat, i + q = n → ∀ (ls : Array Slot), lv_has ls 3 [(2, .int (nI i)), (1, .int (sI (cfT M) i)), (0, .ref (ad 0))] → W p l e rm_countForksAtFirstPlace s m args below meth c s.heap [] 0 0 Q (F0 m 4 ls []) := by
    intro q
    induction q with
    | zero =>
      intro i hi ls hl
      obtain rfl : i = n := by omega
      refine lv_iload_n hx hb dX2_countForksAtFirstPlace_4 rfl (lv_at hl 0 rfl) ?_
      refine lv_aload_n hx hb dX2_countForksAtFirstPlace_5 rfl (lv_at hl 2 rfl) ?_
      refine cr_get (v := .ref (ad 3)) hx hb hts hin2 hown hK hW 0 (by decide) (cE_x I Z F ad M) rfl 2 (by decide) rfl (by decide +kernel) rfl dX2_countForksAtFirstPlace_6 ?_
      refine cr_getN (v := .int (M 3 0)) (host := "SharedForks") hx hb hts hin1 hown hK hW 3 (by decide) (cE_f0 I Z F ad M (Or.inl rfl)) rfl 0 (by decide) rfl hN (by decide +kernel) rfl dX2_countForksAtFirstPlace_9 ?_
      rw [h0]
      refine lv_icmp_ge (tgt := 47) hx hb dX2_countForksAtFirstPlace_12 (by decide) (fun c1 => ?_) (fun c1 => ?_)
      · skip
        refine lv_iload_n hx hb dX2_countForksAtFirstPlace_47 rfl (lv_at hl 1 rfl) ?_
        exact hret 48 ls _ _ _ _ dX2_countForksAtFirstPlace_48 ⟨rfl, rfl⟩ hW
      · exact absurd (nI_le (Nat.le_refl i) (by omega)) c1
    | succ q ih =>
      intro i hi ls hl
      refine lv_iload_n hx hb dX2_countForksAtFirstPlace_4 rfl (lv_at hl 0 rfl) ?_
      refine lv_aload_n hx hb dX2_countForksAtFirstPlace_5 rfl (lv_at hl 2 rfl) ?_
      refine cr_get (v := .ref (ad 3)) hx hb hts hin2 hown hK hW 0 (by decide) (cE_x I Z F ad M) rfl 2 (by decide) rfl (by decide +kernel) rfl dX2_countForksAtFirstPlace_6 ?_
      refine cr_getN (v := .int (M 3 0)) (host := "SharedForks") hx hb hts hin1 hown hK hW 3 (by decide) (cE_f0 I Z F ad M (Or.inl rfl)) rfl 0 (by decide) rfl hN (by decide +kernel) rfl dX2_countForksAtFirstPlace_9 ?_
      rw [h0]
      refine lv_icmp_ge (tgt := 47) hx hb dX2_countForksAtFirstPlace_12 (by decide) (fun c1 => ?_) (fun c1 => ?_)
      · exact absurd c1 (nI_ge (b := n) (by omega) (by omega))
      · skip
        refine lv_iload_n hx hb dX2_countForksAtFirstPlace_15 rfl (lv_at hl 1 rfl) ?_
        refine lv_aload_n hx hb dX2_countForksAtFirstPlace_16 rfl (lv_at hl 2 rfl) ?_
        refine cr_get (v := .ref (ad 3)) hx hb hts hin2 hown hK hW 0 (by decide) (cE_x I Z F ad M) rfl 2 (by decide) rfl (by decide +kernel) rfl dX2_countForksAtFirstPlace_17 ?_
        refine cr_getN (v := .ref (ad (3 + 1))) (host := "SharedForks") hx hb hts hin1 hown hK hW 3 (by decide) (cE_f0 I Z F ad M (Or.inl rfl)) rfl 1 (by decide) rfl hN (by decide +kernel) rfl dX2_countForksAtFirstPlace_20 ?_
        refine lv_iload_n hx hb dX2_countForksAtFirstPlace_23 rfl (lv_at hl 0 rfl) ?_
        refine cr_iald hx hb hK hW (3 + 1) (by decide) (cE_f1 I Z F ad M (Or.inl rfl)) i (by omega) (by decide) rfl dX2_countForksAtFirstPlace_24 ?_
        refine lv_aload_n hx hb dX2_countForksAtFirstPlace_25 rfl (lv_at hl 2 rfl) ?_
        refine cr_get (v := .ref (ad 2)) hx hb hts hin2 hown hK hW 0 (by decide) (cE_x I Z F ad M) rfl 1 (by decide) rfl (by decide +kernel) rfl dX2_countForksAtFirstPlace_26 ?_
        refine lv_iconst (v := 0) hx hb dX2_countForksAtFirstPlace_29 (by decide) ?_
        refine cr_iald hx hb hK hW 2 (by decide) (cE_q I Z F ad M) 0 (by decide) (by decide) rfl dX2_countForksAtFirstPlace_30 ?_
        refine lv_icmp_ne (tgt := 38) hx hb dX2_countForksAtFirstPlace_31 (by decide) (fun c2 => ?_) (fun c2 => ?_)
        · skip
          refine lv_iconst (v := 0) hx hb dX2_countForksAtFirstPlace_38 (by decide) ?_
          refine lv_iadd hx hb dX2_countForksAtFirstPlace_39 ?_
          rw [show ((sI (cfT M) i) + 0) = sI (cfT M) (i + 1) from sI_s (by rw [cfT, if_neg c2])]
          refine lv_istore_n (lv' := [(1, .int (sI (cfT M) (i + 1))), (2, .int (nI i)), (0, .ref (ad 0))]) hx hb dX2_countForksAtFirstPlace_40 rfl hl (by decide) rfl (fun ls hl => ?_)
          refine lv_iinc (v := nI (i + 1)) (lv' := [(2, .int (nI (i + 1))), (1, .int (sI (cfT M) (i + 1))), (0, .ref (ad 0))]) hx hb dX2_countForksAtFirstPlace_41 hl (k := 1) rfl (nI_1 i) (by decide) rfl (fun ls hl => ?_)
          refine lv_goto (tgt := 4) hx hb dX2_countForksAtFirstPlace_44 (by decide) ?_
          exact ih (i + 1) (by omega) ls (lv_sub hl [0, 1, 2] rfl)
        · skip
          refine lv_iconst (v := 1) hx hb dX2_countForksAtFirstPlace_34 (by decide) ?_
          refine lv_goto (tgt := 39) hx hb dX2_countForksAtFirstPlace_35 (by decide) ?_
          refine lv_iadd hx hb dX2_countForksAtFirstPlace_39 ?_
          rw [show ((sI (cfT M) i) + 1) = sI (cfT M) (i + 1) from sI_s (by rw [cfT, if_pos c2])]
          refine lv_istore_n (lv' := [(1, .int (sI (cfT M) (i + 1))), (2, .int (nI i)), (0, .ref (ad 0))]) hx hb dX2_countForksAtFirstPlace_40 rfl hl (by decide) rfl (fun ls hl => ?_)
          refine lv_iinc (v := nI (i + 1)) (lv' := [(2, .int (nI (i + 1))), (1, .int (sI (cfT M) (i + 1))), (0, .ref (ad 0))]) hx hb dX2_countForksAtFirstPlace_41 hl (k := 1) rfl (nI_1 i) (by decide) rfl (fun ls hl => ?_)
          refine lv_goto (tgt := 4) hx hb dX2_countForksAtFirstPlace_44 (by decide) ?_
          exact ih (i + 1) (by omega) ls (lv_sub hl [0, 1, 2] rfl)
  exact loop n 0 (by omega) ls (lv_sub hl [0, 1, 2] rfl)

def clT (M : Nat → Nat → Int32) : Nat → Int32 := fun f => if ¬ M (25 + 6 * f) 0 = 0 ∧ M (25 + 6 * f) 2 = 0 then 1 else 0
abbrev rm_countLeaves : Room := { frames := 0, cells := 0, slots := 0, locals := 0 }
set_option maxHeartbeats 4000000 in
set_option maxRecDepth 100000 in
/-- the folds that are leaves -/
theorem c_countLeaves (l : Launch) (D : va_G) (I Z F : ClassId) (ad : Nat → Nat) (hI : cI ad) (M : Nat → Nat → Int32) (sz : Nat)  : Met l yX2_countLeaves wsX2_countLeaves rm_countLeaves (va_Pc [.ref (ad 0)] (cU D I Z F ad sz M)) (va_Qi (fun (r : Int32) (u : Nat → Nat → Int32) => u = M ∧ r = sI (clT M) 12) (fun u t => cP D I Z F ad u t.heap) (cA ad sz)) 0 0 (cA ad sz) := by
  refine cMet_i (cc := cX2_countLeaves) (maxL := 3) hI (by decide) rfl ⟨rfl, rfl⟩ RX2 rfl (Nat.le_of_ble_eq_true rfl) (lv := [(0, .ref (ad 0))]) rfl ?_
  intro p e s m args below meth c Q A ls hsz C0 hW hl hret
  obtain ⟨hx, hb, hml, hts, hown, hlocks, hK, hN, hDa, hA, hargs⟩ := C0
  have hin0 : ∀ w ∈ u_ws RX0 TX0 7, w ∈ wsX2_countLeaves := by decide +kernel
  have hin2 : ∀ w ∈ u_ws RX2 TX2 6, w ∈ wsX2_countLeaves := by decide +kernel
  refine lv_iconst (v := 0) hx hb dX2_countLeaves_0 (by decide) ?_
  refine lv_istore_n (lv' := [(1, .int 0), (0, .ref (ad 0))]) hx hb dX2_countLeaves_1 rfl hl (by decide) rfl (fun ls hl => ?_)
  refine lv_iconst (v := 0) hx hb dX2_countLeaves_2 (by decide) ?_
  refine lv_istore_n (lv' := [(2, .int 0), (1, .int 0), (0, .ref (ad 0))]) hx hb dX2_countLeaves_3 rfl hl (by decide) rfl (fun ls hl => ?_)
  have loop : ∀ q i : Nat, i + q = 12 → ∀ (ls : Array Slot), lv_has ls 3 [(2, .int (nI i)), (1, .int (sI (clT M) i)), (0, .ref (ad 0))] → W p l e rm_countLeaves s m args below meth c s.heap [] 0 0 Q (F0 m 4 ls []) := by
    intro q
    induction q with
    | zero =>
      intro i hi ls hl
      obtain rfl : i = 12 := by omega
      refine lv_iload_n hx hb dX2_countLeaves_4 rfl (lv_at hl 0 rfl) ?_
      refine lv_bipush (v := 12) hx hb dX2_countLeaves_5 (by decide) ?_
      refine lv_icmp_ge (tgt := 48) hx hb dX2_countLeaves_7 (by decide) (fun c1 => ?_) (fun c1 => ?_)
      · skip
        refine lv_iload_n hx hb dX2_countLeaves_48 rfl (lv_at hl 1 rfl) ?_
        exact hret 49 ls _ _ _ _ dX2_countLeaves_49 ⟨rfl, rfl⟩ hW
      · exact absurd (nI_le (Nat.le_refl 12) (by omega)) c1
    | succ q ih =>
      intro i hi ls hl
      refine lv_iload_n hx hb dX2_countLeaves_4 rfl (lv_at hl 0 rfl) ?_
      refine lv_bipush (v := 12) hx hb dX2_countLeaves_5 (by decide) ?_
      refine lv_icmp_ge (tgt := 48) hx hb dX2_countLeaves_7 (by decide) (fun c1 => ?_) (fun c1 => ?_)
      · exact absurd c1 (nI_ge (b := 12) (by omega) (by omega))
      · skip
        refine lv_iload_n hx hb dX2_countLeaves_10 rfl (lv_at hl 1 rfl) ?_
        refine lv_aload_n hx hb dX2_countLeaves_11 rfl (lv_at hl 2 rfl) ?_
        refine cr_get (v := .ref (ad 1)) hx hb hts hin2 hown hK hW 0 (by decide) (cE_x I Z F ad M) rfl 0 (by decide) rfl (by decide +kernel) rfl dX2_countLeaves_12 ?_
        refine lv_iload_n hx hb dX2_countLeaves_15 rfl (lv_at hl 0 rfl) ?_
        refine cr_fald hx hb hK hW i (by omega) rfl dX2_countLeaves_16 ?_
        refine cr_getN (v := .int (M (25 + 6 * i) 0)) (host := "SharedForks") hx hb hts hin0 hown hK hW (25 + 6 * i) (by omega) (cE_d0 I Z F ad M i) rfl 0 (by decide) rfl hN (by decide +kernel) rfl dX2_countLeaves_17 ?_
        refine lv_if_eq (tgt := 39) hx hb dX2_countLeaves_20 (by decide) (fun c2 => ?_) (fun c2 => ?_)
        · skip
          refine lv_iconst (v := 0) hx hb dX2_countLeaves_39 (by decide) ?_
          refine lv_iadd hx hb dX2_countLeaves_40 ?_
          rw [show ((sI (clT M) i) + 0) = sI (clT M) (i + 1) from sI_s (by rw [clT, if_neg (fun h => h.1 c2)])]
          refine lv_istore_n (lv' := [(1, .int (sI (clT M) (i + 1))), (2, .int (nI i)), (0, .ref (ad 0))]) hx hb dX2_countLeaves_41 rfl hl (by decide) rfl (fun ls hl => ?_)
          refine lv_iinc (v := nI (i + 1)) (lv' := [(2, .int (nI (i + 1))), (1, .int (sI (clT M) (i + 1))), (0, .ref (ad 0))]) hx hb dX2_countLeaves_42 hl (k := 1) rfl (nI_1 i) (by decide) rfl (fun ls hl => ?_)
          refine lv_goto (tgt := 4) hx hb dX2_countLeaves_45 (by decide) ?_
          exact ih (i + 1) (by omega) ls (lv_sub hl [0, 1, 2] rfl)
        · skip
          refine lv_aload_n hx hb dX2_countLeaves_23 rfl (lv_at hl 2 rfl) ?_
          refine cr_get (v := .ref (ad 1)) hx hb hts hin2 hown hK hW 0 (by decide) (cE_x I Z F ad M) rfl 0 (by decide) rfl (by decide +kernel) rfl dX2_countLeaves_24 ?_
          refine lv_iload_n hx hb dX2_countLeaves_27 rfl (lv_at hl 0 rfl) ?_
          refine cr_fald hx hb hK hW i (by omega) rfl dX2_countLeaves_28 ?_
          refine cr_getN (v := .int (M (25 + 6 * i) 2)) (host := "SharedForks") hx hb hts hin0 hown hK hW (25 + 6 * i) (by omega) (cE_d0 I Z F ad M i) rfl 2 (by decide) rfl hN (by decide +kernel) rfl dX2_countLeaves_29 ?_
          refine lv_if_ne (tgt := 39) hx hb dX2_countLeaves_32 (by decide) (fun c3 => ?_) (fun c3 => ?_)
          · skip
            refine lv_iconst (v := 0) hx hb dX2_countLeaves_39 (by decide) ?_
            refine lv_iadd hx hb dX2_countLeaves_40 ?_
            rw [show ((sI (clT M) i) + 0) = sI (clT M) (i + 1) from sI_s (by rw [clT, if_neg (fun h => c3 h.2)])]
            refine lv_istore_n (lv' := [(1, .int (sI (clT M) (i + 1))), (2, .int (nI i)), (0, .ref (ad 0))]) hx hb dX2_countLeaves_41 rfl hl (by decide) rfl (fun ls hl => ?_)
            refine lv_iinc (v := nI (i + 1)) (lv' := [(2, .int (nI (i + 1))), (1, .int (sI (clT M) (i + 1))), (0, .ref (ad 0))]) hx hb dX2_countLeaves_42 hl (k := 1) rfl (nI_1 i) (by decide) rfl (fun ls hl => ?_)
            refine lv_goto (tgt := 4) hx hb dX2_countLeaves_45 (by decide) ?_
            exact ih (i + 1) (by omega) ls (lv_sub hl [0, 1, 2] rfl)
          · skip
            refine lv_iconst (v := 1) hx hb dX2_countLeaves_35 (by decide) ?_
            refine lv_goto (tgt := 40) hx hb dX2_countLeaves_36 (by decide) ?_
            refine lv_iadd hx hb dX2_countLeaves_40 ?_
            rw [show ((sI (clT M) i) + 1) = sI (clT M) (i + 1) from sI_s (by rw [clT, if_pos ⟨c2, c3⟩])]
            refine lv_istore_n (lv' := [(1, .int (sI (clT M) (i + 1))), (2, .int (nI i)), (0, .ref (ad 0))]) hx hb dX2_countLeaves_41 rfl hl (by decide) rfl (fun ls hl => ?_)
            refine lv_iinc (v := nI (i + 1)) (lv' := [(2, .int (nI (i + 1))), (1, .int (sI (clT M) (i + 1))), (0, .ref (ad 0))]) hx hb dX2_countLeaves_42 hl (k := 1) rfl (nI_1 i) (by decide) rfl (fun ls hl => ?_)
            refine lv_goto (tgt := 4) hx hb dX2_countLeaves_45 (by decide) ?_
            exact ih (i + 1) (by omega) ls (lv_sub hl [0, 1, 2] rfl)
  exact loop 12 0 (by omega) ls (lv_sub hl [0, 1, 2] rfl)

def coT (M : Nat → Nat → Int32) (b : Nat) : Nat → Int32 := fun i => if M (3 + 4) (M (b + 2) i).toNatClampNeg = 1 then 1 else 0
abbrev rm_countOwnForks : Room := { frames := 0, cells := 0, slots := 0, locals := 0 }
set_option maxHeartbeats 4000000 in
set_option maxRecDepth 100000 in
/-- the forks that only this fold has -/
theorem c_countOwnForks (l : Launch) (D : va_G) (I Z F : ClassId) (ad : Nat → Nat) (hI : cI ad) (M : Nat → Nat → Int32) (sz : Nat) (f : Nat) (hf : f < 12) (n z : Nat) (hn6 : n ≤ 626) (hz7 : z ≤ 77) (hz : M (25 + 6 * f) 2 = nI z) (hrw : ∀ i : Nat, i < z → ∃ k : Nat, k < n ∧ M (25 + 6 * f + 2) i = nI k) : Met l yX2_countOwnForks wsX2_countOwnForks rm_countOwnForks (va_Pc [.ref (ad 0), .ref (ad (25 + 6 * f))] (cU D I Z F ad sz M)) (va_Qi (fun (r : Int32) (u : Nat → Nat → Int32) => u = M ∧ r = sI (coT M (25 + 6 * f)) z) (fun u t => cP D I Z F ad u t.heap) (cA ad sz)) 0 0 (cA ad sz) := by
  refine cMet_i (cc := cX2_countOwnForks) (maxL := 4) hI (by decide) rfl ⟨rfl, rfl⟩ RX2 rfl (Nat.le_of_ble_eq_true rfl) (lv := [(0, .ref (ad 0)), (1, .ref (ad (25 + 6 * f)))]) rfl ?_
  intro p e s m args below meth c Q A ls hsz C0 hW hl hret
  obtain ⟨hx, hb, hml, hts, hown, hlocks, hK, hN, hDa, hA, hargs⟩ := C0
  have hin2 : ∀ w ∈ u_ws RX2 TX2 6, w ∈ wsX2_countOwnForks := by decide +kernel
  have hin0 : ∀ w ∈ u_ws RX0 TX0 7, w ∈ wsX2_countOwnForks := by decide +kernel
  have hin1 : ∀ w ∈ u_ws RX1 TX1 10, w ∈ wsX2_countOwnForks := by decide +kernel
  refine lv_iconst (v := 0) hx hb dX2_countOwnForks_0 (by decide) ?_
  refine lv_istore_n (lv' := [(2, .int 0), (0, .ref (ad 0)), (1, .ref (ad (25 + 6 * f)))]) hx hb dX2_countOwnForks_1 rfl hl (by decide) rfl (fun ls hl => ?_)
  refine lv_iconst (v := 0) hx hb dX2_countOwnForks_2 (by decide) ?_
  refine lv_istore_n (lv' := [(3, .int 0), (2, .int 0), (0, .ref (ad 0)), (1, .ref (ad (25 + 6 * f)))]) hx hb dX2_countOwnForks_3 rfl hl (by decide) rfl (fun ls hl => ?_)
  have loop : ∀ q i : Nat, i + q = z → ∀ (ls : Array Slot), lv_has ls 4 [(3, .int (nI i)), (2, .int (sI (coT M (25 + 6 * f)) i)), (0, .ref (ad 0)), (1, .ref (ad (25 + 6 * f)))] → W p l e rm_countOwnForks s m args below meth c s.heap [] 0 0 Q (F0 m 4 ls []) := by
    intro q
    induction q with
    | zero =>
      intro i hi ls hl
      obtain rfl : i = z := by omega
      refine lv_iload_n hx hb dX2_countOwnForks_4 rfl (lv_at hl 0 rfl) ?_
      refine lv_aload_n hx hb dX2_countOwnForks_5 rfl (lv_at hl 3 rfl) ?_
      refine cr_getN (v := .int (M (25 + 6 * f) 2)) (host := "SharedForks") hx hb hts hin0 hown hK hW (25 + 6 * f) (by omega) (cE_d0 I Z F ad M f) rfl 2 (by decide) rfl hN (by decide +kernel) rfl dX2_countOwnForks_6 ?_
      rw [hz]
      refine lv_icmp_ge (tgt := 44) hx hb dX2_countOwnForks_9 (by decide) (fun c1 => ?_) (fun c1 => ?_)
      · skip
        refine lv_iload_n hx hb dX2_countOwnForks_44 rfl (lv_at hl 1 rfl) ?_
        exact hret 45 ls _ _ _ _ dX2_countOwnForks_45 ⟨rfl, rfl⟩ hW
      · exact absurd (nI_le (Nat.le_refl i) (by omega)) c1
    | succ q ih =>
      intro i hi ls hl
      refine lv_iload_n hx hb dX2_countOwnForks_4 rfl (lv_at hl 0 rfl) ?_
      refine lv_aload_n hx hb dX2_countOwnForks_5 rfl (lv_at hl 3 rfl) ?_
      refine cr_getN (v := .int (M (25 + 6 * f) 2)) (host := "SharedForks") hx hb hts hin0 hown hK hW (25 + 6 * f) (by omega) (cE_d0 I Z F ad M f) rfl 2 (by decide) rfl hN (by decide +kernel) rfl dX2_countOwnForks_6 ?_
      rw [hz]
      refine lv_icmp_ge (tgt := 44) hx hb dX2_countOwnForks_9 (by decide) (fun c1 => ?_) (fun c1 => ?_)
      · exact absurd c1 (nI_ge (b := z) (by omega) (by omega))
      · skip
        obtain ⟨k, hk, ek⟩ := hrw i (by omega)
        refine lv_iload_n hx hb dX2_countOwnForks_12 rfl (lv_at hl 1 rfl) ?_
        refine lv_aload_n hx hb dX2_countOwnForks_13 rfl (lv_at hl 2 rfl) ?_
        refine cr_get (v := .ref (ad 3)) hx hb hts hin2 hown hK hW 0 (by decide) (cE_x I Z F ad M) rfl 2 (by decide) rfl (by decide +kernel) rfl dX2_countOwnForks_14 ?_
        refine cr_getN (v := .ref (ad (3 + 4))) (host := "SharedForks") hx hb hts hin1 hown hK hW 3 (by decide) (cE_f0 I Z F ad M (Or.inl rfl)) rfl 4 (by decide) rfl hN (by decide +kernel) rfl dX2_countOwnForks_17 ?_
        refine lv_aload_n hx hb dX2_countOwnForks_20 rfl (lv_at hl 3 rfl) ?_
        refine cr_getN (v := .ref (ad (25 + 6 * f + 2))) (host := "SharedForks") hx hb hts hin0 hown hK hW (25 + 6 * f) (by omega) (cE_d0 I Z F ad M f) rfl 3 (by decide) rfl hN (by decide +kernel) rfl dX2_countOwnForks_21 ?_
        refine lv_iload_n hx hb dX2_countOwnForks_24 rfl (lv_at hl 0 rfl) ?_
        refine cr_iald hx hb hK hW (25 + 6 * f + 2) (by omega) (cE_d2 I Z F ad M f) i (by omega) (by decide) rfl dX2_countOwnForks_25 ?_
        refine cr_iald hx hb hK hW (3 + 4) (by decide) (cE_f4 I Z F ad M (Or.inl rfl)) k (by omega) (by decide) ek dX2_countOwnForks_26 ?_
        refine lv_iconst (v := 1) hx hb dX2_countOwnForks_27 (by decide) ?_
        refine lv_icmp_ne (tgt := 35) hx hb dX2_countOwnForks_28 (by decide) (fun c2 => ?_) (fun c2 => ?_)
        · skip
          refine lv_iconst (v := 0) hx hb dX2_countOwnForks_35 (by decide) ?_
          refine lv_iadd hx hb dX2_countOwnForks_36 ?_
          rw [show ((sI (coT M (25 + 6 * f)) i) + 0) = sI (coT M (25 + 6 * f)) (i + 1) from sI_s (by rw [coT, ek, nI_clamp (by omega), if_neg c2])]
          refine lv_istore_n (lv' := [(2, .int (sI (coT M (25 + 6 * f)) (i + 1))), (3, .int (nI i)), (0, .ref (ad 0)), (1, .ref (ad (25 + 6 * f)))]) hx hb dX2_countOwnForks_37 rfl hl (by decide) rfl (fun ls hl => ?_)
          refine lv_iinc (v := nI (i + 1)) (lv' := [(3, .int (nI (i + 1))), (2, .int (sI (coT M (25 + 6 * f)) (i + 1))), (0, .ref (ad 0)), (1, .ref (ad (25 + 6 * f)))]) hx hb dX2_countOwnForks_38 hl (k := 1) rfl (nI_1 i) (by decide) rfl (fun ls hl => ?_)
          refine lv_goto (tgt := 4) hx hb dX2_countOwnForks_41 (by decide) ?_
          exact ih (i + 1) (by omega) ls (lv_sub hl [0, 1, 2, 3] rfl)
        · skip
          refine lv_iconst (v := 1) hx hb dX2_countOwnForks_31 (by decide) ?_
          refine lv_goto (tgt := 36) hx hb dX2_countOwnForks_32 (by decide) ?_
          refine lv_iadd hx hb dX2_countOwnForks_36 ?_
          rw [show ((sI (coT M (25 + 6 * f)) i) + 1) = sI (coT M (25 + 6 * f)) (i + 1) from sI_s (by rw [coT, ek, nI_clamp (by omega), if_pos c2])]
          refine lv_istore_n (lv' := [(2, .int (sI (coT M (25 + 6 * f)) (i + 1))), (3, .int (nI i)), (0, .ref (ad 0)), (1, .ref (ad (25 + 6 * f)))]) hx hb dX2_countOwnForks_37 rfl hl (by decide) rfl (fun ls hl => ?_)
          refine lv_iinc (v := nI (i + 1)) (lv' := [(3, .int (nI (i + 1))), (2, .int (sI (coT M (25 + 6 * f)) (i + 1))), (0, .ref (ad 0)), (1, .ref (ad (25 + 6 * f)))]) hx hb dX2_countOwnForks_38 hl (k := 1) rfl (nI_1 i) (by decide) rfl (fun ls hl => ?_)
          refine lv_goto (tgt := 4) hx hb dX2_countOwnForks_41 (by decide) ?_
          exact ih (i + 1) (by omega) ls (lv_sub hl [0, 1, 2, 3] rfl)
  exact loop z 0 (by omega) ls (lv_sub hl [0, 1, 2, 3] rfl)

def qmL (M : Nat → Nat → Int32) (b : Nat) : Nat → Int32
  | 0 => 0
  | i + 1 => qmL M b i ||| (1 <<< (M (3 + 1) (M (b + 2) i).toNatClampNeg &&& 31))
abbrev rm_questionsThatMatter : Room := { frames := 0, cells := 0, slots := 0, locals := 0 }
set_option maxHeartbeats 4000000 in
set_option maxRecDepth 100000 in
/-- the questions of a fold's forks, as bits -/
theorem c_questionsThatMatter (l : Launch) (D : va_G) (I Z F : ClassId) (ad : Nat → Nat) (hI : cI ad) (M : Nat → Nat → Int32) (sz : Nat) (f : Nat) (hf : f < 12) (n z : Nat) (hn6 : n ≤ 626) (hz7 : z ≤ 77) (hz : M (25 + 6 * f) 2 = nI z) (hrw : ∀ i : Nat, i < z → ∃ k : Nat, k < n ∧ M (25 + 6 * f + 2) i = nI k) : Met l yX2_questionsThatMatter wsX2_questionsThatMatter rm_questionsThatMatter (va_Pc [.ref (ad 0), .ref (ad (25 + 6 * f))] (cU D I Z F ad sz M)) (va_Qi (fun (r : Int32) (u : Nat → Nat → Int32) => u = M ∧ r = qmL M (25 + 6 * f) z) (fun u t => cP D I Z F ad u t.heap) (cA ad sz)) 0 0 (cA ad sz) := by
  refine cMet_i (cc := cX2_questionsThatMatter) (maxL := 4) hI (by decide) rfl ⟨rfl, rfl⟩ RX2 rfl (Nat.le_of_ble_eq_true rfl) (lv := [(0, .ref (ad 0)), (1, .ref (ad (25 + 6 * f)))]) rfl ?_
  intro p e s m args below meth c Q A ls hsz C0 hW hl hret
  obtain ⟨hx, hb, hml, hts, hown, hlocks, hK, hN, hDa, hA, hargs⟩ := C0
  have hin2 : ∀ w ∈ u_ws RX2 TX2 6, w ∈ wsX2_questionsThatMatter := by decide +kernel
  have hin0 : ∀ w ∈ u_ws RX0 TX0 7, w ∈ wsX2_questionsThatMatter := by decide +kernel
  have hin1 : ∀ w ∈ u_ws RX1 TX1 10, w ∈ wsX2_questionsThatMatter := by decide +kernel
  refine lv_iconst (v := 0) hx hb dX2_questionsThatMatter_0 (by decide) ?_
  refine lv_istore_n (lv' := [(2, .int 0), (0, .ref (ad 0)), (1, .ref (ad (25 + 6 * f)))]) hx hb dX2_questionsThatMatter_1 rfl hl (by decide) rfl (fun ls hl => ?_)
  refine lv_iconst (v := 0) hx hb dX2_questionsThatMatter_2 (by decide) ?_
  refine lv_istore_n (lv' := [(3, .int 0), (2, .int 0), (0, .ref (ad 0)), (1, .ref (ad (25 + 6 * f)))]) hx hb dX2_questionsThatMatter_3 rfl hl (by decide) rfl (fun ls hl => ?_)
  have loop : ∀ q i : Nat, i + q = z → ∀ (ls : Array Slot), lv_has ls 4 [(3, .int (nI i)), (2, .int (qmL M (25 + 6 * f) i)), (0, .ref (ad 0)), (1, .ref (ad (25 + 6 * f)))] → W p l e rm_questionsThatMatter s m args below meth c s.heap [] 0 0 Q (F0 m 4 ls []) := by
    intro q
    induction q with
    | zero =>
      intro i hi ls hl
      obtain rfl : i = z := by omega
      refine lv_iload_n hx hb dX2_questionsThatMatter_4 rfl (lv_at hl 0 rfl) ?_
      refine lv_aload_n hx hb dX2_questionsThatMatter_5 rfl (lv_at hl 3 rfl) ?_
      refine cr_getN (v := .int (M (25 + 6 * f) 2)) (host := "SharedForks") hx hb hts hin0 hown hK hW (25 + 6 * f) (by omega) (cE_d0 I Z F ad M f) rfl 2 (by decide) rfl hN (by decide +kernel) rfl dX2_questionsThatMatter_6 ?_
      rw [hz]
      refine lv_icmp_ge (tgt := 37) hx hb dX2_questionsThatMatter_9 (by decide) (fun c1 => ?_) (fun c1 => ?_)
      · skip
        refine lv_iload_n hx hb dX2_questionsThatMatter_37 rfl (lv_at hl 1 rfl) ?_
        exact hret 38 ls _ _ _ _ dX2_questionsThatMatter_38 ⟨rfl, rfl⟩ hW
      · exact absurd (nI_le (by omega) (by omega)) c1
    | succ q ih =>
      intro i hi ls hl
      refine lv_iload_n hx hb dX2_questionsThatMatter_4 rfl (lv_at hl 0 rfl) ?_
      refine lv_aload_n hx hb dX2_questionsThatMatter_5 rfl (lv_at hl 3 rfl) ?_
      refine cr_getN (v := .int (M (25 + 6 * f) 2)) (host := "SharedForks") hx hb hts hin0 hown hK hW (25 + 6 * f) (by omega) (cE_d0 I Z F ad M f) rfl 2 (by decide) rfl hN (by decide +kernel) rfl dX2_questionsThatMatter_6 ?_
      rw [hz]
      refine lv_icmp_ge (tgt := 37) hx hb dX2_questionsThatMatter_9 (by decide) (fun c1 => ?_) (fun c1 => ?_)
      · exact absurd c1 (nI_ge (by omega) (by omega))
      · skip
        obtain ⟨k, hk, ek⟩ := hrw i (by omega)
        refine lv_iload_n hx hb dX2_questionsThatMatter_12 rfl (lv_at hl 1 rfl) ?_
        refine lv_iconst (v := 1) hx hb dX2_questionsThatMatter_13 (by decide) ?_
        refine lv_aload_n hx hb dX2_questionsThatMatter_14 rfl (lv_at hl 2 rfl) ?_
        refine cr_get (v := .ref (ad 3)) hx hb hts hin2 hown hK hW 0 (by decide) (cE_x I Z F ad M) rfl 2 (by decide) rfl (by decide +kernel) rfl dX2_questionsThatMatter_15 ?_
        refine cr_getN (v := .ref (ad (3 + 1))) (host := "SharedForks") hx hb hts hin1 hown hK hW 3 (by decide) (cE_f0 I Z F ad M (Or.inl rfl)) rfl 1 (by decide) rfl hN (by decide +kernel) rfl dX2_questionsThatMatter_18 ?_
        refine lv_aload_n hx hb dX2_questionsThatMatter_21 rfl (lv_at hl 3 rfl) ?_
        refine cr_getN (v := .ref (ad (25 + 6 * f + 2))) (host := "SharedForks") hx hb hts hin0 hown hK hW (25 + 6 * f) (by omega) (cE_d0 I Z F ad M f) rfl 3 (by decide) rfl hN (by decide +kernel) rfl dX2_questionsThatMatter_22 ?_
        refine lv_iload_n hx hb dX2_questionsThatMatter_25 rfl (lv_at hl 0 rfl) ?_
        refine cr_iald hx hb hK hW (25 + 6 * f + 2) (by omega) (cE_d2 I Z F ad M f) i (by omega) (by decide) rfl dX2_questionsThatMatter_26 ?_
        refine cr_iald hx hb hK hW (3 + 1) (by decide) (cE_f1 I Z F ad M (Or.inl rfl)) k (by omega) (by decide) ek dX2_questionsThatMatter_27 ?_
        refine lv_ishl hx hb dX2_questionsThatMatter_28 ?_
        refine lv_ior hx hb dX2_questionsThatMatter_29 ?_
        rw [show ((qmL M (25 + 6 * f) i) ||| (1 <<< ((M (3 + 1) k) &&& 31))) = qmL M (25 + 6 * f) (i + 1) from by rw [qmL, ek, nI_clamp (by omega)]]
        refine lv_istore_n (lv' := [(2, .int (qmL M (25 + 6 * f) (i + 1))), (3, .int (nI i)), (0, .ref (ad 0)), (1, .ref (ad (25 + 6 * f)))]) hx hb dX2_questionsThatMatter_30 rfl hl (by decide) rfl (fun ls hl => ?_)
        refine lv_iinc (v := nI (i + 1)) (lv' := [(3, .int (nI (i + 1))), (2, .int (qmL M (25 + 6 * f) (i + 1))), (0, .ref (ad 0)), (1, .ref (ad (25 + 6 * f)))]) hx hb dX2_questionsThatMatter_31 hl (k := 1) rfl (nI_1 i) (by decide) rfl (fun ls hl => ?_)
        refine lv_goto (tgt := 4) hx hb dX2_questionsThatMatter_34 (by decide) ?_
        exact ih (i + 1) (by omega) ls (lv_sub hl [0, 1, 2, 3] rfl)
  exact loop z 0 (by omega) ls (lv_sub hl [0, 1, 2, 3] rfl)
end
section
def syL (M : Nat → Nat → Int32) (b : Nat) : Nat → Nat → Int32
  | 0, _ => -1
  | q + 1, i => if M (b + 1) i = 0 then syL M b q (i + 1) else nI i
def gyL (M : Nat → Nat → Int32) (b : Nat) : Nat → Int32
  | 0 => -1
  | i + 1 => if M (b + 1) i = 0 then gyL M b i else nI i
abbrev rm_smallestYes : Room := { frames := 0, cells := 0, slots := 0, locals := 0 }
set_option maxHeartbeats 4000000 in
set_option maxRecDepth 100000 in
/-- the smallest answers with yes -/
theorem c_smallestYes (l : Launch) (D : va_G) (I Z F : ClassId) (ad : Nat → Nat) (hI : cI ad) (M : Nat → Nat → Int32) (sz : Nat) (f : Nat) (hf : f < 12) : Met l yX2_smallestYes wsX2_smallestYes rm_smallestYes (va_Pc [.ref (ad (25 + 6 * f))] (cU D I Z F ad sz M)) (va_Qi (fun (r : Int32) (u : Nat → Nat → Int32) => u = M ∧ r = syL M (25 + 6 * f) 256 0) (fun u t => cP D I Z F ad u t.heap) (cA ad sz)) 0 0 (cA ad sz) := by
  refine cMet_i (cc := cX2_smallestYes) (maxL := 2) hI (by decide) rfl ⟨rfl, rfl⟩ RX2 rfl (Nat.le_of_ble_eq_true rfl) (lv := [(0, .ref (ad (25 + 6 * f)))]) rfl ?_
  intro p e s m args below meth c Q A ls hsz C0 hW hl hret
  obtain ⟨hx, hb, hml, hts, hown, hlocks, hK, hN, hDa, hA, hargs⟩ := C0
  have hin0 : ∀ w ∈ u_ws RX0 TX0 7, w ∈ wsX2_smallestYes := by decide +kernel
  refine lv_iconst (v := 0) hx hb dX2_smallestYes_0 (by decide) ?_
  refine lv_istore_n (lv' := [(1, .int 0), (0, .ref (ad (25 + 6 * f)))]) hx hb dX2_smallestYes_1 rfl hl (by decide) rfl (fun ls hl => ?_)
  have loop : ∀ q i : Nat, i + q = 256 → syL M (25 + 6 * f) 256 0 = syL M (25 + 6 * f) q i → ∀ (ls : Array Slot), lv_has ls 2 [(1, .int (nI i)), (0, .ref (ad (25 + 6 * f)))] → W p l e rm_smallestYes s m args below meth c s.heap [] 0 0 Q (F0 m 2 ls []) := by
    intro q
    induction q with
    | zero =>
      intro i hi hv ls hl
      obtain rfl : i = 256 := by omega
      refine lv_iload_n hx hb dX2_smallestYes_2 rfl (lv_at hl 0 rfl) ?_
      refine lv_sipush (v := 256) hx hb dX2_smallestYes_3 (by decide) ?_
      refine lv_icmp_ge (tgt := 26) hx hb dX2_smallestYes_6 (by decide) (fun c1 => ?_) (fun c1 => ?_)
      · skip
        refine lv_iconst (v := -1) hx hb dX2_smallestYes_26 (by decide) ?_
        exact hret 27 ls _ _ _ _ dX2_smallestYes_27 ⟨rfl, by rw [hv]; rfl⟩ hW
      · exact absurd (nI_le (Nat.le_refl 256) (by decide)) c1
    | succ q ih =>
      intro i hi hv ls hl
      rw [show syL M (25 + 6 * f) (q + 1) i = if M ((25 + 6 * f) + 1) i = 0 then syL M (25 + 6 * f) q (i + 1) else nI i from rfl] at hv
      refine lv_iload_n hx hb dX2_smallestYes_2 rfl (lv_at hl 0 rfl) ?_
      refine lv_sipush (v := 256) hx hb dX2_smallestYes_3 (by decide) ?_
      refine lv_icmp_ge (tgt := 26) hx hb dX2_smallestYes_6 (by decide) (fun c1 => ?_) (fun c1 => ?_)
      · exact absurd c1 (nI_ge (b := 256) (by omega) (by decide))
      · skip
        refine lv_aload_n hx hb dX2_smallestYes_9 rfl (lv_at hl 1 rfl) ?_
        refine cr_getN (v := .ref (ad (25 + 6 * f + 1))) (host := "SharedForks") hx hb hts hin0 hown hK hW (25 + 6 * f) (by omega) (cE_d0 I Z F ad M f) rfl 1 (by decide) rfl hN (by decide +kernel) rfl dX2_smallestYes_10 ?_
        refine lv_iload_n hx hb dX2_smallestYes_13 rfl (lv_at hl 0 rfl) ?_
        refine cr_zald hx hb hK hW (25 + 6 * f + 1) (by omega) (cE_d1 I Z F ad M f) i (by omega) (by decide) rfl dX2_smallestYes_14 ?_
        refine lv_if_eq (tgt := 20) hx hb dX2_smallestYes_15 (by decide) (fun c2 => ?_) (fun c2 => ?_)
        · skip
          rw [if_pos c2] at hv
          refine lv_iinc (v := nI (i + 1)) (lv' := [(1, .int (nI (i + 1))), (0, .ref (ad (25 + 6 * f)))]) hx hb dX2_smallestYes_20 hl (k := 0) rfl (nI_1 i) (by decide) rfl (fun ls hl => ?_)
          refine lv_goto (tgt := 2) hx hb dX2_smallestYes_23 (by decide) ?_
          exact ih (i + 1) (by omega) hv ls (lv_sub hl [0, 1] rfl)
        · skip
          rw [if_neg c2] at hv
          refine lv_iload_n hx hb dX2_smallestYes_18 rfl (lv_at hl 0 rfl) ?_
          exact hret 19 ls _ _ _ _ dX2_smallestYes_19 ⟨rfl, hv.symm⟩ hW
  exact loop 256 0 (by decide) rfl ls (lv_sub hl [0, 1] rfl)

abbrev rm_greatestYes : Room := { frames := 0, cells := 0, slots := 0, locals := 0 }
set_option maxHeartbeats 4000000 in
set_option maxRecDepth 100000 in
/-- the greatest answers with yes -/
theorem c_greatestYes (l : Launch) (D : va_G) (I Z F : ClassId) (ad : Nat → Nat) (hI : cI ad) (M : Nat → Nat → Int32) (sz : Nat) (f : Nat) (hf : f < 12) : Met l yX2_greatestYes wsX2_greatestYes rm_greatestYes (va_Pc [.ref (ad (25 + 6 * f))] (cU D I Z F ad sz M)) (va_Qi (fun (r : Int32) (u : Nat → Nat → Int32) => u = M ∧ r = gyL M (25 + 6 * f) 256) (fun u t => cP D I Z F ad u t.heap) (cA ad sz)) 0 0 (cA ad sz) := by
  refine cMet_i (cc := cX2_greatestYes) (maxL := 2) hI (by decide) rfl ⟨rfl, rfl⟩ RX2 rfl (Nat.le_of_ble_eq_true rfl) (lv := [(0, .ref (ad (25 + 6 * f)))]) rfl ?_
  intro p e s m args below meth c Q A ls hsz C0 hW hl hret
  obtain ⟨hx, hb, hml, hts, hown, hlocks, hK, hN, hDa, hA, hargs⟩ := C0
  have hin0 : ∀ w ∈ u_ws RX0 TX0 7, w ∈ wsX2_greatestYes := by decide +kernel
  refine lv_sipush (v := 255) hx hb dX2_greatestYes_0 (by decide) ?_
  refine lv_istore_n (lv' := [(1, .int 255), (0, .ref (ad (25 + 6 * f)))]) hx hb dX2_greatestYes_3 rfl hl (by decide) rfl (fun ls hl => ?_)
  have loop : ∀ i : Nat, i ≤ 256 → gyL M (25 + 6 * f) 256 = gyL M (25 + 6 * f) i → ∀ (ls : Array Slot), lv_has ls 2 [(1, .int (nI i - 1)), (0, .ref (ad (25 + 6 * f)))] → W p l e rm_greatestYes s m args below meth c s.heap [] 0 0 Q (F0 m 4 ls []) := by
    intro i
    induction i with
    | zero =>
      intro hi hv ls hl
      refine lv_iload_n hx hb dX2_greatestYes_4 rfl (lv_at hl 0 rfl) ?_
      refine lv_if_lt (tgt := 25) hx hb dX2_greatestYes_5 (by decide) (fun c1 => ?_) (fun c1 => ?_)
      · skip
        refine lv_iconst (v := -1) hx hb dX2_greatestYes_25 (by decide) ?_
        exact hret 26 ls _ _ _ _ dX2_greatestYes_26 ⟨rfl, by rw [hv]; rfl⟩ hW
      · exact absurd (by decide : nI 0 - 1 < 0) c1
    | succ i ih =>
      intro hi hv ls hl
      rw [nI_pred] at hl
      rw [show gyL M (25 + 6 * f) (i + 1) = if M ((25 + 6 * f) + 1) i = 0 then gyL M (25 + 6 * f) i else nI i from rfl] at hv
      refine lv_iload_n hx hb dX2_greatestYes_4 rfl (lv_at hl 0 rfl) ?_
      refine lv_if_lt (tgt := 25) hx hb dX2_greatestYes_5 (by decide) (fun c1 => ?_) (fun c1 => ?_)
      · exact absurd c1 (nI_pos (by omega))
      · skip
        refine lv_aload_n hx hb dX2_greatestYes_8 rfl (lv_at hl 1 rfl) ?_
        refine cr_getN (v := .ref (ad (25 + 6 * f + 1))) (host := "SharedForks") hx hb hts hin0 hown hK hW (25 + 6 * f) (by omega) (cE_d0 I Z F ad M f) rfl 1 (by decide) rfl hN (by decide +kernel) rfl dX2_greatestYes_9 ?_
        refine lv_iload_n hx hb dX2_greatestYes_12 rfl (lv_at hl 0 rfl) ?_
        refine cr_zald hx hb hK hW (25 + 6 * f + 1) (by omega) (cE_d1 I Z F ad M f) i (by omega) (by decide) rfl dX2_greatestYes_13 ?_
        refine lv_if_eq (tgt := 19) hx hb dX2_greatestYes_14 (by decide) (fun c2 => ?_) (fun c2 => ?_)
        · skip
          rw [if_pos c2] at hv
          refine lv_iinc (v := nI i - 1) (lv' := [(1, .int (nI i - 1)), (0, .ref (ad (25 + 6 * f)))]) hx hb dX2_greatestYes_19 hl (k := 0) rfl (nI_m1 i) (by decide) rfl (fun ls hl => ?_)
          refine lv_goto (tgt := 4) hx hb dX2_greatestYes_22 (by decide) ?_
          exact ih (by omega) hv ls (lv_sub hl [0, 1] rfl)
        · skip
          rw [if_neg c2] at hv
          refine lv_iload_n hx hb dX2_greatestYes_17 rfl (lv_at hl 0 rfl) ?_
          exact hret 18 ls _ _ _ _ dX2_greatestYes_18 ⟨rfl, hv.symm⟩ hW
  exact loop 256 (by decide) rfl ls (lv_sub hl [0, 1] rfl)

def caL (M : Nat → Nat → Int32) (b : Nat) (ans : Int32) : Nat → Int32 → Int32 → Int32
  | 0, _, c => c
  | q + 1, at0, c => if at0 < 0 then c else if M b 2 ≤ at0 then c else caL M b ans q (if isF ans (M (3 + 1) (M (b + 2) at0.toNatClampNeg).toNatClampNeg) = 0 then M (b + 3) at0.toNatClampNeg else M (b + 4) at0.toNatClampNeg) (c + 1)
def caF (M : Nat → Nat → Int32) (b : Nat) (ans : Int32) : Int32 := caL M b ans 8 (if M b 2 = 0 then -1 else 0) 0
abbrev rm_countAsked : Room := { frames := 1, cells := 0, slots := 0, locals := 100 }
set_option maxHeartbeats 4000000 in
set_option maxRecDepth 100000 in
/-- how many questions are asked to some answers -/
theorem c_countAsked (l : Launch) (D : va_G) (I Z F : ClassId) (ad : Nat → Nat) (hI : cI ad) (M : Nat → Nat → Int32) (sz : Nat) (f : Nat) (hf : f < 12) (n z : Nat) (hn6 : n ≤ 626) (hz7 : z ≤ 77) (hz : M (25 + 6 * f) 2 = nI z) (hrw : ∀ i : Nat, i < z → ∃ k : Nat, k < n ∧ M (25 + 6 * f + 2) i = nI k) (ans : Int32) : Met l yX2_countAsked wsX2_countAsked rm_countAsked (va_Pc [.ref (ad 0), .ref (ad (25 + 6 * f)), .int ans] (cU D I Z F ad sz M)) (va_Qi (fun (r : Int32) (u : Nat → Nat → Int32) => u = M ∧ r = caF M (25 + 6 * f) ans) (fun u t => cP D I Z F ad u t.heap) (cA ad sz)) 0 0 (cA ad sz) := by
  refine cMet_i (cc := cX2_countAsked) (maxL := 6) hI (by decide) rfl ⟨rfl, rfl⟩ RX2 rfl (Nat.le_of_ble_eq_true rfl) (lv := [(0, .ref (ad 0)), (1, .ref (ad (25 + 6 * f))), (2, .int ans)]) rfl ?_
  intro p e s m args below meth c Q A ls hsz C0 hW hl hret
  obtain ⟨hx, hb, hml, hts, hown, hlocks, hK, hN, hDa, hA, hargs⟩ := C0
  have hin2 : ∀ w ∈ u_ws RX2 TX2 6, w ∈ wsX2_countAsked := by decide +kernel
  have hin0 : ∀ w ∈ u_ws RX0 TX0 7, w ∈ wsX2_countAsked := by decide +kernel
  have hin1 : ∀ w ∈ u_ws RX1 TX1 10, w ∈ wsX2_countAsked := by decide +kernel
  have loop : ∀ q : Nat, q ≤ 8 → ∀ at0 : Int32, caF M (25 + 6 * f) ans = caL M (25 + 6 * f) ans q at0 (nI (8 - q)) → ∀ (ls : Array Slot) (H : Heap) (locs : List Loc), lv_has ls 6 [(4, .int at0), (3, .int (nI (8 - q))), (0, .ref (ad 0)), (1, .ref (ad (25 + 6 * f))), (2, .int ans)] → cB9 D I Z F ad A s.heap M H locs → W p l e rm_countAsked s m args below meth c H locs 0 0 Q (F0 m 16 ls []) := by
    intro q
    induction q with
    | zero =>
      intro hq at0 hv ls H locs hl hW
      refine lv_iload hx hb dX2_countAsked_16 (lv_at hl 0 rfl) ?_
      refine lv_if_lt (tgt := 87) hx hb dX2_countAsked_18 (by decide) (fun c1 => ?_) (fun c1 => ?_)
      · skip
        refine lv_iload_n hx hb dX2_countAsked_87 rfl (lv_at hl 1 rfl) ?_
        exact hret 88 ls H locs _ _ dX2_countAsked_88 ⟨rfl, by rw [hv]; rfl⟩ hW
      · skip
        refine lv_iload hx hb dX2_countAsked_21 (lv_at hl 0 rfl) ?_
        refine lv_aload_n hx hb dX2_countAsked_23 rfl (lv_at hl 3 rfl) ?_
        refine cr_getN (v := .int (M (25 + 6 * f) 2)) (host := "SharedForks") hx hb hts hin0 hown hK hW (25 + 6 * f) (by omega) (cE_d0 I Z F ad M f) rfl 2 (by decide) rfl hN (by decide +kernel) rfl dX2_countAsked_24 ?_
        refine lv_icmp_ge (tgt := 87) hx hb dX2_countAsked_27 (by decide) (fun c2 => ?_) (fun c2 => ?_)
        · skip
          refine lv_iload_n hx hb dX2_countAsked_87 rfl (lv_at hl 1 rfl) ?_
          exact hret 88 ls H locs _ _ dX2_countAsked_88 ⟨rfl, by rw [hv]; rfl⟩ hW
        · skip
          refine lv_iload_n hx hb dX2_countAsked_30 rfl (lv_at hl 1 rfl) ?_
          refine lv_bipush (v := 8) hx hb dX2_countAsked_31 (by decide) ?_
          refine lv_icmp_ge (tgt := 87) hx hb dX2_countAsked_33 (by decide) (fun c3 => ?_) (fun c3 => ?_)
          · skip
            refine lv_iload_n hx hb dX2_countAsked_87 rfl (lv_at hl 1 rfl) ?_
            exact hret 88 ls H locs _ _ dX2_countAsked_88 ⟨rfl, by rw [hv]; rfl⟩ hW
          · exact absurd (by decide) c3
    | succ q ih =>
      intro hq at0 hv ls H locs hl hW
      rw [caL] at hv
      refine lv_iload hx hb dX2_countAsked_16 (lv_at hl 0 rfl) ?_
      refine lv_if_lt (tgt := 87) hx hb dX2_countAsked_18 (by decide) (fun c1 => ?_) (fun c1 => ?_)
      · skip
        refine lv_iload_n hx hb dX2_countAsked_87 rfl (lv_at hl 1 rfl) ?_
        exact hret 88 ls H locs _ _ dX2_countAsked_88 ⟨rfl, by rw [hv, if_pos c1]⟩ hW
      · skip
        refine lv_iload hx hb dX2_countAsked_21 (lv_at hl 0 rfl) ?_
        refine lv_aload_n hx hb dX2_countAsked_23 rfl (lv_at hl 3 rfl) ?_
        refine cr_getN (v := .int (M (25 + 6 * f) 2)) (host := "SharedForks") hx hb hts hin0 hown hK hW (25 + 6 * f) (by omega) (cE_d0 I Z F ad M f) rfl 2 (by decide) rfl hN (by decide +kernel) rfl dX2_countAsked_24 ?_
        refine lv_icmp_ge (tgt := 87) hx hb dX2_countAsked_27 (by decide) (fun c2 => ?_) (fun c2 => ?_)
        · skip
          refine lv_iload_n hx hb dX2_countAsked_87 rfl (lv_at hl 1 rfl) ?_
          exact hret 88 ls H locs _ _ dX2_countAsked_88 ⟨rfl, by rw [hv, if_neg c1, if_pos c2]⟩ hW
        · skip
          refine lv_iload_n hx hb dX2_countAsked_30 rfl (lv_at hl 1 rfl) ?_
          refine lv_bipush (v := 8) hx hb dX2_countAsked_31 (by decide) ?_
          refine lv_icmp_ge (tgt := 87) hx hb dX2_countAsked_33 (by decide) (fun c3 => ?_) (fun c3 => ?_)
          · exact absurd c3 (nI_ge (b := 8) (by omega) (by decide))
          · skip
            rw [if_neg c1, if_neg c2] at hv
            have c2n := c2
            rw [hz] at c2n
            obtain ⟨i, hi, rfl⟩ := part_of (n := z) (by omega) c1 c2n
            obtain ⟨k, hk, ek⟩ := hrw i hi
            rw [nI_clamp (show i < 2 ^ 31 by omega), ek, nI_clamp (show k < 2 ^ 31 by omega), nI_1, show 8 - (q + 1) + 1 = 8 - q by omega] at hv
            refine lv_iload_n hx hb dX2_countAsked_36 rfl (lv_at hl 4 rfl) ?_
            refine lv_aload_n hx hb dX2_countAsked_37 rfl (lv_at hl 2 rfl) ?_
            refine cr_get (v := .ref (ad 3)) hx hb hts hin2 hown hK hW 0 (by decide) (cE_x I Z F ad M) rfl 2 (by decide) rfl (by decide +kernel) rfl dX2_countAsked_38 ?_
            refine cr_getN (v := .ref (ad (3 + 1))) (host := "SharedForks") hx hb hts hin1 hown hK hW 3 (by decide) (cE_f0 I Z F ad M (Or.inl rfl)) rfl 1 (by decide) rfl hN (by decide +kernel) rfl dX2_countAsked_41 ?_
            refine lv_aload_n hx hb dX2_countAsked_44 rfl (lv_at hl 3 rfl) ?_
            refine cr_getN (v := .ref (ad (25 + 6 * f + 2))) (host := "SharedForks") hx hb hts hin0 hown hK hW (25 + 6 * f) (by omega) (cE_d0 I Z F ad M f) rfl 3 (by decide) rfl hN (by decide +kernel) rfl dX2_countAsked_45 ?_
            refine lv_iload hx hb dX2_countAsked_48 (lv_at hl 0 rfl) ?_
            refine cr_iald hx hb hK hW (25 + 6 * f + 2) (by omega) (cE_d2 I Z F ad M f) i (by omega) (by decide) rfl dX2_countAsked_50 ?_
            refine cr_iald hx hb hK hW (3 + 1) (by decide) (cE_f1 I Z F ad M (Or.inl rfl)) k (by omega) (by decide) ek dX2_countAsked_51 ?_
            refine cr_calli (va_runS (As := [.int ans, .int (M (3 + 1) k)]) (rest := []) ⟨hx, hb, hml, hown, hts⟩ (c_isYes l D I Z F ad hI M H.size ans (M (3 + 1) k)) (va_cwS 2 hts gX2_countAsked_X2_isYes rfl rfl rfl (by decide +kernel) ⟨Nat.le_of_ble_eq_true rfl, Nat.le_of_ble_eq_true rfl⟩) (cr_preS hK hN hW) rfl rfl hl.1 rfl (lv_room (Nat.le_of_ble_eq_true rfl)) dX2_countAsked_52 ⟨Nat.le_refl _, Nat.le_refl _⟩) hA hDa hW (fun r u H locs hp hW => ?_)
            obtain ⟨hu, hv9⟩ := hp
            rw [hu] at hW
            rw [hv9]
            refine lv_istore (lv' := [(5, .int (isF ans (M (3 + 1) k))), (4, .int (nI i)), (3, .int (nI (8 - (q + 1)))), (0, .ref (ad 0)), (1, .ref (ad (25 + 6 * f))), (2, .int ans)]) hx hb dX2_countAsked_55 hl (by decide) rfl (fun ls hl => ?_)
            refine lv_iload hx hb dX2_countAsked_57 (lv_at hl 0 rfl) ?_
            refine lv_if_eq (tgt := 72) hx hb dX2_countAsked_59 (by decide) (fun c4 => ?_) (fun c4 => ?_)
            · skip
              rw [if_pos c4] at hv
              refine lv_aload_n hx hb dX2_countAsked_72 rfl (lv_at hl 4 rfl) ?_
              refine cr_getN (v := .ref (ad (25 + 6 * f + 3))) (host := "SharedForks") hx hb hts hin0 hown hK hW (25 + 6 * f) (by omega) (cE_d0 I Z F ad M f) rfl 4 (by decide) rfl hN (by decide +kernel) rfl dX2_countAsked_73 ?_
              refine lv_iload hx hb dX2_countAsked_76 (lv_at hl 1 rfl) ?_
              refine cr_iald hx hb hK hW (25 + 6 * f + 3) (by omega) (cE_d3 I Z F ad M f) i (by omega) (by decide) rfl dX2_countAsked_78 ?_
              refine lv_istore (lv' := [(4, .int (M (25 + 6 * f + 3) i)), (5, .int (isF ans (M (3 + 1) k))), (3, .int (nI (8 - (q + 1)))), (0, .ref (ad 0)), (1, .ref (ad (25 + 6 * f))), (2, .int ans)]) hx hb dX2_countAsked_79 hl (by decide) rfl (fun ls hl => ?_)
              refine lv_iinc (v := nI (8 - q)) (lv' := [(3, .int (nI (8 - q))), (4, .int (M (25 + 6 * f + 3) i)), (5, .int (isF ans (M (3 + 1) k))), (0, .ref (ad 0)), (1, .ref (ad (25 + 6 * f))), (2, .int ans)]) hx hb dX2_countAsked_81 hl (k := 2) rfl (by rw [show (Int32.ofInt 1) = 1 from rfl, nI_1]; congr 1; omega) (by decide) rfl (fun ls hl => ?_)
              refine lv_goto (tgt := 16) hx hb dX2_countAsked_84 (by decide) ?_
              exact ih (by omega) _ hv ls H locs (lv_sub hl [1, 0, 3, 4, 5] rfl) hW
            · skip
              rw [if_neg c4] at hv
              refine lv_aload_n hx hb dX2_countAsked_62 rfl (lv_at hl 4 rfl) ?_
              refine cr_getN (v := .ref (ad (25 + 6 * f + 4))) (host := "SharedForks") hx hb hts hin0 hown hK hW (25 + 6 * f) (by omega) (cE_d0 I Z F ad M f) rfl 5 (by decide) rfl hN (by decide +kernel) rfl dX2_countAsked_63 ?_
              refine lv_iload hx hb dX2_countAsked_66 (lv_at hl 1 rfl) ?_
              refine cr_iald hx hb hK hW (25 + 6 * f + 4) (by omega) (cE_d4 I Z F ad M f) i (by omega) (by decide) rfl dX2_countAsked_68 ?_
              refine lv_goto (tgt := 79) hx hb dX2_countAsked_69 (by decide) ?_
              refine lv_istore (lv' := [(4, .int (M (25 + 6 * f + 4) i)), (5, .int (isF ans (M (3 + 1) k))), (3, .int (nI (8 - (q + 1)))), (0, .ref (ad 0)), (1, .ref (ad (25 + 6 * f))), (2, .int ans)]) hx hb dX2_countAsked_79 hl (by decide) rfl (fun ls hl => ?_)
              refine lv_iinc (v := nI (8 - q)) (lv' := [(3, .int (nI (8 - q))), (4, .int (M (25 + 6 * f + 4) i)), (5, .int (isF ans (M (3 + 1) k))), (0, .ref (ad 0)), (1, .ref (ad (25 + 6 * f))), (2, .int ans)]) hx hb dX2_countAsked_81 hl (k := 2) rfl (by rw [show (Int32.ofInt 1) = 1 from rfl, nI_1]; congr 1; omega) (by decide) rfl (fun ls hl => ?_)
              refine lv_goto (tgt := 16) hx hb dX2_countAsked_84 (by decide) ?_
              exact ih (by omega) _ hv ls H locs (lv_sub hl [1, 0, 3, 4, 5] rfl) hW
  refine lv_iconst (v := 0) hx hb dX2_countAsked_0 (by decide) ?_
  refine lv_istore_n (lv' := [(3, .int 0), (0, .ref (ad 0)), (1, .ref (ad (25 + 6 * f))), (2, .int ans)]) hx hb dX2_countAsked_1 rfl hl (by decide) rfl (fun ls hl => ?_)
  refine lv_aload_n hx hb dX2_countAsked_2 rfl (lv_at hl 2 rfl) ?_
  refine cr_getN (v := .int (M (25 + 6 * f) 2)) (host := "SharedForks") hx hb hts hin0 hown hK hW (25 + 6 * f) (by omega) (cE_d0 I Z F ad M f) rfl 2 (by decide) rfl hN (by decide +kernel) rfl dX2_countAsked_3 ?_
  refine lv_if_ne (tgt := 13) hx hb dX2_countAsked_6 (by decide) (fun c0 => ?_) (fun c0 => ?_)
  · skip
    refine lv_iconst (v := 0) hx hb dX2_countAsked_13 (by decide) ?_
    refine lv_istore (lv' := [(4, .int 0), (3, .int 0), (0, .ref (ad 0)), (1, .ref (ad (25 + 6 * f))), (2, .int ans)]) hx hb dX2_countAsked_14 hl (by decide) rfl (fun ls hl => ?_)
    exact loop 8 (by decide) 0 (by rw [caF, if_neg c0]; rfl) ls _ _ (lv_sub hl [0, 1, 2, 3, 4] rfl) hW
  · skip
    refine lv_iconst (v := -1) hx hb dX2_countAsked_9 (by decide) ?_
    refine lv_goto (tgt := 14) hx hb dX2_countAsked_10 (by decide) ?_
    refine lv_istore (lv' := [(4, .int (-1)), (3, .int 0), (0, .ref (ad 0)), (1, .ref (ad (25 + 6 * f))), (2, .int ans)]) hx hb dX2_countAsked_14 hl (by decide) rfl (fun ls hl => ?_)
    exact loop 8 (by decide) (-1) (by rw [caF, if_pos c0]; rfl) ls _ _ (lv_sub hl [0, 1, 2, 3, 4] rfl) hW
end
section
/-- a row whose first k places are F's -/
def flG (F : Nat → Int32) (k : Nat) (r : Nat → Int32) : Nat → Int32 := fun j => if j < k then F j else r j
theorem flG_0 (F r : Nat → Int32) : flG F 0 r = r := by funext j; simp [flG]
theorem flG_s {F : Nat → Int32} {k : Nat} {r : Nat → Int32} {v : Int32} (h : F k = v) : upd (flG F k r) k v = flG F (k + 1) r := by
  funext j
  by_cases h2 : j = k
  · subst h2; rw [pk_us, flG, if_pos (Nat.lt_succ_self _), h]
  · rw [pk_un h2]; simp only [flG]; by_cases h3 : j < k
    · rw [if_pos h3, if_pos (show j < k + 1 by omega)]
    · rw [if_neg h3, if_neg (show ¬ j < k + 1 by omega)]
/-- a cell being filled -/
def flC (M : Nat → Nat → Int32) (i : Nat) (F : Nat → Int32) (k : Nat) : Nat → Nat → Int32 := mrow M i (flG F k (M i))
theorem flC_0 (M : Nat → Nat → Int32) (i : Nat) (F : Nat → Int32) : flC M i F 0 = M := by rw [flC, flG_0, mrow_id]
theorem flC_s (M : Nat → Nat → Int32) (i : Nat) (F : Nat → Int32) (k : Nat) {v : Int32} (h : F k = v) : mst (flC M i F k) i k v = flC M i F (k + 1) := by rw [flC, mst_mrow, flG_s h]; rfl
theorem flC_row {M : Nat → Nat → Int32} {i a : Nat} {F : Nat → Int32} {k : Nat} (h : a ≠ i) : flC M i F k a = M a := mrow_ne h
def mnL (F : Nat → Int32) : Nat → Int32
  | 0 => 8
  | k + 1 => if F k < mnL F k then F k else mnL F k
def mxL (F : Nat → Int32) : Nat → Int32
  | 0 => 0
  | k + 1 => if mxL F k < F k then F k else mxL F k
def caT (M : Nat → Nat → Int32) (b : Nat) : Nat → Int32 := fun k => caF M b (nI k)
/-- what the places of a fold's row say -/
def tfF (M : Nat → Nat → Int32) (b i : Nat) (wh : Nat) : Int32 := match wh with
  | 0 => M (3 + 1) (M (b + 2) i).toNatClampNeg
  | 1 => M (b + 3) i
  | 2 => M (b + 4) i
  | 3 => M (b + 5) i
  | _ => M (3 + 4) (M (b + 2) i).toNatClampNeg
def tdF (M : Nat → Nat → Int32) (b z : Nat) (wh : Nat) : Int32 := match wh with
  | 0 => nI z
  | 1 => sI (cyT M b) 256
  | 2 => qmL M b z
  | 3 => mnL (caT M b) 256
  | 4 => mxL (caT M b) 256
  | 5 => syL M b 256 0
  | 6 => gyL M b 256
  | _ => sI (coT M b) z
def tcF (M : Nat → Nat → Int32) (n : Nat) (wh : Nat) : Int32 := match wh with
  | 0 => sI (ckT M) 12
  | 1 => nI n
  | 2 => sI (afT M) 12
  | 3 => sI (cfT M) n
  | _ => sI (clT M) 12
/-- an exchange that is tried -/
def cs3 (M : Nat → Nat → Int32) (p0 : Nat) : Nat → Nat → Int32 := soF (exF (mrow M 14 (va_cpy (M 2) (M 14) 0 0 8)) 14 p0) 15 14
def csL (M : Nat → Nat → Int32) (p0 : Nat) : Nat → Nat → Nat → Int32
  | 0 => cs3 M p0
  | f + 1 => if csL M p0 f (25 + 6 * f) 0 = 0 then csL M p0 f else lyF (csL M p0 f) 15 (25 + 6 * f + 1)
def csF (M : Nat → Nat → Int32) (p0 : Nat) : Nat → Nat → Int32 := csL M p0 12
def laOk2 (M : Nat → Nat → Int32) (g : Nat) : Prop := (∃ n : Nat, fk2 M g n) ∧ ∀ w : Nat, w < 256 → ∃ a : Nat, a < 256 ∧ M (g + 7) w = nI a
theorem soF_laOk2 (M : Nat → Nat → Int32) (g qi : Nat) : laOk2 (soF M g qi) g := ⟨⟨0, soF_fk2 M g qi⟩, soF_7 M g qi⟩
theorem lyF_laOk2 {M : Nat → Nat → Int32} {g yi : Nat} (h : laOk2 M g) : laOk2 (lyF M g yi) g := by
  obtain ⟨⟨n, h1⟩, h2⟩ := h
  obtain ⟨n', -, h3, -⟩ := lyF_fk2 (yi := yi) h1
  exact ⟨⟨n', h3⟩, fun w hw => by rw [lyF_row (by omega) (by omega)]; exact h2 w hw⟩
theorem csL_ok (M : Nat → Nat → Int32) (p0 : Nat) : ∀ f : Nat, laOk2 (csL M p0 f) 15 := by
  intro f
  induction f with
  | zero => exact soF_laOk2 _ 15 14
  | succ f ih => rw [csL]; split; exact ih; exact lyF_laOk2 ih
theorem csL_row {M : Nat → Nat → Int32} {p0 i : Nat} (h : i < 14 ∨ 24 < i) : ∀ f : Nat, csL M p0 f i = M i := by
  intro f
  induction f with
  | zero => rw [csL, cs3, soF_row (by omega) (by omega) (by omega) (by omega), exF, mst_ne (by omega), mst_ne (by omega), mrow_ne (by omega)]
  | succ f ih => rw [csL]; split; exact ih; rw [lyF_row (by omega) (by omega)]; exact ih
def adL (M : Nat → Nat → Int32) : Nat → (Nat → Nat → Int32) × Int32 × Int32
  | 0 => (M, M 3 0, -1)
  | p0 + 1 => if csF (adL M p0).1 p0 15 0 < (adL M p0).2.1 then (csF (adL M p0).1 p0, csF (adL M p0).1 p0 15 0, nI p0) else (csF (adL M p0).1 p0, (adL M p0).2.1, (adL M p0).2.2)
end
section
abbrev rm_leastAsked : Room := { frames := 2, cells := 0, slots := 0, locals := 200 }
set_option maxHeartbeats 4000000 in
set_option maxRecDepth 100000 in
theorem c_leastAsked (l : Launch) (D : va_G) (I Z F : ClassId) (ad : Nat → Nat) (hI : cI ad) (M : Nat → Nat → Int32) (sz : Nat) (f : Nat) (hf : f < 12) (n z : Nat) (hn6 : n ≤ 626) (hz7 : z ≤ 77) (hz : M (25 + 6 * f) 2 = nI z) (hrw : ∀ i : Nat, i < z → ∃ k : Nat, k < n ∧ M (25 + 6 * f + 2) i = nI k) : Met l yX2_leastAsked wsX2_leastAsked rm_leastAsked (va_Pc [.ref (ad 0), .ref (ad (25 + 6 * f))] (cU D I Z F ad sz M)) (va_Qi (fun (r : Int32) (u : Nat → Nat → Int32) => u = M ∧ r = mnL (caT M (25 + 6 * f)) 256) (fun u t => cP D I Z F ad u t.heap) (cA ad sz)) 0 0 (cA ad sz) := by
  refine cMet_i (cc := cX2_leastAsked) (maxL := 4) hI (by decide) rfl ⟨rfl, rfl⟩ RX2 rfl (Nat.le_of_ble_eq_true rfl) (lv := [(0, .ref (ad 0)), (1, .ref (ad (25 + 6 * f)))]) rfl ?_
  intro p e s m args below meth c Q A ls hsz C0 hW hl hret
  obtain ⟨hx, hb, hml, hts, hown, hlocks, hK, hN, hDa, hA, hargs⟩ := C0
  have hin2 : ∀ w ∈ u_ws RX2 TX2 6, w ∈ wsX2_leastAsked := by decide +kernel
  have hin0 : ∀ w ∈ u_ws RX0 TX0 7, w ∈ wsX2_leastAsked := by decide +kernel
  have hin1 : ∀ w ∈ u_ws RX1 TX1 10, w ∈ wsX2_leastAsked := by decide +kernel
  refine lv_bipush (v := 8) hx hb dX2_leastAsked_0 (by decide) ?_
  refine lv_istore_n (lv' := [(2, .int 8), (0, .ref (ad 0)), (1, .ref (ad (25 + 6 * f)))]) hx hb dX2_leastAsked_2 rfl hl (by decide) rfl (fun ls hl => ?_)
  refine lv_iconst (v := 0) hx hb dX2_leastAsked_3 (by decide) ?_
  refine lv_istore_n (lv' := [(3, .int 0), (2, .int 8), (0, .ref (ad 0)), (1, .ref (ad (25 + 6 * f)))]) hx hb dX2_leastAsked_4 rfl hl (by decide) rfl (fun ls hl => ?_)
  have loop : ∀ q i : Nat, i + q = 256 → ∀ (ls : Array Slot) (H : Heap) (locs : List Loc), lv_has ls 4 [(3, .int (nI i)), (2, .int (mnL (caT M (25 + 6 * f)) i)), (0, .ref (ad 0)), (1, .ref (ad (25 + 6 * f)))] → cB9 D I Z F ad A s.heap M H locs → W p l e rm_leastAsked s m args below meth c H locs 0 0 Q (F0 m 5 ls []) := by
    intro q
    induction q with
    | zero =>
      intro i hi ls H locs hl hW
      obtain rfl : i = 256 := by omega
      refine lv_iload_n hx hb dX2_leastAsked_5 rfl (lv_at hl 0 rfl) ?_
      refine lv_sipush (v := 256) hx hb dX2_leastAsked_6 (by decide) ?_
      refine lv_icmp_ge (tgt := 29) hx hb dX2_leastAsked_9 (by decide) (fun c1 => ?_) (fun c1 => ?_)
      · skip
        refine lv_iload_n hx hb dX2_leastAsked_29 rfl (lv_at hl 1 rfl) ?_
        exact hret 30 ls H locs _ _ dX2_leastAsked_30 ⟨rfl, rfl⟩ hW
      · exact absurd (nI_le (Nat.le_refl 256) (by decide)) c1
    | succ q ih =>
      intro i hi ls H locs hl hW
      refine lv_iload_n hx hb dX2_leastAsked_5 rfl (lv_at hl 0 rfl) ?_
      refine lv_sipush (v := 256) hx hb dX2_leastAsked_6 (by decide) ?_
      refine lv_icmp_ge (tgt := 29) hx hb dX2_leastAsked_9 (by decide) (fun c1 => ?_) (fun c1 => ?_)
      · exact absurd c1 (nI_ge (b := 256) (by omega) (by decide))
      · skip
        refine lv_iload_n hx hb dX2_leastAsked_12 rfl (lv_at hl 1 rfl) ?_
        refine lv_aload_n hx hb dX2_leastAsked_13 rfl (lv_at hl 2 rfl) ?_
        refine lv_aload_n hx hb dX2_leastAsked_14 rfl (lv_at hl 3 rfl) ?_
        refine lv_iload_n hx hb dX2_leastAsked_15 rfl (lv_at hl 0 rfl) ?_
        refine cr_calli (va_runV (As := [.ref (ad (25 + 6 * f)), .int (nI i)]) (rest := [.int (mnL (caT M (25 + 6 * f)) i)]) ⟨hx, hb, hml, hown, hts⟩ (c_countAsked l D I Z F ad hI M H.size f hf n z hn6 hz7 hz hrw (nI i)) (cwV 2 hts gX2_leastAsked_X2_countAsked rfl rfl rfl (by decide +kernel) ⟨Nat.le_of_ble_eq_true rfl, Nat.le_of_ble_eq_true rfl⟩) (cr_preV hK hN hW 0 (by decide) (cE_x I Z F ad M) rfl) rfl rfl hl.1 rfl (lv_room (Nat.le_of_ble_eq_true rfl)) dX2_leastAsked_16 ⟨Nat.le_refl _, Nat.le_refl _⟩) hA hDa hW (fun r u H locs hp hW => ?_)
        obtain ⟨hu, hv9⟩ := hp
        rw [hu] at hW
        rw [hv9, show caF M (25 + 6 * f) (nI i) = caT M (25 + 6 * f) i from rfl]
        refine va_mmin hx hb (hml.trans hl.1.symm) hown (hts (.methodLink RX2 204 Lib.Math.min.name) (by decide +kernel)) (hts (.static Lib.Math.min.name) (by decide +kernel)) (hts (.initialized "java/lang/Math") (by decide +kernel)) (hts (.code Lib.Math.min.name Lib.Math.min.code 2 (some .int)) (by decide +kernel)) (by decide) (by decide) (by decide) (by decide) dX2_leastAsked_19 ?_
        rw [show (if caT M (25 + 6 * f) i < mnL (caT M (25 + 6 * f)) i then caT M (25 + 6 * f) i else mnL (caT M (25 + 6 * f)) i) = mnL (caT M (25 + 6 * f)) (i + 1) from rfl]
        refine lv_istore_n (lv' := [(2, .int (mnL (caT M (25 + 6 * f)) (i + 1))), (3, .int (nI i)), (0, .ref (ad 0)), (1, .ref (ad (25 + 6 * f)))]) hx hb dX2_leastAsked_22 rfl hl (by decide) rfl (fun ls hl => ?_)
        refine lv_iinc (v := nI (i + 1)) (lv' := [(3, .int (nI (i + 1))), (2, .int (mnL (caT M (25 + 6 * f)) (i + 1))), (0, .ref (ad 0)), (1, .ref (ad (25 + 6 * f)))]) hx hb dX2_leastAsked_23 hl (k := 1) rfl (nI_1 i) (by decide) rfl (fun ls hl => ?_)
        refine lv_goto (tgt := 5) hx hb dX2_leastAsked_26 (by decide) ?_
        exact ih (i + 1) (by omega) ls H locs (lv_sub hl [0, 1, 2, 3] rfl) hW
  exact loop 256 0 (by decide) ls _ _ (lv_sub hl [0, 1, 2, 3] rfl) hW

abbrev rm_mostAsked : Room := { frames := 2, cells := 0, slots := 0, locals := 200 }
set_option maxHeartbeats 4000000 in
set_option maxRecDepth 100000 in
theorem c_mostAsked (l : Launch) (D : va_G) (I Z F : ClassId) (ad : Nat → Nat) (hI : cI ad) (M : Nat → Nat → Int32) (sz : Nat) (f : Nat) (hf : f < 12) (n z : Nat) (hn6 : n ≤ 626) (hz7 : z ≤ 77) (hz : M (25 + 6 * f) 2 = nI z) (hrw : ∀ i : Nat, i < z → ∃ k : Nat, k < n ∧ M (25 + 6 * f + 2) i = nI k) : Met l yX2_mostAsked wsX2_mostAsked rm_mostAsked (va_Pc [.ref (ad 0), .ref (ad (25 + 6 * f))] (cU D I Z F ad sz M)) (va_Qi (fun (r : Int32) (u : Nat → Nat → Int32) => u = M ∧ r = mxL (caT M (25 + 6 * f)) 256) (fun u t => cP D I Z F ad u t.heap) (cA ad sz)) 0 0 (cA ad sz) := by
  refine cMet_i (cc := cX2_mostAsked) (maxL := 4) hI (by decide) rfl ⟨rfl, rfl⟩ RX2 rfl (Nat.le_of_ble_eq_true rfl) (lv := [(0, .ref (ad 0)), (1, .ref (ad (25 + 6 * f)))]) rfl ?_
  intro p e s m args below meth c Q A ls hsz C0 hW hl hret
  obtain ⟨hx, hb, hml, hts, hown, hlocks, hK, hN, hDa, hA, hargs⟩ := C0
  have hin2 : ∀ w ∈ u_ws RX2 TX2 6, w ∈ wsX2_mostAsked := by decide +kernel
  have hin0 : ∀ w ∈ u_ws RX0 TX0 7, w ∈ wsX2_mostAsked := by decide +kernel
  have hin1 : ∀ w ∈ u_ws RX1 TX1 10, w ∈ wsX2_mostAsked := by decide +kernel
  refine lv_iconst (v := 0) hx hb dX2_mostAsked_0 (by decide) ?_
  refine lv_istore_n (lv' := [(2, .int 0), (0, .ref (ad 0)), (1, .ref (ad (25 + 6 * f)))]) hx hb dX2_mostAsked_1 rfl hl (by decide) rfl (fun ls hl => ?_)
  refine lv_iconst (v := 0) hx hb dX2_mostAsked_2 (by decide) ?_
  refine lv_istore_n (lv' := [(3, .int 0), (2, .int 0), (0, .ref (ad 0)), (1, .ref (ad (25 + 6 * f)))]) hx hb dX2_mostAsked_3 rfl hl (by decide) rfl (fun ls hl => ?_)
  have loop : ∀ q i : Nat, i + q = 256 → ∀ (ls : Array Slot) (H : Heap) (locs : List Loc), lv_has ls 4 [(3, .int (nI i)), (2, .int (mxL (caT M (25 + 6 * f)) i)), (0, .ref (ad 0)), (1, .ref (ad (25 + 6 * f)))] → cB9 D I Z F ad A s.heap M H locs → W p l e rm_mostAsked s m args below meth c H locs 0 0 Q (F0 m 4 ls []) := by
    intro q
    induction q with
    | zero =>
      intro i hi ls H locs hl hW
      obtain rfl : i = 256 := by omega
      refine lv_iload_n hx hb dX2_mostAsked_4 rfl (lv_at hl 0 rfl) ?_
      refine lv_sipush (v := 256) hx hb dX2_mostAsked_5 (by decide) ?_
      refine lv_icmp_ge (tgt := 28) hx hb dX2_mostAsked_8 (by decide) (fun c1 => ?_) (fun c1 => ?_)
      · skip
        refine lv_iload_n hx hb dX2_mostAsked_28 rfl (lv_at hl 1 rfl) ?_
        exact hret 29 ls H locs _ _ dX2_mostAsked_29 ⟨rfl, rfl⟩ hW
      · exact absurd (nI_le (Nat.le_refl 256) (by decide)) c1
    | succ q ih =>
      intro i hi ls H locs hl hW
      refine lv_iload_n hx hb dX2_mostAsked_4 rfl (lv_at hl 0 rfl) ?_
      refine lv_sipush (v := 256) hx hb dX2_mostAsked_5 (by decide) ?_
      refine lv_icmp_ge (tgt := 28) hx hb dX2_mostAsked_8 (by decide) (fun c1 => ?_) (fun c1 => ?_)
      · exact absurd c1 (nI_ge (b := 256) (by omega) (by decide))
      · skip
        refine lv_iload_n hx hb dX2_mostAsked_11 rfl (lv_at hl 1 rfl) ?_
        refine lv_aload_n hx hb dX2_mostAsked_12 rfl (lv_at hl 2 rfl) ?_
        refine lv_aload_n hx hb dX2_mostAsked_13 rfl (lv_at hl 3 rfl) ?_
        refine lv_iload_n hx hb dX2_mostAsked_14 rfl (lv_at hl 0 rfl) ?_
        refine cr_calli (va_runV (As := [.ref (ad (25 + 6 * f)), .int (nI i)]) (rest := [.int (mxL (caT M (25 + 6 * f)) i)]) ⟨hx, hb, hml, hown, hts⟩ (c_countAsked l D I Z F ad hI M H.size f hf n z hn6 hz7 hz hrw (nI i)) (cwV 2 hts gX2_mostAsked_X2_countAsked rfl rfl rfl (by decide +kernel) ⟨Nat.le_of_ble_eq_true rfl, Nat.le_of_ble_eq_true rfl⟩) (cr_preV hK hN hW 0 (by decide) (cE_x I Z F ad M) rfl) rfl rfl hl.1 rfl (lv_room (Nat.le_of_ble_eq_true rfl)) dX2_mostAsked_15 ⟨Nat.le_refl _, Nat.le_refl _⟩) hA hDa hW (fun r u H locs hp hW => ?_)
        obtain ⟨hu, hv9⟩ := hp
        rw [hu] at hW
        rw [hv9, show caF M (25 + 6 * f) (nI i) = caT M (25 + 6 * f) i from rfl]
        refine va_mmax hx hb (hml.trans hl.1.symm) hown (hts (.methodLink RX2 210 Lib.Math.max.name) (by decide +kernel)) (hts (.static Lib.Math.max.name) (by decide +kernel)) (hts (.initialized "java/lang/Math") (by decide +kernel)) (hts (.code Lib.Math.max.name Lib.Math.max.code 2 (some .int)) (by decide +kernel)) (by decide) (by decide) (by decide) (by decide) dX2_mostAsked_18 ?_
        rw [show (if mxL (caT M (25 + 6 * f)) i < caT M (25 + 6 * f) i then caT M (25 + 6 * f) i else mxL (caT M (25 + 6 * f)) i) = mxL (caT M (25 + 6 * f)) (i + 1) from rfl]
        refine lv_istore_n (lv' := [(2, .int (mxL (caT M (25 + 6 * f)) (i + 1))), (3, .int (nI i)), (0, .ref (ad 0)), (1, .ref (ad (25 + 6 * f)))]) hx hb dX2_mostAsked_21 rfl hl (by decide) rfl (fun ls hl => ?_)
        refine lv_iinc (v := nI (i + 1)) (lv' := [(3, .int (nI (i + 1))), (2, .int (mxL (caT M (25 + 6 * f)) (i + 1))), (0, .ref (ad 0)), (1, .ref (ad (25 + 6 * f)))]) hx hb dX2_mostAsked_22 hl (k := 1) rfl (nI_1 i) (by decide) rfl (fun ls hl => ?_)
        refine lv_goto (tgt := 4) hx hb dX2_mostAsked_25 (by decide) ?_
        exact ih (i + 1) (by omega) ls H locs (lv_sub hl [0, 1, 2, 3] rfl) hW
  exact loop 256 0 (by decide) ls _ _ (lv_sub hl [0, 1, 2, 3] rfl) hW

def sjT (M : Nat → Nat → Int32) (f1 f2 wh : Nat) : Nat → Int32 := fun j => jnF (M (25 + 6 * f1 + 1) j) (M (25 + 6 * f2 + 1) j) wh
def sjF (M : Nat → Nat → Int32) (f1 f2 wh yi : Nat) : Nat → Nat → Int32 := flC M yi (sjT M f1 f2 wh) 256
theorem jnF_01 (a b : Int32) (wh : Nat) : jnF a b wh = 0 ∨ jnF a b wh = 1 := by
  unfold jnF; split <;> exact b2_01 _
abbrev rm_sayJoined : Room := { frames := 1, cells := 0, slots := 0, locals := 100 }
set_option maxHeartbeats 4000000 in
set_option maxRecDepth 100000 in
/-- two folds joined, into the cell yi -/
theorem c_sayJoined (l : Launch) (D : va_G) (I Z F : ClassId) (ad : Nat → Nat) (hI : cI ad) (M : Nat → Nat → Int32) (sz : Nat) (f1 f2 : Nat) (hf1 : f1 < 12) (hf2 : f2 < 12) (wh : Nat) (hwh : wh < 6) (yi : Nat) (hyi : yi < 97) (hye : cE I Z F ad M yi = .inl (Z, 256, .inl (M yi))) (hn1 : yi ≠ 25 + 6 * f1 + 1) (hn2 : yi ≠ 25 + 6 * f2 + 1) : Met l yX2_sayJoined wsX2_sayJoined rm_sayJoined (va_Pc [.ref (ad (25 + 6 * f1)), .ref (ad (25 + 6 * f2)), .int (nI wh), .ref (ad yi)] (cU D I Z F ad sz M)) (va_Qv (fun (u : Nat → Nat → Int32) => u = sjF M f1 f2 wh yi) (fun u t => cP D I Z F ad u t.heap) (cA ad sz)) 0 0 (cA ad sz) := by
  refine cMet_v (cc := cX2_sayJoined) (maxL := 5) hI (by decide) rfl ⟨rfl, rfl⟩ RX2 rfl (Nat.le_of_ble_eq_true rfl) (lv := [(0, .ref (ad (25 + 6 * f1))), (1, .ref (ad (25 + 6 * f2))), (2, .int (nI wh)), (3, .ref (ad yi))]) rfl ?_
  intro p e s m args below meth c Q A ls hsz C0 hW hl hret
  obtain ⟨hx, hb, hml, hts, hown, hlocks, hK, hN, hDa, hA, hargs⟩ := C0
  have hin0 : ∀ w ∈ u_ws RX0 TX0 7, w ∈ wsX2_sayJoined := by decide +kernel
  refine lv_iconst (v := 0) hx hb dX2_sayJoined_0 (by decide) ?_
  refine lv_istore (lv' := [(4, .int 0), (0, .ref (ad (25 + 6 * f1))), (1, .ref (ad (25 + 6 * f2))), (2, .int (nI wh)), (3, .ref (ad yi))]) hx hb dX2_sayJoined_1 hl (by decide) rfl (fun ls hl => ?_)
  have loop : ∀ q i : Nat, i + q = 256 → ∀ (ls : Array Slot) (H : Heap) (locs : List Loc), lv_has ls 5 [(4, .int (nI i)), (0, .ref (ad (25 + 6 * f1))), (1, .ref (ad (25 + 6 * f2))), (2, .int (nI wh)), (3, .ref (ad yi))] → cB9 D I Z F ad A s.heap (flC M yi (sjT M f1 f2 wh) i) H locs → W p l e rm_sayJoined s m args below meth c H locs 0 0 Q (F0 m 3 ls []) := by
    intro q
    induction q with
    | zero =>
      intro i hi ls H locs hl hW
      obtain rfl : i = 256 := by omega
      refine lv_iload hx hb dX2_sayJoined_3 (lv_at hl 0 rfl) ?_
      refine lv_sipush (v := 256) hx hb dX2_sayJoined_5 (by decide) ?_
      refine lv_icmp_ge (tgt := 39) hx hb dX2_sayJoined_8 (by decide) (fun c1 => ?_) (fun c1 => ?_)
      · skip
        exact hret 39 ls H locs _ dX2_sayJoined_39 rfl hW
      · exact absurd (nI_le (Nat.le_refl 256) (by decide)) c1
    | succ q ih =>
      intro i hi ls H locs hl hW
      refine lv_iload hx hb dX2_sayJoined_3 (lv_at hl 0 rfl) ?_
      refine lv_sipush (v := 256) hx hb dX2_sayJoined_5 (by decide) ?_
      refine lv_icmp_ge (tgt := 39) hx hb dX2_sayJoined_8 (by decide) (fun c1 => ?_) (fun c1 => ?_)
      · exact absurd c1 (nI_ge (b := 256) (by omega) (by decide))
      · skip
        have e1 : flC M yi (sjT M f1 f2 wh) i (25 + 6 * f1 + 1) = M (25 + 6 * f1 + 1) := flC_row (Ne.symm hn1)
        have e2 : flC M yi (sjT M f1 f2 wh) i (25 + 6 * f2 + 1) = M (25 + 6 * f2 + 1) := flC_row (Ne.symm hn2)
        refine lv_aload_n hx hb dX2_sayJoined_11 rfl (lv_at hl 4 rfl) ?_
        refine lv_iload hx hb dX2_sayJoined_12 (lv_at hl 0 rfl) ?_
        refine lv_aload_n hx hb dX2_sayJoined_14 rfl (lv_at hl 1 rfl) ?_
        refine cr_getN (v := .ref (ad (25 + 6 * f1 + 1))) (host := "SharedForks") hx hb hts hin0 hown hK hW (25 + 6 * f1) (by omega) (cE_d0 I Z F ad (flC M yi (sjT M f1 f2 wh) i) f1) rfl 1 (by decide) rfl hN (by decide +kernel) rfl dX2_sayJoined_15 ?_
        refine lv_iload hx hb dX2_sayJoined_18 (lv_at hl 0 rfl) ?_
        refine cr_zald hx hb hK hW (25 + 6 * f1 + 1) (by omega) (cE_d1 I Z F ad (flC M yi (sjT M f1 f2 wh) i) f1) i (by omega) (by decide) rfl dX2_sayJoined_20 ?_
        rw [e1]
        refine lv_aload_n hx hb dX2_sayJoined_21 rfl (lv_at hl 2 rfl) ?_
        refine cr_getN (v := .ref (ad (25 + 6 * f2 + 1))) (host := "SharedForks") hx hb hts hin0 hown hK hW (25 + 6 * f2) (by omega) (cE_d0 I Z F ad (flC M yi (sjT M f1 f2 wh) i) f2) rfl 1 (by decide) rfl hN (by decide +kernel) rfl dX2_sayJoined_22 ?_
        refine lv_iload hx hb dX2_sayJoined_25 (lv_at hl 0 rfl) ?_
        refine cr_zald hx hb hK hW (25 + 6 * f2 + 1) (by omega) (cE_d1 I Z F ad (flC M yi (sjT M f1 f2 wh) i) f2) i (by omega) (by decide) rfl dX2_sayJoined_27 ?_
        rw [e2]
        refine lv_iload_n hx hb dX2_sayJoined_28 rfl (lv_at hl 3 rfl) ?_
        refine cr_calli (va_runS (As := [.int (M (25 + 6 * f1 + 1) i), .int (M (25 + 6 * f2 + 1) i), .int (nI wh)]) (rest := [.int (nI i), .ref (ad yi)]) ⟨hx, hb, hml, hown, hts⟩ (c_joined l D I Z F ad hI (flC M yi (sjT M f1 f2 wh) i) H.size (M (25 + 6 * f1 + 1) i) (M (25 + 6 * f2 + 1) i) wh hwh) (va_cwS 3 hts gX2_sayJoined_X2_joined rfl rfl rfl (by decide +kernel) ⟨Nat.le_of_ble_eq_true rfl, Nat.le_of_ble_eq_true rfl⟩) (cr_preS hK hN hW) rfl rfl hl.1 rfl (lv_room (Nat.le_of_ble_eq_true rfl)) dX2_sayJoined_29 ⟨Nat.le_refl _, Nat.le_refl _⟩) hA hDa hW (fun r u H locs hp hW => ?_)
        obtain ⟨hu, hv9⟩ := hp
        rw [hu] at hW
        rw [hv9]
        refine cr_zast hx hb hK hDa hW yi hyi (cE_arr hye _) i (by omega) (by decide) rfl (jnF_01 _ _ _) dX2_sayJoined_32 (fun H locs hW => ?_)
        rw [flC_s M yi (sjT M f1 f2 wh) i (v := jnF (M (25 + 6 * f1 + 1) i) (M (25 + 6 * f2 + 1) i) wh) rfl] at hW
        refine lv_iinc (v := nI (i + 1)) (lv' := [(4, .int (nI (i + 1))), (0, .ref (ad (25 + 6 * f1))), (1, .ref (ad (25 + 6 * f2))), (2, .int (nI wh)), (3, .ref (ad yi))]) hx hb dX2_sayJoined_33 hl (k := 0) rfl (nI_1 i) (by decide) rfl (fun ls hl => ?_)
        refine lv_goto (tgt := 3) hx hb dX2_sayJoined_36 (by decide) ?_
        exact ih (i + 1) (by omega) ls H locs (lv_sub hl [0, 1, 2, 3, 4] rfl) hW
  exact loop 256 0 (by decide) ls _ _ (lv_sub hl [0, 1, 2, 3, 4] rfl) (by rw [flC_0]; exact hW)

abbrev rm_keep : Room := { frames := 13, cells := 0, slots := 0, locals := 700 }
set_option maxHeartbeats 4000000 in
set_option maxRecDepth 100000 in
/-- a new fold is kept -/
theorem c_keep (l : Launch) (D : va_G) (I Z F : ClassId) (ad : Nat → Nat) (hI : cI ad) (M : Nat → Nat → Int32) (sz : Nat) (f : Nat) (hf : f < 12) : Met l yX2_keep wsX2_keep rm_keep (va_Pc [.ref (ad 0), .int (nI f)] (cU D I Z F ad sz M)) (va_Qi (fun (r : Int32) (u : Nat → Nat → Int32) => u = laF (mst M (25 + 6 * f) 0 1) ∧ r = nI f) (fun u t => cP D I Z F ad u t.heap) (cA ad sz)) 0 0 (cA ad sz) := by
  refine cMet_i (cc := cX2_keep) (maxL := 2) hI (by decide) rfl ⟨rfl, rfl⟩ RX2 rfl (Nat.le_of_ble_eq_true rfl) (lv := [(0, .ref (ad 0)), (1, .int (nI f))]) rfl ?_
  intro p e s m args below meth c Q A ls hsz C0 hW hl hret
  obtain ⟨hx, hb, hml, hts, hown, hlocks, hK, hN, hDa, hA, hargs⟩ := C0
  have hin2 : ∀ w ∈ u_ws RX2 TX2 6, w ∈ wsX2_keep := by decide +kernel
  have hin0 : ∀ w ∈ u_ws RX0 TX0 7, w ∈ wsX2_keep := by decide +kernel
  have hin1 : ∀ w ∈ u_ws RX1 TX1 10, w ∈ wsX2_keep := by decide +kernel
  refine lv_aload_n hx hb dX2_keep_0 rfl (lv_at hl 0 rfl) ?_
  refine cr_get (v := .ref (ad 1)) hx hb hts hin2 hown hK hW 0 (by decide) (cE_x I Z F ad M) rfl 0 (by decide) rfl (by decide +kernel) rfl dX2_keep_1 ?_
  refine lv_iload_n hx hb dX2_keep_4 rfl (lv_at hl 1 rfl) ?_
  refine cr_fald hx hb hK hW f hf rfl dX2_keep_5 ?_
  refine lv_iconst (v := 1) hx hb dX2_keep_6 (by decide) ?_
  refine cr_putN (host := "SharedForks") hx hb hts hin0 tyX0 tyX0_ok nmX0 hown hK hDa hW (25 + 6 * f) (by omega) (cE_d0 I Z F ad M f) rfl 0 (by decide) rfl hN (by decide +kernel) (ty := .boolean) (by decide +kernel) (vp_narZn (Or.inr rfl)) (vp_narZf (Or.inr rfl)) (Nat.le_of_ble_eq_true rfl) (cS_d0p0 f _ _) dX2_keep_7 (fun H locs hW => ?_)
  refine lv_aload_n hx hb dX2_keep_10 rfl (lv_at hl 0 rfl) ?_
  refine cr_callv (va_runV (As := []) (rest := []) ⟨hx, hb, hml, hown, hts⟩ (c_layAll l D I Z F ad hI (mst M (25 + 6 * f) 0 1) H.size) (cwV 0 hts gX2_keep_X2_layAll rfl rfl rfl (by decide +kernel) ⟨Nat.le_of_ble_eq_true rfl, Nat.le_of_ble_eq_true rfl⟩) (cr_preV hK hN hW 0 (by decide) (cE_x I Z F ad (mst M (25 + 6 * f) 0 1)) rfl) rfl rfl hl.1 rfl (lv_room (Nat.le_of_ble_eq_true rfl)) dX2_keep_11 ⟨Nat.le_refl _, Nat.le_refl _⟩) hA hDa hW (fun u H locs hp hW => ?_)
  rw [hp] at hW
  refine lv_iload_n hx hb dX2_keep_14 rfl (lv_at hl 1 rfl) ?_
  exact hret 15 ls H locs _ _ dX2_keep_15 ⟨rfl, rfl⟩ hW

abbrev rm_tellFork : Room := { frames := 0, cells := 0, slots := 0, locals := 0 }
set_option maxHeartbeats 4000000 in
set_option maxRecDepth 100000 in
/-- what is told of a fork -/
theorem c_tellFork (l : Launch) (D : va_G) (I Z F : ClassId) (ad : Nat → Nat) (hI : cI ad) (M : Nat → Nat → Int32) (sz : Nat) (f : Nat) (hf : f < 12) (n z : Nat) (hn6 : n ≤ 626) (hz7 : z ≤ 77) (hz : M (25 + 6 * f) 2 = nI z) (hrw : ∀ i : Nat, i < z → ∃ k : Nat, k < n ∧ M (25 + 6 * f + 2) i = nI k) (i : Nat) (hi : i < z) (wh : Nat) (hwh : wh < 5) : Met l yX2_tellFork wsX2_tellFork rm_tellFork (va_Pc [.ref (ad 0), .ref (ad (25 + 6 * f)), .int (nI i), .int (nI wh)] (cU D I Z F ad sz M)) (va_Qi (fun (r : Int32) (u : Nat → Nat → Int32) => u = M ∧ r = tfF M (25 + 6 * f) i wh) (fun u t => cP D I Z F ad u t.heap) (cA ad sz)) 0 0 (cA ad sz) := by
  refine cMet_i (cc := cX2_tellFork) (maxL := 5) hI (by decide) rfl ⟨rfl, rfl⟩ RX2 rfl (Nat.le_of_ble_eq_true rfl) (lv := [(0, .ref (ad 0)), (1, .ref (ad (25 + 6 * f))), (2, .int (nI i)), (3, .int (nI wh))]) rfl ?_
  intro p e s m args below meth c Q A ls hsz C0 hW hl hret
  obtain ⟨hx, hb, hml, hts, hown, hlocks, hK, hN, hDa, hA, hargs⟩ := C0
  have hin2 : ∀ w ∈ u_ws RX2 TX2 6, w ∈ wsX2_tellFork := by decide +kernel
  have hin0 : ∀ w ∈ u_ws RX0 TX0 7, w ∈ wsX2_tellFork := by decide +kernel
  have hin1 : ∀ w ∈ u_ws RX1 TX1 10, w ∈ wsX2_tellFork := by decide +kernel
  obtain ⟨k, hk, ek⟩ := hrw i hi
  refine lv_aload_n hx hb dX2_tellFork_0 rfl (lv_at hl 1 rfl) ?_
  refine cr_getN (v := .ref (ad (25 + 6 * f + 2))) (host := "SharedForks") hx hb hts hin0 hown hK hW (25 + 6 * f) (by omega) (cE_d0 I Z F ad M f) rfl 3 (by decide) rfl hN (by decide +kernel) rfl dX2_tellFork_1 ?_
  refine lv_iload_n hx hb dX2_tellFork_4 rfl (lv_at hl 2 rfl) ?_
  refine cr_iald hx hb hK hW (25 + 6 * f + 2) (by omega) (cE_d2 I Z F ad M f) i (by omega) (by decide) rfl dX2_tellFork_5 ?_
  rw [ek]
  refine lv_istore (lv' := [(4, .int (nI k)), (0, .ref (ad 0)), (1, .ref (ad (25 + 6 * f))), (2, .int (nI i)), (3, .int (nI wh))]) hx hb dX2_tellFork_6 hl (by decide) rfl (fun ls hl => ?_)
  refine lv_iload_n hx hb dX2_tellFork_8 rfl (lv_at hl 4 rfl) ?_
  rcases (show wh = 0 ∨ wh = 1 ∨ wh = 2 ∨ wh = 3 ∨ wh = 4 by omega) with rfl | rfl | rfl | rfl | rfl
  · skip
    refine lv_tableIn (off := 31) (tgt := 40) hx hb dX2_tellFork_9 (by decide) (by decide) rfl (by decide) ?_
    refine lv_aload_n hx hb dX2_tellFork_40 rfl (lv_at hl 1 rfl) ?_
    refine cr_get (v := .ref (ad 3)) hx hb hts hin2 hown hK hW 0 (by decide) (cE_x I Z F ad M) rfl 2 (by decide) rfl (by decide +kernel) rfl dX2_tellFork_41 ?_
    refine cr_getN (v := .ref (ad (3 + 1))) (host := "SharedForks") hx hb hts hin1 hown hK hW 3 (by decide) (cE_f0 I Z F ad M (Or.inl rfl)) rfl 1 (by decide) rfl hN (by decide +kernel) rfl dX2_tellFork_44 ?_
    refine lv_iload hx hb dX2_tellFork_47 (lv_at hl 0 rfl) ?_
    refine cr_iald hx hb hK hW (3 + 1) (by decide) (cE_f1 I Z F ad M (Or.inl rfl)) k (by omega) (by decide) rfl dX2_tellFork_49 ?_
    exact hret 50 ls _ _ _ _ dX2_tellFork_50 ⟨rfl, by simp only [tfF, ek, nI_clamp (show k < 2 ^ 31 by omega)]⟩ hW
  · skip
    refine lv_tableIn (off := 42) (tgt := 51) hx hb dX2_tellFork_9 (by decide) (by decide) rfl (by decide) ?_
    refine lv_aload_n hx hb dX2_tellFork_51 rfl (lv_at hl 2 rfl) ?_
    refine cr_getN (v := .ref (ad (25 + 6 * f + 3))) (host := "SharedForks") hx hb hts hin0 hown hK hW (25 + 6 * f) (by omega) (cE_d0 I Z F ad M f) rfl 4 (by decide) rfl hN (by decide +kernel) rfl dX2_tellFork_52 ?_
    refine lv_iload_n hx hb dX2_tellFork_55 rfl (lv_at hl 3 rfl) ?_
    refine cr_iald hx hb hK hW (25 + 6 * f + 3) (by omega) (cE_d3 I Z F ad M f) i (by omega) (by decide) rfl dX2_tellFork_56 ?_
    exact hret 57 ls _ _ _ _ dX2_tellFork_57 ⟨rfl, by simp only [tfF, ek, nI_clamp (show k < 2 ^ 31 by omega)]⟩ hW
  · skip
    refine lv_tableIn (off := 49) (tgt := 58) hx hb dX2_tellFork_9 (by decide) (by decide) rfl (by decide) ?_
    refine lv_aload_n hx hb dX2_tellFork_58 rfl (lv_at hl 2 rfl) ?_
    refine cr_getN (v := .ref (ad (25 + 6 * f + 4))) (host := "SharedForks") hx hb hts hin0 hown hK hW (25 + 6 * f) (by omega) (cE_d0 I Z F ad M f) rfl 5 (by decide) rfl hN (by decide +kernel) rfl dX2_tellFork_59 ?_
    refine lv_iload_n hx hb dX2_tellFork_62 rfl (lv_at hl 3 rfl) ?_
    refine cr_iald hx hb hK hW (25 + 6 * f + 4) (by omega) (cE_d4 I Z F ad M f) i (by omega) (by decide) rfl dX2_tellFork_63 ?_
    exact hret 64 ls _ _ _ _ dX2_tellFork_64 ⟨rfl, by simp only [tfF, ek, nI_clamp (show k < 2 ^ 31 by omega)]⟩ hW
  · skip
    refine lv_tableIn (off := 56) (tgt := 65) hx hb dX2_tellFork_9 (by decide) (by decide) rfl (by decide) ?_
    refine lv_aload_n hx hb dX2_tellFork_65 rfl (lv_at hl 2 rfl) ?_
    refine cr_getN (v := .ref (ad (25 + 6 * f + 5))) (host := "SharedForks") hx hb hts hin0 hown hK hW (25 + 6 * f) (by omega) (cE_d0 I Z F ad M f) rfl 6 (by decide) rfl hN (by decide +kernel) rfl dX2_tellFork_66 ?_
    refine lv_iload_n hx hb dX2_tellFork_69 rfl (lv_at hl 3 rfl) ?_
    refine cr_iald hx hb hK hW (25 + 6 * f + 5) (by omega) (cE_d5 I Z F ad M f) i (by omega) (by decide) rfl dX2_tellFork_70 ?_
    exact hret 71 ls _ _ _ _ dX2_tellFork_71 ⟨rfl, by simp only [tfF, ek, nI_clamp (show k < 2 ^ 31 by omega)]⟩ hW
  · skip
    refine lv_tableOut (tgt := 72) hx hb dX2_tellFork_9 (Or.inr (by decide)) (by decide) ?_
    refine lv_aload_n hx hb dX2_tellFork_72 rfl (lv_at hl 1 rfl) ?_
    refine cr_get (v := .ref (ad 3)) hx hb hts hin2 hown hK hW 0 (by decide) (cE_x I Z F ad M) rfl 2 (by decide) rfl (by decide +kernel) rfl dX2_tellFork_73 ?_
    refine cr_getN (v := .ref (ad (3 + 4))) (host := "SharedForks") hx hb hts hin1 hown hK hW 3 (by decide) (cE_f0 I Z F ad M (Or.inl rfl)) rfl 4 (by decide) rfl hN (by decide +kernel) rfl dX2_tellFork_76 ?_
    refine lv_iload hx hb dX2_tellFork_79 (lv_at hl 0 rfl) ?_
    refine cr_iald hx hb hK hW (3 + 4) (by decide) (cE_f4 I Z F ad M (Or.inl rfl)) k (by omega) (by decide) rfl dX2_tellFork_81 ?_
    exact hret 82 ls _ _ _ _ dX2_tellFork_82 ⟨rfl, by simp only [tfF, ek, nI_clamp (show k < 2 ^ 31 by omega)]⟩ hW
end
section
abbrev rm_tellFold : Room := { frames := 3, cells := 0, slots := 0, locals := 300 }
set_option maxHeartbeats 4000000 in
set_option maxRecDepth 100000 in
/-- what is told of a fold -/
theorem c_tellFold (l : Launch) (D : va_G) (I Z F : ClassId) (ad : Nat → Nat) (hI : cI ad) (M : Nat → Nat → Int32) (sz : Nat) (f : Nat) (hf : f < 12) (n z : Nat) (hn6 : n ≤ 626) (hz7 : z ≤ 77) (hz : M (25 + 6 * f) 2 = nI z) (hrw : ∀ i : Nat, i < z → ∃ k : Nat, k < n ∧ M (25 + 6 * f + 2) i = nI k) (wh : Nat) (hwh : wh < 8) : Met l yX2_tellFold wsX2_tellFold rm_tellFold (va_Pc [.ref (ad 0), .ref (ad (25 + 6 * f)), .int (nI wh)] (cU D I Z F ad sz M)) (va_Qi (fun (r : Int32) (u : Nat → Nat → Int32) => u = M ∧ r = tdF M (25 + 6 * f) z wh) (fun u t => cP D I Z F ad u t.heap) (cA ad sz)) 0 0 (cA ad sz) := by
  refine cMet_i (cc := cX2_tellFold) (maxL := 3) hI (by decide) rfl ⟨rfl, rfl⟩ RX2 rfl (Nat.le_of_ble_eq_true rfl) (lv := [(0, .ref (ad 0)), (1, .ref (ad (25 + 6 * f))), (2, .int (nI wh))]) rfl ?_
  intro p e s m args below meth c Q A ls hsz C0 hW hl hret
  obtain ⟨hx, hb, hml, hts, hown, hlocks, hK, hN, hDa, hA, hargs⟩ := C0
  have hin2 : ∀ w ∈ u_ws RX2 TX2 6, w ∈ wsX2_tellFold := by decide +kernel
  have hin0 : ∀ w ∈ u_ws RX0 TX0 7, w ∈ wsX2_tellFold := by decide +kernel
  have hin1 : ∀ w ∈ u_ws RX1 TX1 10, w ∈ wsX2_tellFold := by decide +kernel
  refine lv_iload_n hx hb dX2_tellFold_0 rfl (lv_at hl 2 rfl) ?_
  rcases (show wh = 0 ∨ wh = 1 ∨ wh = 2 ∨ wh = 3 ∨ wh = 4 ∨ wh = 5 ∨ wh = 6 ∨ wh = 7 by omega) with rfl | rfl | rfl | rfl | rfl | rfl | rfl | rfl
  · skip
    refine lv_tableIn (off := 43) (tgt := 44) hx hb dX2_tellFold_1 (by decide) (by decide) rfl (by decide) ?_
    refine lv_aload_n hx hb dX2_tellFold_44 rfl (lv_at hl 1 rfl) ?_
    refine cr_getN (v := .int (M (25 + 6 * f) 2)) (host := "SharedForks") hx hb hts hin0 hown hK hW (25 + 6 * f) (by omega) (cE_d0 I Z F ad M f) rfl 2 (by decide) rfl hN (by decide +kernel) rfl dX2_tellFold_45 ?_
    rw [hz]
    exact hret 48 ls _ _ _ _ dX2_tellFold_48 ⟨rfl, rfl⟩ hW
  · skip
    refine lv_tableIn (off := 48) (tgt := 49) hx hb dX2_tellFold_1 (by decide) (by decide) rfl (by decide) ?_
    refine lv_aload_n hx hb dX2_tellFold_49 rfl (lv_at hl 1 rfl) ?_
    refine cr_calli (va_runS (As := [.ref (ad (25 + 6 * f))]) (rest := []) ⟨hx, hb, hml, hown, hts⟩ (c_countYes l D I Z F ad hI M s.heap.size f hf) (va_cwS 1 hts gX2_tellFold_X2_countYes rfl rfl rfl (by decide +kernel) ⟨Nat.le_of_ble_eq_true rfl, Nat.le_of_ble_eq_true rfl⟩) (cr_preS hK hN hW) rfl rfl hl.1 rfl (lv_room (Nat.le_of_ble_eq_true rfl)) dX2_tellFold_50 ⟨Nat.le_refl _, Nat.le_refl _⟩) hA hDa hW (fun r u H locs hp hW => ?_)
    obtain ⟨hu, hv9⟩ := hp
    rw [hu] at hW
    rw [hv9]
    exact hret 53 ls H locs _ _ dX2_tellFold_53 ⟨rfl, rfl⟩ hW
  · skip
    refine lv_tableIn (off := 53) (tgt := 54) hx hb dX2_tellFold_1 (by decide) (by decide) rfl (by decide) ?_
    refine lv_aload_n hx hb dX2_tellFold_54 rfl (lv_at hl 0 rfl) ?_
    refine lv_aload_n hx hb dX2_tellFold_55 rfl (lv_at hl 1 rfl) ?_
    refine cr_calli (va_runV (As := [.ref (ad (25 + 6 * f))]) (rest := []) ⟨hx, hb, hml, hown, hts⟩ (c_questionsThatMatter l D I Z F ad hI M s.heap.size f hf n z hn6 hz7 hz hrw) (cwV 1 hts gX2_tellFold_X2_questionsThatMatter rfl rfl rfl (by decide +kernel) ⟨Nat.le_of_ble_eq_true rfl, Nat.le_of_ble_eq_true rfl⟩) (cr_preV hK hN hW 0 (by decide) (cE_x I Z F ad M) rfl) rfl rfl hl.1 rfl (lv_room (Nat.le_of_ble_eq_true rfl)) dX2_tellFold_56 ⟨Nat.le_refl _, Nat.le_refl _⟩) hA hDa hW (fun r u H locs hp hW => ?_)
    obtain ⟨hu, hv9⟩ := hp
    rw [hu] at hW
    rw [hv9]
    exact hret 59 ls H locs _ _ dX2_tellFold_59 ⟨rfl, rfl⟩ hW
  · skip
    refine lv_tableIn (off := 59) (tgt := 60) hx hb dX2_tellFold_1 (by decide) (by decide) rfl (by decide) ?_
    refine lv_aload_n hx hb dX2_tellFold_60 rfl (lv_at hl 0 rfl) ?_
    refine lv_aload_n hx hb dX2_tellFold_61 rfl (lv_at hl 1 rfl) ?_
    refine cr_calli (va_runV (As := [.ref (ad (25 + 6 * f))]) (rest := []) ⟨hx, hb, hml, hown, hts⟩ (c_leastAsked l D I Z F ad hI M s.heap.size f hf n z hn6 hz7 hz hrw) (cwV 1 hts gX2_tellFold_X2_leastAsked rfl rfl rfl (by decide +kernel) ⟨Nat.le_of_ble_eq_true rfl, Nat.le_of_ble_eq_true rfl⟩) (cr_preV hK hN hW 0 (by decide) (cE_x I Z F ad M) rfl) rfl rfl hl.1 rfl (lv_room (Nat.le_of_ble_eq_true rfl)) dX2_tellFold_62 ⟨Nat.le_refl _, Nat.le_refl _⟩) hA hDa hW (fun r u H locs hp hW => ?_)
    obtain ⟨hu, hv9⟩ := hp
    rw [hu] at hW
    rw [hv9]
    exact hret 65 ls H locs _ _ dX2_tellFold_65 ⟨rfl, rfl⟩ hW
  · skip
    refine lv_tableIn (off := 65) (tgt := 66) hx hb dX2_tellFold_1 (by decide) (by decide) rfl (by decide) ?_
    refine lv_aload_n hx hb dX2_tellFold_66 rfl (lv_at hl 0 rfl) ?_
    refine lv_aload_n hx hb dX2_tellFold_67 rfl (lv_at hl 1 rfl) ?_
    refine cr_calli (va_runV (As := [.ref (ad (25 + 6 * f))]) (rest := []) ⟨hx, hb, hml, hown, hts⟩ (c_mostAsked l D I Z F ad hI M s.heap.size f hf n z hn6 hz7 hz hrw) (cwV 1 hts gX2_tellFold_X2_mostAsked rfl rfl rfl (by decide +kernel) ⟨Nat.le_of_ble_eq_true rfl, Nat.le_of_ble_eq_true rfl⟩) (cr_preV hK hN hW 0 (by decide) (cE_x I Z F ad M) rfl) rfl rfl hl.1 rfl (lv_room (Nat.le_of_ble_eq_true rfl)) dX2_tellFold_68 ⟨Nat.le_refl _, Nat.le_refl _⟩) hA hDa hW (fun r u H locs hp hW => ?_)
    obtain ⟨hu, hv9⟩ := hp
    rw [hu] at hW
    rw [hv9]
    exact hret 71 ls H locs _ _ dX2_tellFold_71 ⟨rfl, rfl⟩ hW
  · skip
    refine lv_tableIn (off := 71) (tgt := 72) hx hb dX2_tellFold_1 (by decide) (by decide) rfl (by decide) ?_
    refine lv_aload_n hx hb dX2_tellFold_72 rfl (lv_at hl 1 rfl) ?_
    refine cr_calli (va_runS (As := [.ref (ad (25 + 6 * f))]) (rest := []) ⟨hx, hb, hml, hown, hts⟩ (c_smallestYes l D I Z F ad hI M s.heap.size f hf) (va_cwS 1 hts gX2_tellFold_X2_smallestYes rfl rfl rfl (by decide +kernel) ⟨Nat.le_of_ble_eq_true rfl, Nat.le_of_ble_eq_true rfl⟩) (cr_preS hK hN hW) rfl rfl hl.1 rfl (lv_room (Nat.le_of_ble_eq_true rfl)) dX2_tellFold_73 ⟨Nat.le_refl _, Nat.le_refl _⟩) hA hDa hW (fun r u H locs hp hW => ?_)
    obtain ⟨hu, hv9⟩ := hp
    rw [hu] at hW
    rw [hv9]
    exact hret 76 ls H locs _ _ dX2_tellFold_76 ⟨rfl, rfl⟩ hW
  · skip
    refine lv_tableIn (off := 76) (tgt := 77) hx hb dX2_tellFold_1 (by decide) (by decide) rfl (by decide) ?_
    refine lv_aload_n hx hb dX2_tellFold_77 rfl (lv_at hl 1 rfl) ?_
    refine cr_calli (va_runS (As := [.ref (ad (25 + 6 * f))]) (rest := []) ⟨hx, hb, hml, hown, hts⟩ (c_greatestYes l D I Z F ad hI M s.heap.size f hf) (va_cwS 1 hts gX2_tellFold_X2_greatestYes rfl rfl rfl (by decide +kernel) ⟨Nat.le_of_ble_eq_true rfl, Nat.le_of_ble_eq_true rfl⟩) (cr_preS hK hN hW) rfl rfl hl.1 rfl (lv_room (Nat.le_of_ble_eq_true rfl)) dX2_tellFold_78 ⟨Nat.le_refl _, Nat.le_refl _⟩) hA hDa hW (fun r u H locs hp hW => ?_)
    obtain ⟨hu, hv9⟩ := hp
    rw [hu] at hW
    rw [hv9]
    exact hret 81 ls H locs _ _ dX2_tellFold_81 ⟨rfl, rfl⟩ hW
  · skip
    refine lv_tableOut (tgt := 82) hx hb dX2_tellFold_1 (Or.inr (by decide)) (by decide) ?_
    refine lv_aload_n hx hb dX2_tellFold_82 rfl (lv_at hl 0 rfl) ?_
    refine lv_aload_n hx hb dX2_tellFold_83 rfl (lv_at hl 1 rfl) ?_
    refine cr_calli (va_runV (As := [.ref (ad (25 + 6 * f))]) (rest := []) ⟨hx, hb, hml, hown, hts⟩ (c_countOwnForks l D I Z F ad hI M s.heap.size f hf n z hn6 hz7 hz hrw) (cwV 1 hts gX2_tellFold_X2_countOwnForks rfl rfl rfl (by decide +kernel) ⟨Nat.le_of_ble_eq_true rfl, Nat.le_of_ble_eq_true rfl⟩) (cr_preV hK hN hW 0 (by decide) (cE_x I Z F ad M) rfl) rfl rfl hl.1 rfl (lv_room (Nat.le_of_ble_eq_true rfl)) dX2_tellFold_84 ⟨Nat.le_refl _, Nat.le_refl _⟩) hA hDa hW (fun r u H locs hp hW => ?_)
    obtain ⟨hu, hv9⟩ := hp
    rw [hu] at hW
    rw [hv9]
    exact hret 87 ls H locs _ _ dX2_tellFold_87 ⟨rfl, rfl⟩ hW

abbrev rm_tellCount : Room := { frames := 1, cells := 0, slots := 0, locals := 100 }
set_option maxHeartbeats 4000000 in
set_option maxRecDepth 100000 in
/-- what is told of all -/
theorem c_tellCount (l : Launch) (D : va_G) (I Z F : ClassId) (ad : Nat → Nat) (hI : cI ad) (M : Nat → Nat → Int32) (sz : Nat) (n : Nat) (hn6 : n ≤ 626) (h0 : M 3 0 = nI n) (wh : Nat) (hwh : wh < 5) : Met l yX2_tellCount wsX2_tellCount rm_tellCount (va_Pc [.ref (ad 0), .int (nI wh)] (cU D I Z F ad sz M)) (va_Qi (fun (r : Int32) (u : Nat → Nat → Int32) => u = M ∧ r = tcF M n wh) (fun u t => cP D I Z F ad u t.heap) (cA ad sz)) 0 0 (cA ad sz) := by
  refine cMet_i (cc := cX2_tellCount) (maxL := 2) hI (by decide) rfl ⟨rfl, rfl⟩ RX2 rfl (Nat.le_of_ble_eq_true rfl) (lv := [(0, .ref (ad 0)), (1, .int (nI wh))]) rfl ?_
  intro p e s m args below meth c Q A ls hsz C0 hW hl hret
  obtain ⟨hx, hb, hml, hts, hown, hlocks, hK, hN, hDa, hA, hargs⟩ := C0
  have hin2 : ∀ w ∈ u_ws RX2 TX2 6, w ∈ wsX2_tellCount := by decide +kernel
  have hin0 : ∀ w ∈ u_ws RX0 TX0 7, w ∈ wsX2_tellCount := by decide +kernel
  have hin1 : ∀ w ∈ u_ws RX1 TX1 10, w ∈ wsX2_tellCount := by decide +kernel
  refine lv_iload_n hx hb dX2_tellCount_0 rfl (lv_at hl 1 rfl) ?_
  rcases (show wh = 0 ∨ wh = 1 ∨ wh = 2 ∨ wh = 3 ∨ wh = 4 by omega) with rfl | rfl | rfl | rfl | rfl
  · skip
    refine lv_tableIn (off := 31) (tgt := 32) hx hb dX2_tellCount_1 (by decide) (by decide) rfl (by decide) ?_
    refine lv_aload_n hx hb dX2_tellCount_32 rfl (lv_at hl 0 rfl) ?_
    refine cr_calli (va_runV (As := []) (rest := []) ⟨hx, hb, hml, hown, hts⟩ (c_countKept l D I Z F ad hI M s.heap.size) (cwV 0 hts gX2_tellCount_X2_countKept rfl rfl rfl (by decide +kernel) ⟨Nat.le_of_ble_eq_true rfl, Nat.le_of_ble_eq_true rfl⟩) (cr_preV hK hN hW 0 (by decide) (cE_x I Z F ad M) rfl) rfl rfl hl.1 rfl (lv_room (Nat.le_of_ble_eq_true rfl)) dX2_tellCount_33 ⟨Nat.le_refl _, Nat.le_refl _⟩) hA hDa hW (fun r u H locs hp hW => ?_)
    obtain ⟨hu, hv9⟩ := hp
    rw [hu] at hW
    rw [hv9]
    exact hret 36 ls H locs _ _ dX2_tellCount_36 ⟨rfl, rfl⟩ hW
  · skip
    refine lv_tableIn (off := 36) (tgt := 37) hx hb dX2_tellCount_1 (by decide) (by decide) rfl (by decide) ?_
    refine lv_aload_n hx hb dX2_tellCount_37 rfl (lv_at hl 0 rfl) ?_
    refine cr_get (v := .ref (ad 3)) hx hb hts hin2 hown hK hW 0 (by decide) (cE_x I Z F ad M) rfl 2 (by decide) rfl (by decide +kernel) rfl dX2_tellCount_38 ?_
    refine cr_getN (v := .int (M 3 0)) (host := "SharedForks") hx hb hts hin1 hown hK hW 3 (by decide) (cE_f0 I Z F ad M (Or.inl rfl)) rfl 0 (by decide) rfl hN (by decide +kernel) rfl dX2_tellCount_41 ?_
    rw [h0]
    exact hret 44 ls _ _ _ _ dX2_tellCount_44 ⟨rfl, rfl⟩ hW
  · skip
    refine lv_tableIn (off := 44) (tgt := 45) hx hb dX2_tellCount_1 (by decide) (by decide) rfl (by decide) ?_
    refine lv_aload_n hx hb dX2_tellCount_45 rfl (lv_at hl 0 rfl) ?_
    refine cr_calli (va_runV (As := []) (rest := []) ⟨hx, hb, hml, hown, hts⟩ (c_addForks l D I Z F ad hI M s.heap.size) (cwV 0 hts gX2_tellCount_X2_addForks rfl rfl rfl (by decide +kernel) ⟨Nat.le_of_ble_eq_true rfl, Nat.le_of_ble_eq_true rfl⟩) (cr_preV hK hN hW 0 (by decide) (cE_x I Z F ad M) rfl) rfl rfl hl.1 rfl (lv_room (Nat.le_of_ble_eq_true rfl)) dX2_tellCount_46 ⟨Nat.le_refl _, Nat.le_refl _⟩) hA hDa hW (fun r u H locs hp hW => ?_)
    obtain ⟨hu, hv9⟩ := hp
    rw [hu] at hW
    rw [hv9]
    exact hret 49 ls H locs _ _ dX2_tellCount_49 ⟨rfl, rfl⟩ hW
  · skip
    refine lv_tableIn (off := 49) (tgt := 50) hx hb dX2_tellCount_1 (by decide) (by decide) rfl (by decide) ?_
    refine lv_aload_n hx hb dX2_tellCount_50 rfl (lv_at hl 0 rfl) ?_
    refine cr_calli (va_runV (As := []) (rest := []) ⟨hx, hb, hml, hown, hts⟩ (c_countForksAtFirstPlace l D I Z F ad hI M s.heap.size n hn6 h0) (cwV 0 hts gX2_tellCount_X2_countForksAtFirstPlace rfl rfl rfl (by decide +kernel) ⟨Nat.le_of_ble_eq_true rfl, Nat.le_of_ble_eq_true rfl⟩) (cr_preV hK hN hW 0 (by decide) (cE_x I Z F ad M) rfl) rfl rfl hl.1 rfl (lv_room (Nat.le_of_ble_eq_true rfl)) dX2_tellCount_51 ⟨Nat.le_refl _, Nat.le_refl _⟩) hA hDa hW (fun r u H locs hp hW => ?_)
    obtain ⟨hu, hv9⟩ := hp
    rw [hu] at hW
    rw [hv9]
    exact hret 54 ls H locs _ _ dX2_tellCount_54 ⟨rfl, rfl⟩ hW
  · skip
    refine lv_tableOut (tgt := 55) hx hb dX2_tellCount_1 (Or.inr (by decide)) (by decide) ?_
    refine lv_aload_n hx hb dX2_tellCount_55 rfl (lv_at hl 0 rfl) ?_
    refine cr_calli (va_runV (As := []) (rest := []) ⟨hx, hb, hml, hown, hts⟩ (c_countLeaves l D I Z F ad hI M s.heap.size) (cwV 0 hts gX2_tellCount_X2_countLeaves rfl rfl rfl (by decide +kernel) ⟨Nat.le_of_ble_eq_true rfl, Nat.le_of_ble_eq_true rfl⟩) (cr_preV hK hN hW 0 (by decide) (cE_x I Z F ad M) rfl) rfl rfl hl.1 rfl (lv_room (Nat.le_of_ble_eq_true rfl)) dX2_tellCount_56 ⟨Nat.le_refl _, Nat.le_refl _⟩) hA hDa hW (fun r u H locs hp hW => ?_)
    obtain ⟨hu, hv9⟩ := hp
    rw [hu] at hW
    rw [hv9]
    exact hret 59 ls H locs _ _ dX2_tellCount_59 ⟨rfl, rfl⟩ hW

abbrev rm_countForksAfterSwap : Room := { frames := 12, cells := 0, slots := 0, locals := 600 }
set_option maxHeartbeats 4000000 in
set_option maxRecDepth 100000 in
/-- an exchange that is tried -/
theorem c_countForksAfterSwap (l : Launch) (D : va_G) (I Z F : ClassId) (ad : Nat → Nat) (hI : cI ad) (M : Nat → Nat → Int32) (sz : Nat) (p0 : Nat) (hp0 : p0 < 7) : Met l yX2_countForksAfterSwap wsX2_countForksAfterSwap rm_countForksAfterSwap (va_Pc [.ref (ad 0), .int (nI p0)] (cU D I Z F ad sz M)) (va_Qi (fun (r : Int32) (u : Nat → Nat → Int32) => u = csF M p0 ∧ r = csF M p0 15 0) (fun u t => cP D I Z F ad u t.heap) (cA ad sz)) 0 0 (cA ad sz) := by
  refine cMet_i (cc := cX2_countForksAfterSwap) (maxL := 3) hI (by decide) rfl ⟨rfl, rfl⟩ RX2 rfl (Nat.le_of_ble_eq_true rfl) (lv := [(0, .ref (ad 0)), (1, .int (nI p0))]) rfl ?_
  intro p e s m args below meth c Q A ls hsz C0 hW hl hret
  obtain ⟨hx, hb, hml, hts, hown, hlocks, hK, hN, hDa, hA, hargs⟩ := C0
  have hin2 : ∀ w ∈ u_ws RX2 TX2 6, w ∈ wsX2_countForksAfterSwap := by decide +kernel
  have hin0 : ∀ w ∈ u_ws RX0 TX0 7, w ∈ wsX2_countForksAfterSwap := by decide +kernel
  have hin1 : ∀ w ∈ u_ws RX1 TX1 10, w ∈ wsX2_countForksAfterSwap := by decide +kernel
  refine lv_aload_n hx hb dX2_countForksAfterSwap_0 rfl (lv_at hl 0 rfl) ?_
  refine cr_get (v := .ref (ad 2)) hx hb hts hin2 hown hK hW 0 (by decide) (cE_x I Z F ad M) rfl 1 (by decide) rfl (by decide +kernel) rfl dX2_countForksAfterSwap_1 ?_
  refine lv_iconst (v := 0) hx hb dX2_countForksAfterSwap_4 (by decide) ?_
  refine lv_aload_n hx hb dX2_countForksAfterSwap_5 rfl (lv_at hl 0 rfl) ?_
  refine cr_get (v := .ref (ad 14)) hx hb hts hin2 hown hK hW 0 (by decide) (cE_x I Z F ad M) rfl 4 (by decide) rfl (by decide +kernel) rfl dX2_countForksAfterSwap_6 ?_
  refine lv_iconst (v := 0) hx hb dX2_countForksAfterSwap_9 (by decide) ?_
  refine lv_bipush (v := 8) hx hb dX2_countForksAfterSwap_10 (by decide) ?_
  refine cr_copy hx hb (hml.trans hl.1.symm) hts hown (by decide +kernel) (by decide +kernel) (by decide +kernel) (by decide +kernel) hK hDa hW 2 14 (by decide) (by decide) (cE_q I Z F ad M) (cE_to I Z F ad M) 8 rfl (by decide) (by decide) (by decide) (by decide) (by decide) dX2_countForksAfterSwap_12 (fun H locs hW => ?_)
  refine lv_aload_n hx hb dX2_countForksAfterSwap_15 rfl (lv_at hl 0 rfl) ?_
  refine cr_get (v := .ref (ad 14)) hx hb hts hin2 hown hK hW 0 (by decide) (cE_x I Z F ad (mrow M 14 (va_cpy (M 2) (M 14) 0 0 8))) rfl 4 (by decide) rfl (by decide +kernel) rfl dX2_countForksAfterSwap_16 ?_
  refine lv_iload_n hx hb dX2_countForksAfterSwap_19 rfl (lv_at hl 1 rfl) ?_
  refine cr_callv (va_runS (As := [.ref (ad 14), .int (nI p0)]) (rest := []) ⟨hx, hb, hml, hown, hts⟩ (c_exchange l D I Z F ad hI (mrow M 14 (va_cpy (M 2) (M 14) 0 0 8)) H.size 14 (by decide) (cE_to I Z F ad _) p0 hp0) (va_cwS 2 hts gX2_countForksAfterSwap_X2_exchange rfl rfl rfl (by decide +kernel) ⟨Nat.le_of_ble_eq_true rfl, Nat.le_of_ble_eq_true rfl⟩) (cr_preS hK hN hW) rfl rfl hl.1 rfl (lv_room (Nat.le_of_ble_eq_true rfl)) dX2_countForksAfterSwap_20 ⟨Nat.le_refl _, Nat.le_refl _⟩) hA hDa hW (fun u H locs hp hW => ?_)
  rw [hp] at hW
  refine lv_aload_n hx hb dX2_countForksAfterSwap_23 rfl (lv_at hl 0 rfl) ?_
  refine cr_get (v := .ref (ad 15)) hx hb hts hin2 hown hK hW 0 (by decide) (cE_x I Z F ad (exF (mrow M 14 (va_cpy (M 2) (M 14) 0 0 8)) 14 p0)) rfl 5 (by decide) rfl (by decide +kernel) rfl dX2_countForksAfterSwap_24 ?_
  refine lv_aload_n hx hb dX2_countForksAfterSwap_27 rfl (lv_at hl 0 rfl) ?_
  refine cr_get (v := .ref (ad 14)) hx hb hts hin2 hown hK hW 0 (by decide) (cE_x I Z F ad (exF (mrow M 14 (va_cpy (M 2) (M 14) 0 0 8)) 14 p0)) rfl 4 (by decide) rfl (by decide +kernel) rfl dX2_countForksAfterSwap_28 ?_
  refine cr_callv (va_runVN (As := [.ref (ad 14)]) (rest := []) (own := RX2) (host := "SharedForks") ⟨hx, hb, hml, hown, hts⟩ (c_startOver l D I Z F ad hI (exF (mrow M 14 (va_cpy (M 2) (M 14) 0 0 8)) 14 p0) H.size 15 (Or.inr rfl) 14 (by decide) ⟨by decide, by decide, by decide⟩ (cE_to I Z F ad _)) ⟨va_cnB 1 hts gX2_countForksAfterSwap_X1_startOver_n113 rfl rfl rfl (hN (.methodLinkNest RX2 113 yX1_startOver "SharedForks") (by decide +kernel)) (hts (.initialized yX1_startOver.cls) (by decide +kernel)) (by decide +kernel) ⟨Nat.le_of_ble_eq_true rfl, Nat.le_of_ble_eq_true rfl⟩, hts (.instanceMethod yX1_startOver) (by decide +kernel), hts (.selects yX1_startOver.cls yX1_startOver yX1_startOver) (by decide +kernel)⟩ (cr_preV hK hN hW 15 (by decide) (cE_f0 I Z F ad (exF (mrow M 14 (va_cpy (M 2) (M 14) 0 0 8)) 14 p0) (Or.inr rfl)) rfl) rfl rfl hl.1 rfl (lv_room (Nat.le_of_ble_eq_true rfl)) dX2_countForksAfterSwap_31 ⟨Nat.le_refl _, Nat.le_refl _⟩) hA hDa hW (fun u H locs hp hW => ?_)
  rw [hp] at hW
  rw [show soF (exF (mrow M 14 (va_cpy (M 2) (M 14) 0 0 8)) 14 p0) 15 14 = csL M p0 0 from rfl] at hW
  refine lv_iconst (v := 0) hx hb dX2_countForksAfterSwap_34 (by decide) ?_
  refine lv_istore_n (lv' := [(2, .int 0), (0, .ref (ad 0)), (1, .int (nI p0))]) hx hb dX2_countForksAfterSwap_35 rfl hl (by decide) rfl (fun ls hl => ?_)
  have loop : ∀ q f : Nat, f + q = 12 → ∀ (ls : Array Slot) (H : Heap) (locs : List Loc), lv_has ls 3 [(2, .int (nI f)), (0, .ref (ad 0)), (1, .int (nI p0))] → cB9 D I Z F ad A s.heap (csL M p0 f) H locs → W p l e rm_countForksAfterSwap s m args below meth c H locs 0 0 Q (F0 m 36 ls []) := by
    intro q
    induction q with
    | zero =>
      intro f hf ls H locs hl hW
      obtain rfl : f = 12 := by omega
      refine lv_iload_n hx hb dX2_countForksAfterSwap_36 rfl (lv_at hl 0 rfl) ?_
      refine lv_bipush (v := 12) hx hb dX2_countForksAfterSwap_37 (by decide) ?_
      refine lv_icmp_ge (tgt := 77) hx hb dX2_countForksAfterSwap_39 (by decide) (fun c1 => ?_) (fun c1 => ?_)
      · skip
        refine lv_aload_n hx hb dX2_countForksAfterSwap_77 rfl (lv_at hl 1 rfl) ?_
        refine cr_get (v := .ref (ad 15)) hx hb hts hin2 hown hK hW 0 (by decide) (cE_x I Z F ad (csL M p0 12)) rfl 5 (by decide) rfl (by decide +kernel) rfl dX2_countForksAfterSwap_78 ?_
        refine cr_getN (v := .int ((csL M p0 12) 15 0)) (host := "SharedForks") hx hb hts hin1 hown hK hW 15 (by decide) (cE_f0 I Z F ad (csL M p0 12) (Or.inr rfl)) rfl 0 (by decide) rfl hN (by decide +kernel) rfl dX2_countForksAfterSwap_81 ?_
        exact hret 84 ls H locs _ _ dX2_countForksAfterSwap_84 ⟨rfl, rfl⟩ hW
      · exact absurd (nI_le (Nat.le_refl 12) (by decide)) c1
    | succ q ih =>
      intro f hf ls H locs hl hW
      have hstep := csL.eq_2 M p0 f
      obtain ⟨⟨n, hk2⟩, haw⟩ := csL_ok M p0 f
      obtain ⟨X, hX⟩ : ∃ X, X = csL M p0 f := ⟨_, rfl⟩
      rw [← hX] at hW hstep hk2 haw
      refine lv_iload_n hx hb dX2_countForksAfterSwap_36 rfl (lv_at hl 0 rfl) ?_
      refine lv_bipush (v := 12) hx hb dX2_countForksAfterSwap_37 (by decide) ?_
      refine lv_icmp_ge (tgt := 77) hx hb dX2_countForksAfterSwap_39 (by decide) (fun c1 => ?_) (fun c1 => ?_)
      · exact absurd c1 (nI_ge (b := 12) (by omega) (by decide))
      · skip
        refine lv_aload_n hx hb dX2_countForksAfterSwap_42 rfl (lv_at hl 1 rfl) ?_
        refine cr_get (v := .ref (ad 1)) hx hb hts hin2 hown hK hW 0 (by decide) (cE_x I Z F ad X) rfl 0 (by decide) rfl (by decide +kernel) rfl dX2_countForksAfterSwap_43 ?_
        refine lv_iload_n hx hb dX2_countForksAfterSwap_46 rfl (lv_at hl 0 rfl) ?_
        refine cr_fald hx hb hK hW f (by omega) rfl dX2_countForksAfterSwap_47 ?_
        refine cr_getN (v := .int (X (25 + 6 * f) 0)) (host := "SharedForks") hx hb hts hin0 hown hK hW (25 + 6 * f) (by omega) (cE_d0 I Z F ad X f) rfl 0 (by decide) rfl hN (by decide +kernel) rfl dX2_countForksAfterSwap_48 ?_
        refine lv_if_eq (tgt := 71) hx hb dX2_countForksAfterSwap_51 (by decide) (fun c2 => ?_) (fun c2 => ?_)
        · skip
          rw [if_pos c2] at hstep
          refine lv_iinc (v := nI (f + 1)) (lv' := [(2, .int (nI (f + 1))), (0, .ref (ad 0)), (1, .int (nI p0))]) hx hb dX2_countForksAfterSwap_71 hl (k := 0) rfl (nI_1 f) (by decide) rfl (fun ls hl => ?_)
          refine lv_goto (tgt := 36) hx hb dX2_countForksAfterSwap_74 (by decide) ?_
          exact ih (f + 1) (by omega) ls H locs (lv_sub hl [0, 1, 2] rfl) (by rw [hstep]; exact hW)
        · skip
          rw [if_neg c2] at hstep
          refine lv_aload_n hx hb dX2_countForksAfterSwap_54 rfl (lv_at hl 1 rfl) ?_
          refine cr_get (v := .ref (ad 15)) hx hb hts hin2 hown hK hW 0 (by decide) (cE_x I Z F ad X) rfl 5 (by decide) rfl (by decide +kernel) rfl dX2_countForksAfterSwap_55 ?_
          refine lv_aload_n hx hb dX2_countForksAfterSwap_58 rfl (lv_at hl 1 rfl) ?_
          refine cr_get (v := .ref (ad 1)) hx hb hts hin2 hown hK hW 0 (by decide) (cE_x I Z F ad X) rfl 0 (by decide) rfl (by decide +kernel) rfl dX2_countForksAfterSwap_59 ?_
          refine lv_iload_n hx hb dX2_countForksAfterSwap_62 rfl (lv_at hl 0 rfl) ?_
          refine cr_fald hx hb hK hW f (by omega) rfl dX2_countForksAfterSwap_63 ?_
          refine cr_getN (v := .ref (ad (25 + 6 * f + 1))) (host := "SharedForks") hx hb hts hin0 hown hK hW (25 + 6 * f) (by omega) (cE_d0 I Z F ad X f) rfl 1 (by decide) rfl hN (by decide +kernel) rfl dX2_countForksAfterSwap_64 ?_
          refine cr_calli (va_runVN (As := [.ref (ad (25 + 6 * f + 1))]) (rest := []) (own := RX2) (host := "SharedForks") ⟨hx, hb, hml, hown, hts⟩ (c_lay l D I Z F ad hI X H.size 15 (Or.inr rfl) hk2.ok haw (25 + 6 * f + 1) (by omega) (by omega) (cE_d1 I Z F ad X f)) ⟨va_cnB 1 hts gX2_countForksAfterSwap_X1_lay_n117 rfl rfl rfl (hN (.methodLinkNest RX2 117 yX1_lay "SharedForks") (by decide +kernel)) (hts (.initialized yX1_lay.cls) (by decide +kernel)) (by decide +kernel) ⟨Nat.le_of_ble_eq_true rfl, Nat.le_of_ble_eq_true rfl⟩, hts (.instanceMethod yX1_lay) (by decide +kernel), hts (.selects yX1_lay.cls yX1_lay yX1_lay) (by decide +kernel)⟩ (cr_preV hK hN hW 15 (by decide) (cE_f0 I Z F ad X (Or.inr rfl)) rfl) rfl rfl hl.1 rfl (lv_room (Nat.le_of_ble_eq_true rfl)) dX2_countForksAfterSwap_67 ⟨Nat.le_refl _, Nat.le_refl _⟩) hA hDa hW (fun r u H locs hp hW => ?_)
          obtain ⟨hu, hv9⟩ := hp
          rw [hu] at hW
          rw [hv9]
          refine lv_pop hx hb dX2_countForksAfterSwap_70 rfl ?_
          refine lv_iinc (v := nI (f + 1)) (lv' := [(2, .int (nI (f + 1))), (0, .ref (ad 0)), (1, .int (nI p0))]) hx hb dX2_countForksAfterSwap_71 hl (k := 0) rfl (nI_1 f) (by decide) rfl (fun ls hl => ?_)
          refine lv_goto (tgt := 36) hx hb dX2_countForksAfterSwap_74 (by decide) ?_
          exact ih (f + 1) (by omega) ls H locs (lv_sub hl [0, 1, 2] rfl) (by rw [hstep]; exact hW)
  exact loop 12 0 (by decide) ls H locs (lv_sub hl [0, 1, 2] rfl) hW

abbrev rm_advise : Room := { frames := 13, cells := 0, slots := 0, locals := 700 }
set_option maxHeartbeats 4000000 in
set_option maxRecDepth 100000 in
/-- the exchange that leaves the fewest forks -/
theorem c_advise (l : Launch) (D : va_G) (I Z F : ClassId) (ad : Nat → Nat) (hI : cI ad) (M : Nat → Nat → Int32) (sz : Nat)  : Met l yX2_advise wsX2_advise rm_advise (va_Pc [.ref (ad 0)] (cU D I Z F ad sz M)) (va_Qi (fun (r : Int32) (u : Nat → Nat → Int32) => u = (adL M 7).1 ∧ r = (adL M 7).2.2) (fun u t => cP D I Z F ad u t.heap) (cA ad sz)) 0 0 (cA ad sz) := by
  refine cMet_i (cc := cX2_advise) (maxL := 5) hI (by decide) rfl ⟨rfl, rfl⟩ RX2 rfl (Nat.le_of_ble_eq_true rfl) (lv := [(0, .ref (ad 0))]) rfl ?_
  intro p e s m args below meth c Q A ls hsz C0 hW hl hret
  obtain ⟨hx, hb, hml, hts, hown, hlocks, hK, hN, hDa, hA, hargs⟩ := C0
  have hin2 : ∀ w ∈ u_ws RX2 TX2 6, w ∈ wsX2_advise := by decide +kernel
  have hin0 : ∀ w ∈ u_ws RX0 TX0 7, w ∈ wsX2_advise := by decide +kernel
  have hin1 : ∀ w ∈ u_ws RX1 TX1 10, w ∈ wsX2_advise := by decide +kernel
  refine lv_iconst (v := -1) hx hb dX2_advise_0 (by decide) ?_
  refine lv_istore_n (lv' := [(1, .int (-1)), (0, .ref (ad 0))]) hx hb dX2_advise_1 rfl hl (by decide) rfl (fun ls hl => ?_)
  refine lv_aload_n hx hb dX2_advise_2 rfl (lv_at hl 1 rfl) ?_
  refine cr_get (v := .ref (ad 3)) hx hb hts hin2 hown hK hW 0 (by decide) (cE_x I Z F ad M) rfl 2 (by decide) rfl (by decide +kernel) rfl dX2_advise_3 ?_
  refine cr_getN (v := .int (M 3 0)) (host := "SharedForks") hx hb hts hin1 hown hK hW 3 (by decide) (cE_f0 I Z F ad M (Or.inl rfl)) rfl 0 (by decide) rfl hN (by decide +kernel) rfl dX2_advise_6 ?_
  refine lv_istore_n (lv' := [(2, .int (M 3 0)), (1, .int (-1)), (0, .ref (ad 0))]) hx hb dX2_advise_9 rfl hl (by decide) rfl (fun ls hl => ?_)
  refine lv_iconst (v := 0) hx hb dX2_advise_10 (by decide) ?_
  refine lv_istore_n (lv' := [(3, .int 0), (2, .int (M 3 0)), (1, .int (-1)), (0, .ref (ad 0))]) hx hb dX2_advise_11 rfl hl (by decide) rfl (fun ls hl => ?_)
  have loop : ∀ q i : Nat, i + q = 7 → ∀ (ls : Array Slot) (H : Heap) (locs : List Loc), lv_has ls 5 [(3, .int (nI i)), (2, .int (adL M i).2.1), (1, .int (adL M i).2.2), (0, .ref (ad 0))] → cB9 D I Z F ad A s.heap (adL M i).1 H locs → W p l e rm_advise s m args below meth c H locs 0 0 Q (F0 m 12 ls []) := by
    intro q
    induction q with
    | zero =>
      intro i hi ls H locs hl hW
      obtain rfl : i = 7 := by omega
      refine lv_iload_n hx hb dX2_advise_12 rfl (lv_at hl 0 rfl) ?_
      refine lv_bipush (v := 7) hx hb dX2_advise_13 (by decide) ?_
      refine lv_icmp_ge (tgt := 42) hx hb dX2_advise_15 (by decide) (fun c1 => ?_) (fun c1 => ?_)
      · skip
        refine lv_iload_n hx hb dX2_advise_42 rfl (lv_at hl 2 rfl) ?_
        exact hret 43 ls H locs _ _ dX2_advise_43 ⟨rfl, rfl⟩ hW
      · exact absurd (nI_le (Nat.le_refl 7) (by decide)) c1
    | succ q ih =>
      intro i hi ls H locs hl hW
      refine lv_iload_n hx hb dX2_advise_12 rfl (lv_at hl 0 rfl) ?_
      refine lv_bipush (v := 7) hx hb dX2_advise_13 (by decide) ?_
      refine lv_icmp_ge (tgt := 42) hx hb dX2_advise_15 (by decide) (fun c1 => ?_) (fun c1 => ?_)
      · exact absurd c1 (nI_ge (b := 7) (by omega) (by decide))
      · skip
        have hstep := adL.eq_2 M i
        obtain ⟨S, hS⟩ : ∃ S, S = adL M i := ⟨_, rfl⟩
        rw [← hS] at hstep hl hW
        obtain ⟨M1, fe, be⟩ := S
        dsimp only at hstep hl hW
        refine lv_aload_n hx hb dX2_advise_18 rfl (lv_at hl 3 rfl) ?_
        refine lv_iload_n hx hb dX2_advise_19 rfl (lv_at hl 0 rfl) ?_
        refine cr_calli (va_runV (As := [.int (nI i)]) (rest := []) ⟨hx, hb, hml, hown, hts⟩ (c_countForksAfterSwap l D I Z F ad hI M1 H.size i (by omega)) (cwV 1 hts gX2_advise_X2_countForksAfterSwap rfl rfl rfl (by decide +kernel) ⟨Nat.le_of_ble_eq_true rfl, Nat.le_of_ble_eq_true rfl⟩) (cr_preV hK hN hW 0 (by decide) (cE_x I Z F ad M1) rfl) rfl rfl hl.1 rfl (lv_room (Nat.le_of_ble_eq_true rfl)) dX2_advise_20 ⟨Nat.le_refl _, Nat.le_refl _⟩) hA hDa hW (fun r u H locs hp hW => ?_)
        obtain ⟨hu, hv9⟩ := hp
        obtain ⟨X, hX⟩ : ∃ X, X = csF M1 i := ⟨_, rfl⟩
        rw [← hX] at hu hv9 hstep
        rw [hu] at hW
        rw [hv9]
        refine lv_istore (lv' := [(4, .int (X 15 0)), (3, .int (nI i)), (2, .int fe), (1, .int be), (0, .ref (ad 0))]) hx hb dX2_advise_23 hl (by decide) rfl (fun ls hl => ?_)
        refine lv_iload hx hb dX2_advise_25 (lv_at hl 0 rfl) ?_
        refine lv_iload_n hx hb dX2_advise_27 rfl (lv_at hl 2 rfl) ?_
        refine lv_icmp_ge (tgt := 36) hx hb dX2_advise_28 (by decide) (fun c2 => ?_) (fun c2 => ?_)
        · skip
          rw [if_neg (fun h => Int32.not_le.mpr h c2)] at hstep
          have e1 : (adL M (i + 1)).1 = X := by rw [hstep]
          have e2 : (adL M (i + 1)).2.1 = fe := by rw [hstep]
          have e3 : (adL M (i + 1)).2.2 = be := by rw [hstep]
          refine lv_iinc (v := nI (i + 1)) (lv' := [(3, .int (nI (i + 1))), (4, .int (X 15 0)), (2, .int fe), (1, .int be), (0, .ref (ad 0))]) hx hb dX2_advise_36 hl (k := 1) rfl (nI_1 i) (by decide) rfl (fun ls hl => ?_)
          refine lv_goto (tgt := 12) hx hb dX2_advise_39 (by decide) ?_
          exact ih (i + 1) (by omega) ls H locs (by rw [e2, e3]; exact (lv_sub hl [0, 2, 3, 4] rfl)) (by rw [e1]; exact hW)
        · skip
          rw [if_pos (Int32.not_le.mp c2)] at hstep
          have e1 : (adL M (i + 1)).1 = X := by rw [hstep]
          have e2 : (adL M (i + 1)).2.1 = X 15 0 := by rw [hstep]
          have e3 : (adL M (i + 1)).2.2 = nI i := by rw [hstep]
          refine lv_iload hx hb dX2_advise_31 (lv_at hl 0 rfl) ?_
          refine lv_istore_n (lv' := [(2, .int (X 15 0)), (4, .int (X 15 0)), (3, .int (nI i)), (1, .int be), (0, .ref (ad 0))]) hx hb dX2_advise_33 rfl hl (by decide) rfl (fun ls hl => ?_)
          refine lv_iload_n hx hb dX2_advise_34 rfl (lv_at hl 2 rfl) ?_
          refine lv_istore_n (lv' := [(1, .int (nI i)), (2, .int (X 15 0)), (4, .int (X 15 0)), (3, .int (nI i)), (0, .ref (ad 0))]) hx hb dX2_advise_35 rfl hl (by decide) rfl (fun ls hl => ?_)
          refine lv_iinc (v := nI (i + 1)) (lv' := [(3, .int (nI (i + 1))), (1, .int (nI i)), (2, .int (X 15 0)), (4, .int (X 15 0)), (0, .ref (ad 0))]) hx hb dX2_advise_36 hl (k := 3) rfl (nI_1 i) (by decide) rfl (fun ls hl => ?_)
          refine lv_goto (tgt := 12) hx hb dX2_advise_39 (by decide) ?_
          exact ih (i + 1) (by omega) ls H locs (by rw [e2, e3]; exact (lv_sub hl [0, 2, 1, 4] rfl)) (by rw [e1]; exact hW)
  exact loop 7 0 (by decide) ls _ _ (lv_sub hl [0, 1, 2, 3] rfl) hW
end
section
section
variable {p : Program} {l : Launch} {e : Env} {R : Room} {s : State} {m : MethodId} {args : Array Value} {below : List Frame} {meth : Method} {c : Code} {H : Heap} {locs : List Loc} {cells slots : Nat} {Q : State → Prop}
variable {mc ms : Nat} {free : Addr → Prop} {A0 A1 : Nat → Prop} {H0 : Heap} {a : Array Value} {pc : Nat} {ls : Array Slot} {st0 rest : List Value}
theorem vx_callq {S SX : Type} {post : Option Nat → S → Prop} {px : SX → Prop} {B : S → State → Prop} {BX : String → SX → State → Prop} {AX : Nat → Prop} (hr : vx_Run p l e R s m args below meth c H locs cells slots mc ms (F0 m pc ls st0) rest (va_Qq post B A1 a) (vx_X px BX AX) free) (hS : va_S A0 H0 H locs) (hA : ∀ q, q < H.size → A1 q → A0 q) (hf : ∀ q, free q → A0 q) (hAX : ∀ q, q < H.size → AX q → A0 q)
    (kx : ∀ (E : String) (ce : Cell) (q9 : Addr) (u : SX) (t : State) (H1 : Heap) (locs1 : List Loc), t.heap = H1 → s.vm.Alike t.vm → px u → BX E u t → H.size ≤ H1.size → (∀ q : Nat, q < H.size → ¬ AX q → H1[q]? = H[q]?) → va_S A0 H0 H1 locs1 → H1[q9]? = some ce → ce.vm = .none → s.vm.findClass E = some ce.cls → vx_W p l e R s m args below meth c H1 locs1 (cells + mc) (slots + ms) Q (F0 m pc ls rest) q9)
    (kk : ∀ (r : Option Nat) (u : S) (t : State) (H1 : Heap) (locs1 : List Loc), t.heap = H1 → s.vm.Alike t.vm → post r u → B u t → H.size ≤ H1.size → (∀ q : Nat, q < H.size → ¬ A1 q → H1[q]? = H[q]?) → va_S A0 H0 H1 locs1 → W p l e R s m args below meth c H1 locs1 (cells + mc) (slots + ms) Q (F0 m (pc + 3) ls (va_rf r :: rest))) : W p l e R s m args below meth c H locs cells slots Q (F0 m pc ls st0) := by
  intro T hT X
  rcases hr T hT X with ⟨v, st₀, t, T', L, h0, X', hL, e1, e2, ⟨⟨r, u, hv, hp, hb⟩, hF⟩, st⟩ | ⟨q, st₀, t, T', L, E, ce, h0, X', hL, e1, e2, ⟨u, hp, hb, hF⟩, hce, hcv, hcl, st⟩
  · cases hv
    obtain ⟨k1, k2, k3⟩ := vx_keep h0 e1 hS hA hf hL hF
    obtain ⟨t2, a1, b1⟩ := kk r u t T'.heap (locs ++ L) e1.symm (by rw [← e2]; exact X'.warmed.alike) hp hb k1 k2 k3 T' rfl X'
    exact ⟨t2, st t2 a1, b1⟩
  · obtain ⟨k1, k2, k3⟩ := vx_keep h0 e1 hS hAX hf hL hF
    obtain ⟨t2, a1, b1⟩ := kx E ce q u t T'.heap (locs ++ L) e1.symm (by rw [← e2]; exact X'.warmed.alike) hp hb k1 k2 k3 (by rw [e1]; exact hce) hcv hcl T' rfl X'
    exact ⟨t2, st.trans a1, b1⟩
end
end
section
/-! ===== methods of SharedForks that may throw ===== -/
abbrev xIO : String := "java/lang/IndexOutOfBoundsException"
abbrev xIS : String := "java/lang/IllegalStateException"
abbrev xIA : String := "java/lang/IllegalArgumentException"
abbrev xNs : List String := ["java/lang/RuntimeException", "java/lang/Exception"]
def cXw : List Cond := [.declares (Bundle.initS "java/lang/RuntimeException"), .declares (Bundle.initS "java/lang/Exception"), .declares (Bundle.initS Bundle.tN), .castable xIO xIO, .castable xIS xIS, .castable xIA xIA]
theorem cXw_warm {s U : State} (hW : s.WarmedH U.vm) (h : ∀ w ∈ cXw, va_Nw w s) : ∀ w ∈ cXw, va_Nw w U := by
  intro w hw
  have h1 := h w hw
  simp only [cXw, List.mem_cons, List.not_mem_nil, or_false] at hw
  rcases hw with rfl | rfl | rfl | rfl | rfl | rfl <;> first | exact va_Nw.warmD hW h1 | exact va_Nw.warmC hW h1
theorem cXw_same {u U : State} (hvm : u.vm = U.vm) (h : ∀ w ∈ cXw, va_Nw w u) : ∀ w ∈ cXw, va_Nw w U := by
  intro w hw
  have h1 := h w hw
  simp only [cXw, List.mem_cons, List.not_mem_nil, or_false] at hw
  rcases hw with rfl | rfl | rfl | rfl | rfl | rfl <;> exact va_Nw.same rfl hvm h1
/-- what a throw needs: words, texts, Throwable's two statics -/
def xE (sa : Nat → Nat) (A : Nat → Prop) (U : State) (H : Heap) : Prop :=
  (∀ w ∈ cXw, va_Nw w U) ∧ vk_R RX2 134 "there is no such number" (sa 0) U ∧ vk_R RX2 137 "there is no such fold" (sa 1) U ∧ vk_R RX2 141 "there are 12 folds" (sa 2) U ∧ vk_R RX2 88 "answers are 0 to 255" (sa 3) U ∧ vx_Zq Bundle.tN "UNASSIGNED_STACK" Bundle.steD A U H ∧ vx_Zq Bundle.tN "SUPPRESSED_SENTINEL" Bundle.listD A U H
def cUX (D : va_G) (I Z F : ClassId) (ad : Nat → Nat) (sa : Nat → Nat) (sz : Nat) (M : Nat → Nat → Int32) (U : State) : Prop := cU D I Z F ad sz M U ∧ xE sa (cA ad sz) U U.heap
section CMETX
variable {p : Program} {l : Launch} {e : Env} {R : Room} {s : State} {m : MethodId} {args : Array Value} {below : List Frame} {meth : Method} {c : Code} {H H0 : Heap} {locs : List Loc} {cells slots : Nat} {Q : State → Prop} {pc : Nat} {ls : Array Slot} {rest st0 : List Value} {A : Nat → Prop} {a : Array Value}
variable {D : va_G} {I Z F : ClassId} {ad : Nat → Nat} {sa : Nat → Nat} {M : Nat → Nat → Int32} {sz : Nat} {y : MethodName} {ws ws' : List Cond} {rm : Room} {cc : ByteArray} {maxL : Nat} {av : List Value}
theorem xE.at (h : xE sa A s s.heap) (hA : ∀ q : Nat, s.heap.size ≤ q → A q) (hDa : cD ad A) (hW : cB9 D I Z F ad A s.heap M H locs) : ∀ U : State, U.heap = H → s.WarmedH U.vm → xE sa (cA ad H.size) U U.heap := by
  intro U hU hW1
  obtain ⟨h1, h2, h3, h4, h5, h6, h7⟩ := h
  have hk : ∀ q : Nat, q < s.heap.size → ¬ A q → H[q]? = s.heap[q]? := hW.2.2.1
  have hs := hW.2.sub hA hDa
  rw [hU]
  exact ⟨cXw_warm hW1 h1, vk_R.warm hW1 h2, vk_R.warm hW1 h3, vk_R.warm hW1 h4, vk_R.warm hW1 h5, vx_Zq.moved hW1.alike ((h6.kept hk).narrow hs), vx_Zq.moved hW1.alike ((h7.kept hk).narrow hs)⟩
theorem cUX_blind : FrameBlind (va_Pc av (cUX D I Z F ad sa sz M)) := by
  rintro a U g mk ⟨h0, hU, h1, h2, h3, h4, h5, h6, h7⟩
  have hb := cU_blind (av := av) (sz := sz) a U g mk ⟨h0, hU⟩
  exact ⟨h0, hb.2, cXw_same (u := U) (U := U.calling g mk a) rfl h1, vk_R.same (u := U) (U := U.calling g mk a) rfl h2, vk_R.same (u := U) (U := U.calling g mk a) rfl h3, vk_R.same (u := U) (U := U.calling g mk a) rfl h4, vk_R.same (u := U) (U := U.calling g mk a) rfl h5, vx_Zq.moved (u := U) (U := U.calling g mk a) (Vm.Alike.refl U.vm) h6, vx_Zq.moved (u := U) (U := U.calling g mk a) (Vm.Alike.refl U.vm) h7⟩
theorem cUX_mk (hK : va_K D vwCl (cT I Z F) s) (hN : cN s) (hX : xE sa A s s.heap) (hA : ∀ q : Nat, s.heap.size ≤ q → A q) (hDa : cD ad A) (hW : cB9 D I Z F ad A s.heap M H locs) : ∀ U : State, U.heap = H → s.WarmedH U.vm → va_Pc av (cUX D I Z F ad sa H.size M) av.toArray U :=
  fun U hU hW1 => ⟨rfl, ((cU_mk (av := av) hK hN hW) U hU hW1).2, hX.at hA hDa hW U hU hW1⟩
theorem cx_preV {av : List Value} (hK : va_K D vwCl (cT I Z F) s) (hN : cN s) (hX : xE sa A s s.heap) (hA : ∀ q : Nat, s.heap.size ≤ q → A q) (hDa : cD ad A) (hW : cB9 D I Z F ad A s.heap M H locs) (i : Nat) (hi : i < 97) {ci : Nat} {fs : List Value} {C : String} {T : u_T} {N : Nat} (he : cE I Z F ad M i = .inr (ci, fs)) (hc : vwCl[ci]? = some (C, T, N)) : PreV s H C (ad i) (va_Pc (.ref (ad i) :: av) (cUX D I Z F ad sa H.size M)) av :=
  ⟨cUX_blind, cr_recv hK hW i hi he hc, cUX_mk hK hN hX hA hDa hW⟩
theorem cx_preS {av : List Value} (hK : va_K D vwCl (cT I Z F) s) (hN : cN s) (hX : xE sa A s s.heap) (hA : ∀ q : Nat, s.heap.size ≤ q → A q) (hDa : cD ad A) (hW : cB9 D I Z F ad A s.heap M H locs) : PreS s H (va_Pc av (cUX D I Z F ad sa H.size M)) av := ⟨cUX_blind, cUX_mk hK hN hX hA hDa hW⟩
/-- what is said where a method has thrown E: the cells are as they were -/
abbrev xQ (D : va_G) (I Z F : ClassId) (ad : Nat → Nat) (M : Nat → Nat → Int32) (sz : Nat) (XP : String → Prop) : String → State → State → Prop := vx_X (fun _ : Unit => True) (fun E _ t => XP E ∧ cP D I Z F ad M t.heap) (cA ad sz)
theorem xQ_here {XP : String → Prop} {E : String} (hsz : s.heap.size = sz) (hA9 : A = cA ad sz) (hW : cB9 D I Z F ad A s.heap M H locs) (hXP : XP E) : ∀ t : State, H.size ≤ t.heap.size → (∀ q : Nat, q < H.size → t.heap[q]? = H[q]?) → xQ D I Z F ad M sz XP E s t := by
  intro t h1 h2
  subst hA9
  refine ⟨(), trivial, ⟨hXP, hW.1.kept (fun k q hq => h2 q.1 (hW.1 k q hq).lt)⟩, Nat.le_trans hW.2.1 h1, fun q hq hn => ?_⟩
  rw [h2 q (Nat.lt_of_lt_of_le hq hW.2.1)]
  exact hW.2.2.1 q hq hn
/-- the ends of a method that may throw: a handler for 'throw new X(text)', one for what a callee threw -/
def xThr (D : va_G) (I Z F : ClassId) (ad : Nat → Nat) (sa : Nat → Nat) (M : Nat → Nat → Int32) (XP : String → Prop) (ws : List Cond) (C : String) (cc : ByteArray) (mc ms : Nat) (p : Program) (l : Launch) (e : Env) (rm : Room) (s : State) (m : MethodId) (args : Array Value) (below : List Frame) (meth : Method) (c : Code) (Q : State → Prop) (A : Nat → Prop) (nL : Nat) : Prop :=
  ∀ (pc : Nat) (ls : Array Slot) (H : Heap) (locs : List Loc) (cells slots : Nat) (cls text : String) (ik is ic a0 : Nat), XP cls → cB9 D I Z F ad A s.heap M H locs → ls.size = nL → cells + 1 ≤ mc → slots + 6 ≤ ms → Bundle.fit cls = true → Cond.classLink C ik cls ∈ ws → Cond.initialized cls ∈ ws → vk_R C is text a0 s → (∀ w ∈ (vx_atS C ic cls xNs).filter goodWord, w ∈ ws) → (∀ w ∈ (vx_atS C ic cls xNs).filter (fun w => !goodWord w), w ∈ cXw) → (∀ w ∈ Cond.classLink C ik cls :: Cond.initialized cls :: vx_atS C ic cls xNs, vx_ot w = true) →
    decode cc pc = .ok (.new ik, 3) → decode cc (pc + 3) = .ok (.dup, 1) → decode cc (pc + 4) = .ok (.ldc is, 2) → decode cc (pc + 6) = .ok (.invokespecial ic, 3) → decode cc (pc + 9) = .ok (.athrow, 1) → W p l e rm s m args below meth c H locs cells slots Q (F0 m pc ls [])
def xPrp (D : va_G) (I Z F : ClassId) (ad : Nat → Nat) (M : Nat → Nat → Int32) (XP : String → Prop) (mc ms : Nat) (p : Program) (l : Launch) (e : Env) (rm : Room) (s : State) (m : MethodId) (args : Array Value) (below : List Frame) (meth : Method) (c : Code) (Q : State → Prop) (A : Nat → Prop) : Prop :=
  ∀ (pc : Nat) (ls : Array Slot) (rest : List Value) (H : Heap) (locs : List Loc) (cells slots : Nat) (E : String) (ce : Cell) (q : Addr), XP E → cB9 D I Z F ad A s.heap M H locs → cells ≤ mc → slots ≤ ms → H[q]? = some ce → ce.vm = .none → s.vm.findClass E = some ce.cls → vx_W p l e rm s m args below meth c H locs cells slots Q (F0 m pc ls rest) q
theorem cMetX_body {Qc : Array Value → State → Outcome → State → Prop} {XP : String → Prop} {ret : Option FieldType} {mc ms : Nat} (hst : l.stackTraces = false) (hI : cI ad) (hy : plainName y.cls = true) (hw : ws = Cond.code y cc maxL ret :: ws') (hrm : rm.cells = mc ∧ rm.slots = ms ∧ 6 ≤ rm.frames ∧ 82 ≤ rm.locals) (C : String) (hC : y.cls = C) (hle : (lg_sl av).length ≤ maxL) {lv : List (Nat × Value)} (hlv : lv_args 0 av = lv)
    (body : ∀ (p : Program) (e : Env) (s : State) (m : MethodId) (args : Array Value) (below : List Frame) (meth : Method) (c : Code) (Q : State → Prop) (A : Nat → Prop) (ls : Array Slot), s.heap.size = sz → A = cA ad sz → meth.sig.returnType = ret → Q = vx_MQ below Qc (xQ D I Z F ad M sz XP) args s mc ms (cA ad sz) → cX p s m meth c args av D I Z F ad A ws C cc maxL → xE sa A s s.heap → cB9 D I Z F ad A s.heap M s.heap [] → lv_has ls maxL lv →
      xThr D I Z F ad sa M XP ws C cc mc ms p l e rm s m args below meth c Q A maxL → xPrp D I Z F ad M XP mc ms p l e rm s m args below meth c Q A →
      W p l e rm s m args below meth c s.heap [] 0 0 Q (F0 m 0 ls [])) :
    vx_Met l y ws rm (va_Pc av (cUX D I Z F ad sa sz M)) Qc (xQ D I Z F ad M sz XP) mc ms (cA ad sz) := by
  refine vx_ofW (cc := cc) (maxL := maxL) (ret := ret) hy hw ?_
  intro p e s m args below meth c s₁ B hml hno hv
  obtain ⟨hargs, ⟨hsz, hP, hK, hN⟩, hX⟩ := hv
  have hown : s.vm.findClass C = some m.cls := by rw [← hC]; exact findClass_of_methodNamed B.named
  have hl := lv_entry av (n := maxL) hle
  rw [hlv] at hl
  have he : entryFrame m args maxL = F0 m 0 ((lg_sl av ++ List.replicate (maxL - (lg_sl av).length) Slot.unset).toArray) [] := by rw [hargs]; exact lg_entry_eq m av maxL
  rw [he]
  have hts := atoms_spec (ws := ws) B.pre
  have hA0 : ∀ q : Nat, s.heap.size ≤ q → cA ad sz q := fun q h => Or.inr (by rw [← hsz]; exact h)
  have hout : ∀ pc : Nat, ∀ x ∈ c.exceptionTable.toList, covers x pc = false := fun pc x hx => (hno x hx).elim
  refine body p e s m args below meth c _ (cA ad sz) _ hsz rfl B.returns rfl ⟨B.exec, B.bytes, hml, hts, hown, B.notSynchronized, hK, hN, hI.d sz, hA0, hargs⟩ hX ⟨hP, va_S.rf⟩ hl ?_ ?_
  · intro pc ls H locs cells slots cls text ik is ic a0 hXP hW hlsz hc1 hs1 hfit hk hini hstr hg hb hgood d0 d3 d4 d6 d9
    obtain ⟨h1, h2, h3, h4, h5, h6, h7⟩ := hX
    refine vx_throwS (names := xNs) (A := cA ad sz) B.exec B.bytes hst hown hfit (by decide +kernel) (hts _ hk) (hts _ hini) hstr (vx_hat (fun w hw => hts w (hg w hw)) hb (fun w hw => va_Nw.use ?_ (h1 w hw))) hgood h6 h7 hW.2 (hlsz.trans hml.symm) d0 d3 d4 d6 d9 (hout _) (show xNs.length + 3 < rm.frames from hrm.2.2.1) (show 0 + (13 * (xNs.length + 1) + 43) ≤ rm.locals from hrm.2.2.2) (by show cells + 1 ≤ rm.cells; rw [hrm.1]; exact hc1) (by show slots + 6 ≤ rm.slots; rw [hrm.2.1]; exact hs1) B.notSynchronized (fun t _ h8 h9 => xQ_here hsz rfl hW hXP t h8 h9) hW.2.2.2 hc1 hs1
    simp only [cXw, List.mem_cons, List.not_mem_nil, or_false] at hw
    rcases hw with rfl | rfl | rfl | rfl | rfl | rfl <;> rfl
  · intro pc ls rest H locs cells slots E ce q hXP hW hc1 hs1 hq hv hcl
    exact vx_out (hout _) B.notSynchronized hq hv hcl (fun t ht _ => xQ_here hsz rfl hW hXP t (by rw [ht]; exact Nat.le_refl _) (fun q _ => by rw [ht])) hW.2.2.2 hc1 hs1
end CMETX
end
section
section CMETX2
variable {p : Program} {l : Launch} {e : Env} {R : Room} {s : State} {m : MethodId} {args : Array Value} {below : List Frame} {meth : Method} {c : Code} {H H0 : Heap} {locs : List Loc} {cells slots : Nat} {Q : State → Prop} {pc : Nat} {ls : Array Slot} {rest st0 : List Value} {A : Nat → Prop} {a : Array Value}
variable {D : va_G} {I Z F : ClassId} {ad : Nat → Nat} {sa : Nat → Nat} {M : Nat → Nat → Int32} {sz : Nat} {y : MethodName} {ws ws' : List Cond} {rm : Room} {cc : ByteArray} {maxL : Nat} {av : List Value}
theorem cMetX_i {post : Int32 → (Nat → Nat → Int32) → Prop} {XP : String → Prop} {mc ms : Nat} (hst : l.stackTraces = false) (hI : cI ad) (hy : plainName y.cls = true) (hw : ws = Cond.code y cc maxL (some .int) :: ws') (hrm : rm.cells = mc ∧ rm.slots = ms ∧ 6 ≤ rm.frames ∧ 82 ≤ rm.locals) (C : String) (hC : y.cls = C) (hle : (lg_sl av).length ≤ maxL) {lv : List (Nat × Value)} (hlv : lv_args 0 av = lv)
    (body : ∀ (p : Program) (e : Env) (s : State) (m : MethodId) (args : Array Value) (below : List Frame) (meth : Method) (c : Code) (Q : State → Prop) (A : Nat → Prop) (ls : Array Slot), s.heap.size = sz → cX p s m meth c args av D I Z F ad A ws C cc maxL → xE sa A s s.heap → cB9 D I Z F ad A s.heap M s.heap [] → lv_has ls maxL lv →
      (∀ (pc : Nat) (ls : Array Slot) (H : Heap) (locs : List Loc) (cells slots : Nat) (r : Int32) (u : Nat → Nat → Int32), decode cc pc = .ok (.ireturn, 1) → cells ≤ mc → slots ≤ ms → post r u → cB9 D I Z F ad A s.heap u H locs → W p l e rm s m args below meth c H locs cells slots Q (F0 m pc ls [.int r])) →
      xThr D I Z F ad sa M XP ws C cc mc ms p l e rm s m args below meth c Q A maxL → xPrp D I Z F ad M XP mc ms p l e rm s m args below meth c Q A →
      W p l e rm s m args below meth c s.heap [] 0 0 Q (F0 m 0 ls [])) :
    vx_Met l y ws rm (va_Pc av (cUX D I Z F ad sa sz M)) (va_Qi post (fun u t => cP D I Z F ad u t.heap) (cA ad sz)) (xQ D I Z F ad M sz XP) mc ms (cA ad sz) := by
  refine cMetX_body (ret := (some .int)) hst hI hy hw hrm C hC hle hlv ?_
  intro p e s m args below meth c Q A ls hsz hA9 hr hQ C0 hX hW hl hthr hprp
  refine body p e s m args below meth c Q A ls hsz C0 hX hW hl ?_ hthr hprp
  intro pc ls H locs cells slots r u hd hc1 hs1 hp hW
  obtain ⟨hx, hb, hml, hts, hown, hlocks, hK, hN, hDa, hA, hargs⟩ := C0
  rw [hQ]
  subst hA9
  have hF : ∀ t : State, t.heap = H → va_F (cA ad sz) s t := fun t ht => hW.2.F ht
  exact vx_ret (W.widen hc1 hs1 (W.iret (v := r) hx hb hr (fun t ht _ => ⟨⟨r, u, rfl, hp, by show cP D I Z F ad u t.heap; rw [ht]; exact hW.1⟩, hF t ht⟩) hW.2.2.2 hd))
theorem cMetX_z {post : Int32 → (Nat → Nat → Int32) → Prop} {XP : String → Prop} {mc ms : Nat} (hst : l.stackTraces = false) (hI : cI ad) (hy : plainName y.cls = true) (hw : ws = Cond.code y cc maxL (some .boolean) :: ws') (hrm : rm.cells = mc ∧ rm.slots = ms ∧ 6 ≤ rm.frames ∧ 82 ≤ rm.locals) (C : String) (hC : y.cls = C) (hle : (lg_sl av).length ≤ maxL) {lv : List (Nat × Value)} (hlv : lv_args 0 av = lv)
    (body : ∀ (p : Program) (e : Env) (s : State) (m : MethodId) (args : Array Value) (below : List Frame) (meth : Method) (c : Code) (Q : State → Prop) (A : Nat → Prop) (ls : Array Slot), s.heap.size = sz → cX p s m meth c args av D I Z F ad A ws C cc maxL → xE sa A s s.heap → cB9 D I Z F ad A s.heap M s.heap [] → lv_has ls maxL lv →
      (∀ (pc : Nat) (ls : Array Slot) (H : Heap) (locs : List Loc) (cells slots : Nat) (r : Int32) (u : Nat → Nat → Int32), decode cc pc = .ok (.ireturn, 1) → cells ≤ mc → slots ≤ ms → post r u → (r = 0 ∨ r = 1) → cB9 D I Z F ad A s.heap u H locs → W p l e rm s m args below meth c H locs cells slots Q (F0 m pc ls [.int r])) →
      xThr D I Z F ad sa M XP ws C cc mc ms p l e rm s m args below meth c Q A maxL → xPrp D I Z F ad M XP mc ms p l e rm s m args below meth c Q A →
      W p l e rm s m args below meth c s.heap [] 0 0 Q (F0 m 0 ls [])) :
    vx_Met l y ws rm (va_Pc av (cUX D I Z F ad sa sz M)) (va_Qi post (fun u t => cP D I Z F ad u t.heap) (cA ad sz)) (xQ D I Z F ad M sz XP) mc ms (cA ad sz) := by
  refine cMetX_body (ret := (some .boolean)) hst hI hy hw hrm C hC hle hlv ?_
  intro p e s m args below meth c Q A ls hsz hA9 hr hQ C0 hX hW hl hthr hprp
  refine body p e s m args below meth c Q A ls hsz C0 hX hW hl ?_ hthr hprp
  intro pc ls H locs cells slots r u hd hc1 hs1 hp h01 hW
  obtain ⟨hx, hb, hml, hts, hown, hlocks, hK, hN, hDa, hA, hargs⟩ := C0
  rw [hQ]
  subst hA9
  have hF : ∀ t : State, t.heap = H → va_F (cA ad sz) s t := fun t ht => hW.2.F ht
  exact vx_ret (W.widen hc1 hs1 (W.zret (v := r) (ty := .boolean) hx hb hr (by rcases h01 with rfl | rfl <;> rfl) (fun t ht _ => ⟨⟨r, u, rfl, hp, by show cP D I Z F ad u t.heap; rw [ht]; exact hW.1⟩, hF t ht⟩) hW.2.2.2 hd))
theorem cMetX_v {post : (Nat → Nat → Int32) → Prop} {XP : String → Prop} {mc ms : Nat} (hst : l.stackTraces = false) (hI : cI ad) (hy : plainName y.cls = true) (hw : ws = Cond.code y cc maxL none :: ws') (hrm : rm.cells = mc ∧ rm.slots = ms ∧ 6 ≤ rm.frames ∧ 82 ≤ rm.locals) (C : String) (hC : y.cls = C) (hle : (lg_sl av).length ≤ maxL) {lv : List (Nat × Value)} (hlv : lv_args 0 av = lv)
    (body : ∀ (p : Program) (e : Env) (s : State) (m : MethodId) (args : Array Value) (below : List Frame) (meth : Method) (c : Code) (Q : State → Prop) (A : Nat → Prop) (ls : Array Slot), s.heap.size = sz → cX p s m meth c args av D I Z F ad A ws C cc maxL → xE sa A s s.heap → cB9 D I Z F ad A s.heap M s.heap [] → lv_has ls maxL lv →
      (∀ (pc : Nat) (ls : Array Slot) (H : Heap) (locs : List Loc) (cells slots : Nat) (u : Nat → Nat → Int32), decode cc pc = .ok (.return_, 1) → cells ≤ mc → slots ≤ ms → post u → cB9 D I Z F ad A s.heap u H locs → W p l e rm s m args below meth c H locs cells slots Q (F0 m pc ls [])) →
      xThr D I Z F ad sa M XP ws C cc mc ms p l e rm s m args below meth c Q A maxL → xPrp D I Z F ad M XP mc ms p l e rm s m args below meth c Q A →
      W p l e rm s m args below meth c s.heap [] 0 0 Q (F0 m 0 ls [])) :
    vx_Met l y ws rm (va_Pc av (cUX D I Z F ad sa sz M)) (va_Qv post (fun u t => cP D I Z F ad u t.heap) (cA ad sz)) (xQ D I Z F ad M sz XP) mc ms (cA ad sz) := by
  refine cMetX_body (ret := none) hst hI hy hw hrm C hC hle hlv ?_
  intro p e s m args below meth c Q A ls hsz hA9 hr hQ C0 hX hW hl hthr hprp
  refine body p e s m args below meth c Q A ls hsz C0 hX hW hl ?_ hthr hprp
  intro pc ls H locs cells slots u hd hc1 hs1 hp hW
  obtain ⟨hx, hb, hml, hts, hown, hlocks, hK, hN, hDa, hA, hargs⟩ := C0
  rw [hQ]
  subst hA9
  have hF : ∀ t : State, t.heap = H → va_F (cA ad sz) s t := fun t ht => hW.2.F ht
  exact vx_ret (W.widen hc1 hs1 (W.vret hx hb hr (fun t ht _ => ⟨⟨u, rfl, hp, by show cP D I Z F ad u t.heap; rw [ht]; exact hW.1⟩, hF t ht⟩) hW.2.2.2 hd))
theorem cMetX_d {post : UInt64 → (Nat → Nat → Int32) → Prop} {XP : String → Prop} {mc ms : Nat} (hst : l.stackTraces = false) (hI : cI ad) (hy : plainName y.cls = true) (hw : ws = Cond.code y cc maxL (some .double) :: ws') (hrm : rm.cells = mc ∧ rm.slots = ms ∧ 6 ≤ rm.frames ∧ 82 ≤ rm.locals) (C : String) (hC : y.cls = C) (hle : (lg_sl av).length ≤ maxL) {lv : List (Nat × Value)} (hlv : lv_args 0 av = lv)
    (body : ∀ (p : Program) (e : Env) (s : State) (m : MethodId) (args : Array Value) (below : List Frame) (meth : Method) (c : Code) (Q : State → Prop) (A : Nat → Prop) (ls : Array Slot), s.heap.size = sz → cX p s m meth c args av D I Z F ad A ws C cc maxL → xE sa A s s.heap → cB9 D I Z F ad A s.heap M s.heap [] → lv_has ls maxL lv →
      (∀ (pc : Nat) (ls : Array Slot) (H : Heap) (locs : List Loc) (cells slots : Nat) (r : UInt64) (u : Nat → Nat → Int32), decode cc pc = .ok (.dreturn, 1) → cells ≤ mc → slots ≤ ms → post r u → cB9 D I Z F ad A s.heap u H locs → W p l e rm s m args below meth c H locs cells slots Q (F0 m pc ls [.double r])) →
      xThr D I Z F ad sa M XP ws C cc mc ms p l e rm s m args below meth c Q A maxL → xPrp D I Z F ad M XP mc ms p l e rm s m args below meth c Q A →
      W p l e rm s m args below meth c s.heap [] 0 0 Q (F0 m 0 ls [])) :
    vx_Met l y ws rm (va_Pc av (cUX D I Z F ad sa sz M)) (va_Qd post (fun u t => cP D I Z F ad u t.heap) (cA ad sz)) (xQ D I Z F ad M sz XP) mc ms (cA ad sz) := by
  refine cMetX_body (ret := (some .double)) hst hI hy hw hrm C hC hle hlv ?_
  intro p e s m args below meth c Q A ls hsz hA9 hr hQ C0 hX hW hl hthr hprp
  refine body p e s m args below meth c Q A ls hsz C0 hX hW hl ?_ hthr hprp
  intro pc ls H locs cells slots r u hd hc1 hs1 hp hW
  obtain ⟨hx, hb, hml, hts, hown, hlocks, hK, hN, hDa, hA, hargs⟩ := C0
  rw [hQ]
  subst hA9
  have hF : ∀ t : State, t.heap = H → va_F (cA ad sz) s t := fun t ht => hW.2.F ht
  exact vx_ret (W.widen hc1 hs1 (W.dret (v := r) hx hb hr (fun t ht _ => ⟨⟨r, u, rfl, hp, by show cP D I Z F ad u t.heap; rw [ht]; exact hW.1⟩, hF t ht⟩) hW.2.2.2 hd))
theorem cMetX_q {post : Option Nat → Nat → Prop} {XP : String → Prop} {mc ms : Nat} (hst : l.stackTraces = false) (hI : cI ad) (hy : plainName y.cls = true) (hw : ws = Cond.code y cc maxL (some (.object "SharedForks$Fold")) :: ws') (hrm : rm.cells = mc ∧ rm.slots = ms ∧ 6 ≤ rm.frames ∧ 82 ≤ rm.locals) (C : String) (hC : y.cls = C) (hle : (lg_sl av).length ≤ maxL) {lv : List (Nat × Value)} (hlv : lv_args 0 av = lv)
    (body : ∀ (p : Program) (e : Env) (s : State) (m : MethodId) (args : Array Value) (below : List Frame) (meth : Method) (c : Code) (Q : State → Prop) (A : Nat → Prop) (ls : Array Slot), s.heap.size = sz → cX p s m meth c args av D I Z F ad A ws C cc maxL → xE sa A s s.heap → cB9 D I Z F ad A s.heap M s.heap [] → lv_has ls maxL lv →
      (∀ (pc : Nat) (ls : Array Slot) (H : Heap) (locs : List Loc) (cells slots : Nat) (r : Nat) (k : Nat), decode cc pc = .ok (.areturn, 1) → cells ≤ mc → slots ≤ ms → post (some r) k → cB9 D I Z F ad A s.heap M H locs → W p l e rm s m args below meth c H locs cells slots Q (F0 m pc ls [.ref r])) →
      xThr D I Z F ad sa M XP ws C cc mc ms p l e rm s m args below meth c Q A maxL → xPrp D I Z F ad M XP mc ms p l e rm s m args below meth c Q A →
      W p l e rm s m args below meth c s.heap [] 0 0 Q (F0 m 0 ls [])) :
    vx_Met l y ws rm (va_Pc av (cUX D I Z F ad sa sz M)) (va_Qq post (fun (_ : Nat) t => cP D I Z F ad M t.heap) (cA ad sz)) (xQ D I Z F ad M sz XP) mc ms (cA ad sz) := by
  refine cMetX_body (ret := (some (.object "SharedForks$Fold"))) hst hI hy hw hrm C hC hle hlv ?_
  intro p e s m args below meth c Q A ls hsz hA9 hr hQ C0 hX hW hl hthr hprp
  refine body p e s m args below meth c Q A ls hsz C0 hX hW hl ?_ hthr hprp
  intro pc ls H locs cells slots r k hd hc1 hs1 hp hW
  obtain ⟨hx, hb, hml, hts, hown, hlocks, hK, hN, hDa, hA, hargs⟩ := C0
  rw [hQ]
  subst hA9
  have hF : ∀ t : State, t.heap = H → va_F (cA ad sz) s t := fun t ht => hW.2.F ht
  exact vx_ret (W.widen hc1 hs1 (W.aret (v := .ref r) hx hb hr (Or.inl ⟨_, rfl⟩) (Or.inr ⟨_, rfl⟩) (fun t ht _ => ⟨⟨some r, k, rfl, hp, by show cP D I Z F ad M t.heap; rw [ht]; exact hW.1⟩, hF t ht⟩) hW.2.2.2 hd))
/-- a call of a method that may throw: what it throws goes on to the caller's caller -/
theorem cx_calli {post : Int32 → (Nat → Nat → Int32) → Prop} {XP : String → Prop} {mc ms : Nat} (hr : vx_Run p l e R s m args below meth c H locs cells slots mc ms (F0 m pc ls st0) rest (va_Qi post (fun u t => cP D I Z F ad u t.heap) (cA ad H.size) a) (xQ D I Z F ad M H.size XP) (cA ad H.size)) (hA : ∀ q : Nat, H0.size ≤ q → A q) (hDa : cD ad A) (hW : cB9 D I Z F ad A H0 M H locs)
    (kx : ∀ (E : String) (ce : Cell) (q : Addr) (H1 : Heap) (locs1 : List Loc), XP E → cB9 D I Z F ad A H0 M H1 locs1 → H1[q]? = some ce → ce.vm = .none → s.vm.findClass E = some ce.cls → vx_W p l e R s m args below meth c H1 locs1 (cells + mc) (slots + ms) Q (F0 m pc ls rest) q)
    (kk : ∀ (r : Int32) (u : Nat → Nat → Int32) (H1 : Heap) (locs1 : List Loc), post r u → cB9 D I Z F ad A H0 u H1 locs1 → W p l e R s m args below meth c H1 locs1 (cells + mc) (slots + ms) Q (F0 m (pc + 3) ls (.int r :: rest))) : W p l e R s m args below meth c H locs cells slots Q (F0 m pc ls st0) :=
  vx_calli hr hW.2 (fun q _ h => hW.2.sub hA hDa q h) (hW.2.sub hA hDa) (fun q _ h => hW.2.sub hA hDa q h) (fun E ce q9 u t H1 locs1 ht _ _ hB _ _ hS h1 h2 h3 => kx E ce q9 H1 locs1 hB.1 ⟨by rw [← ht]; exact hB.2, hS⟩ h1 h2 h3) (fun r u t H1 locs1 ht _ hp hB _ _ hS => kk r u H1 locs1 hp ⟨by rw [← ht]; exact hB, hS⟩)
theorem cx_calld {post : UInt64 → (Nat → Nat → Int32) → Prop} {XP : String → Prop} {mc ms : Nat} (hr : vx_Run p l e R s m args below meth c H locs cells slots mc ms (F0 m pc ls st0) rest (va_Qd post (fun u t => cP D I Z F ad u t.heap) (cA ad H.size) a) (xQ D I Z F ad M H.size XP) (cA ad H.size)) (hA : ∀ q : Nat, H0.size ≤ q → A q) (hDa : cD ad A) (hW : cB9 D I Z F ad A H0 M H locs)
    (kx : ∀ (E : String) (ce : Cell) (q : Addr) (H1 : Heap) (locs1 : List Loc), XP E → cB9 D I Z F ad A H0 M H1 locs1 → H1[q]? = some ce → ce.vm = .none → s.vm.findClass E = some ce.cls → vx_W p l e R s m args below meth c H1 locs1 (cells + mc) (slots + ms) Q (F0 m pc ls rest) q)
    (kk : ∀ (r : UInt64) (u : Nat → Nat → Int32) (H1 : Heap) (locs1 : List Loc), post r u → cB9 D I Z F ad A H0 u H1 locs1 → W p l e R s m args below meth c H1 locs1 (cells + mc) (slots + ms) Q (F0 m (pc + 3) ls (.double r :: rest))) : W p l e R s m args below meth c H locs cells slots Q (F0 m pc ls st0) :=
  vx_calld hr hW.2 (fun q _ h => hW.2.sub hA hDa q h) (hW.2.sub hA hDa) (fun q _ h => hW.2.sub hA hDa q h) (fun E ce q9 u t H1 locs1 ht _ _ hB _ _ hS h1 h2 h3 => kx E ce q9 H1 locs1 hB.1 ⟨by rw [← ht]; exact hB.2, hS⟩ h1 h2 h3) (fun r u t H1 locs1 ht _ hp hB _ _ hS => kk r u H1 locs1 hp ⟨by rw [← ht]; exact hB, hS⟩)
theorem cx_callv {post : (Nat → Nat → Int32) → Prop} {XP : String → Prop} {mc ms : Nat} (hr : vx_Run p l e R s m args below meth c H locs cells slots mc ms (F0 m pc ls st0) rest (va_Qv post (fun u t => cP D I Z F ad u t.heap) (cA ad H.size) a) (xQ D I Z F ad M H.size XP) (cA ad H.size)) (hA : ∀ q : Nat, H0.size ≤ q → A q) (hDa : cD ad A) (hW : cB9 D I Z F ad A H0 M H locs)
    (kx : ∀ (E : String) (ce : Cell) (q : Addr) (H1 : Heap) (locs1 : List Loc), XP E → cB9 D I Z F ad A H0 M H1 locs1 → H1[q]? = some ce → ce.vm = .none → s.vm.findClass E = some ce.cls → vx_W p l e R s m args below meth c H1 locs1 (cells + mc) (slots + ms) Q (F0 m pc ls rest) q)
    (kk : ∀  (u : Nat → Nat → Int32) (H1 : Heap) (locs1 : List Loc), post u → cB9 D I Z F ad A H0 u H1 locs1 → W p l e R s m args below meth c H1 locs1 (cells + mc) (slots + ms) Q (F0 m (pc + 3) ls (rest))) : W p l e R s m args below meth c H locs cells slots Q (F0 m pc ls st0) :=
  vx_callv hr hW.2 (fun q _ h => hW.2.sub hA hDa q h) (hW.2.sub hA hDa) (fun q _ h => hW.2.sub hA hDa q h) (fun E ce q9 u t H1 locs1 ht _ _ hB _ _ hS h1 h2 h3 => kx E ce q9 H1 locs1 hB.1 ⟨by rw [← ht]; exact hB.2, hS⟩ h1 h2 h3) (fun u t H1 locs1 ht _ hp hB _ _ hS => kk u H1 locs1 hp ⟨by rw [← ht]; exact hB, hS⟩)
theorem cx_callq {post : Option Nat → Nat → Prop} {XP : String → Prop} {mc ms : Nat} (hr : vx_Run p l e R s m args below meth c H locs cells slots mc ms (F0 m pc ls st0) rest (va_Qq post (fun (_ : Nat) t => cP D I Z F ad M t.heap) (cA ad H.size) a) (xQ D I Z F ad M H.size XP) (cA ad H.size)) (hA : ∀ q : Nat, H0.size ≤ q → A q) (hDa : cD ad A) (hW : cB9 D I Z F ad A H0 M H locs)
    (kx : ∀ (E : String) (ce : Cell) (q : Addr) (H1 : Heap) (locs1 : List Loc), XP E → cB9 D I Z F ad A H0 M H1 locs1 → H1[q]? = some ce → ce.vm = .none → s.vm.findClass E = some ce.cls → vx_W p l e R s m args below meth c H1 locs1 (cells + mc) (slots + ms) Q (F0 m pc ls rest) q)
    (kk : ∀ (r : Option Nat) (k : Nat) (H1 : Heap) (locs1 : List Loc), post r k → cB9 D I Z F ad A H0 M H1 locs1 → W p l e R s m args below meth c H1 locs1 (cells + mc) (slots + ms) Q (F0 m (pc + 3) ls (va_rf r :: rest))) : W p l e R s m args below meth c H locs cells slots Q (F0 m pc ls st0) :=
  vx_callq hr hW.2 (fun q _ h => hW.2.sub hA hDa q h) (hW.2.sub hA hDa) (fun q _ h => hW.2.sub hA hDa q h) (fun E ce q9 u t H1 locs1 ht _ _ hB _ _ hS h1 h2 h3 => kx E ce q9 H1 locs1 hB.1 ⟨by rw [← ht]; exact hB.2, hS⟩ h1 h2 h3) (fun r k t H1 locs1 ht _ hp hB _ _ hS => kk r k H1 locs1 hp ⟨by rw [← ht]; exact hB, hS⟩)
end CMETX2
end
section
abbrev rm_checkBelow : Room := { frames := 8, cells := 1, slots := 6, locals := 100 }
set_option maxHeartbeats 4000000 in
set_option maxRecDepth 100000 in
/-- a number is looked at -/
theorem c_checkBelow (l : Launch) (hst : l.stackTraces = false) (D : va_G) (I Z F : ClassId) (ad sa : Nat → Nat) (hI : cI ad) (M : Nat → Nat → Int32) (sz : Nat) (x bd : Int32) : vx_Met l yX2_checkBelow wsX2_checkBelow rm_checkBelow (va_Pc [.int x, .int bd] (cUX D I Z F ad sa sz M)) (va_Qv (fun (u : Nat → Nat → Int32) => u = M ∧ ¬ x < 0 ∧ x < bd) (fun u t => cP D I Z F ad u t.heap) (cA ad sz)) (xQ D I Z F ad M sz (fun E => E = xIO ∧ (x < 0 ∨ bd ≤ x))) 1 6 (cA ad sz) := by
  refine cMetX_v (cc := cX2_checkBelow) (maxL := 2) hst hI (by decide) rfl ⟨rfl, rfl, by decide, by decide⟩ RX2 rfl (Nat.le_of_ble_eq_true rfl) (lv := [(0, .int x), (1, .int bd)]) rfl ?_
  intro p e s m args below meth c Q A ls hsz C0 hX hW hl hret hthr hprp
  obtain ⟨hx, hb, hml, hts, hown, hlocks, hK, hN, hDa, hA, hargs⟩ := C0
  refine lv_iload_n hx hb dX2_checkBelow_0 rfl (lv_at hl 0 rfl) ?_
  refine lv_if_lt (tgt := 9) hx hb dX2_checkBelow_1 (by decide) (fun c1 => ?_) (fun c1 => ?_)
  · skip
    exact hthr 9 ls _ _ 0 0 "java/lang/IndexOutOfBoundsException" _ 132 134 136 _ (⟨rfl, Or.inl c1⟩) hW hl.1 (by decide) (by decide) (by decide +kernel) (by decide +kernel) (by decide +kernel) hX.2.1 (by decide +kernel) (by decide +kernel) (by decide +kernel) dX2_checkBelow_9 dX2_checkBelow_12 dX2_checkBelow_13 dX2_checkBelow_15 dX2_checkBelow_18
  · skip
    refine lv_iload_n hx hb dX2_checkBelow_4 rfl (lv_at hl 0 rfl) ?_
    refine lv_iload_n hx hb dX2_checkBelow_5 rfl (lv_at hl 1 rfl) ?_
    refine lv_icmp_lt (tgt := 19) hx hb dX2_checkBelow_6 (by decide) (fun c2 => ?_) (fun c2 => ?_)
    · skip
      exact hret 19 ls _ _ 0 0 _ dX2_checkBelow_19 (by decide) (by decide) ⟨rfl, c1, c2⟩ hW
    · skip
      exact hthr 9 ls _ _ 0 0 "java/lang/IndexOutOfBoundsException" _ 132 134 136 _ (⟨rfl, Or.inr (Int32.not_lt.mp c2)⟩) hW hl.1 (by decide) (by decide) (by decide +kernel) (by decide +kernel) (by decide +kernel) hX.2.1 (by decide +kernel) (by decide +kernel) (by decide +kernel) dX2_checkBelow_9 dX2_checkBelow_12 dX2_checkBelow_13 dX2_checkBelow_15 dX2_checkBelow_18

/-- there is a fold with the number x: it is k -/
def fdOk (M : Nat → Nat → Int32) (x : Int32) (k : Nat) : Prop := k < 12 ∧ x = nI k ∧ ¬ M (25 + 6 * k) 0 = 0
theorem fdOk_no {M : Nat → Nat → Int32} {x : Int32} (h : x < 0 ∨ 12 ≤ x) : ¬ ∃ k, fdOk M x k := by
  rintro ⟨k, hk, rfl, -⟩
  rcases h with h | h
  · exact nI_pos (by omega) h
  · exact nI_ge (a := k) (b := 12) hk (by decide) h
theorem fdOk_un {M : Nat → Nat → Int32} {x : Int32} {k j : Nat} (h : fdOk M x k) (h2 : fdOk M x j) : k = j := (nI_eq (by have := h.1; omega) (by have := h2.1; omega)).mp (h.2.1.symm.trans h2.2.1)
theorem x12 {x : Int32} (h0 : ¬ x < 0) (h1 : ¬ 12 ≤ x) : ∃ k : Nat, k < 12 ∧ x = nI k := part_of (n := 12) (by decide) h0 h1
abbrev rm_foldAt : Room := { frames := 8, cells := 1, slots := 6, locals := 100 }
set_option maxHeartbeats 4000000 in
set_option maxRecDepth 100000 in
/-- a fold by its number -/
theorem c_foldAt (l : Launch) (hst : l.stackTraces = false) (D : va_G) (I Z F : ClassId) (ad sa : Nat → Nat) (hI : cI ad) (M : Nat → Nat → Int32) (sz : Nat) (x : Int32) : vx_Met l yX2_foldAt wsX2_foldAt rm_foldAt (va_Pc [.ref (ad 0), .int x] (cUX D I Z F ad sa sz M)) (va_Qq (fun (r : Option Nat) (k : Nat) => fdOk M x k ∧ r = some (ad (25 + 6 * k))) (fun (_ : Nat) t => cP D I Z F ad M t.heap) (cA ad sz)) (xQ D I Z F ad M sz (fun E => E = xIO ∧ ¬ ∃ k, fdOk M x k)) 1 6 (cA ad sz) := by
  refine cMetX_q (cc := cX2_foldAt) (maxL := 2) hst hI (by decide) rfl ⟨rfl, rfl, by decide, by decide⟩ RX2 rfl (Nat.le_of_ble_eq_true rfl) (lv := [(0, .ref (ad 0)), (1, .int x)]) rfl ?_
  intro p e s m args below meth c Q A ls hsz C0 hX hW hl hret hthr hprp
  obtain ⟨hx, hb, hml, hts, hown, hlocks, hK, hN, hDa, hA, hargs⟩ := C0
  have hin2 : ∀ w ∈ u_ws RX2 TX2 6, w ∈ wsX2_foldAt := by decide +kernel
  have hin0 : ∀ w ∈ u_ws RX0 TX0 7, w ∈ wsX2_foldAt := by decide +kernel
  refine lv_iload_n hx hb dX2_foldAt_0 rfl (lv_at hl 1 rfl) ?_
  refine lv_if_lt (tgt := 22) hx hb dX2_foldAt_1 (by decide) (fun c1 => ?_) (fun c1 => ?_)
  · skip
    exact hthr 22 ls _ _ 0 0 "java/lang/IndexOutOfBoundsException" _ 132 137 136 _ (⟨rfl, fdOk_no (Or.inl c1)⟩) hW hl.1 (by decide) (by decide) (by decide +kernel) (by decide +kernel) (by decide +kernel) hX.2.2.1 (by decide +kernel) (by decide +kernel) (by decide +kernel) dX2_foldAt_22 dX2_foldAt_25 dX2_foldAt_26 dX2_foldAt_28 dX2_foldAt_31
  · skip
    refine lv_iload_n hx hb dX2_foldAt_4 rfl (lv_at hl 1 rfl) ?_
    refine lv_bipush (v := 12) hx hb dX2_foldAt_5 (by decide) ?_
    refine lv_icmp_ge (tgt := 22) hx hb dX2_foldAt_7 (by decide) (fun c2 => ?_) (fun c2 => ?_)
    · skip
      exact hthr 22 ls _ _ 0 0 "java/lang/IndexOutOfBoundsException" _ 132 137 136 _ (⟨rfl, fdOk_no (Or.inr c2)⟩) hW hl.1 (by decide) (by decide) (by decide +kernel) (by decide +kernel) (by decide +kernel) hX.2.2.1 (by decide +kernel) (by decide +kernel) (by decide +kernel) dX2_foldAt_22 dX2_foldAt_25 dX2_foldAt_26 dX2_foldAt_28 dX2_foldAt_31
    · skip
      obtain ⟨k, hk, rfl⟩ := x12 c1 c2
      refine lv_aload_n hx hb dX2_foldAt_10 rfl (lv_at hl 0 rfl) ?_
      refine cr_get (v := .ref (ad 1)) hx hb hts hin2 hown hK hW 0 (by decide) (cE_x I Z F ad M) rfl 0 (by decide) rfl (by decide +kernel) rfl dX2_foldAt_11 ?_
      refine lv_iload_n hx hb dX2_foldAt_14 rfl (lv_at hl 1 rfl) ?_
      refine cr_fald hx hb hK hW k hk rfl dX2_foldAt_15 ?_
      refine cr_getN (v := .int (M (25 + 6 * k) 0)) (host := "SharedForks") hx hb hts hin0 hown hK hW (25 + 6 * k) (by omega) (cE_d0 I Z F ad M k) rfl 0 (by decide) rfl hN (by decide +kernel) rfl dX2_foldAt_16 ?_
      refine lv_if_ne (tgt := 32) hx hb dX2_foldAt_19 (by decide) (fun c3 => ?_) (fun c3 => ?_)
      · skip
        refine lv_aload_n hx hb dX2_foldAt_32 rfl (lv_at hl 0 rfl) ?_
        refine cr_get (v := .ref (ad 1)) hx hb hts hin2 hown hK hW 0 (by decide) (cE_x I Z F ad M) rfl 0 (by decide) rfl (by decide +kernel) rfl dX2_foldAt_33 ?_
        refine lv_iload_n hx hb dX2_foldAt_36 rfl (lv_at hl 1 rfl) ?_
        refine cr_fald hx hb hK hW k hk rfl dX2_foldAt_37 ?_
        exact hret 38 ls _ _ 0 0 _ k dX2_foldAt_38 (by decide) (by decide) ⟨⟨hk, rfl, c3⟩, rfl⟩ hW
      · skip
        exact hthr 22 ls _ _ 0 0 "java/lang/IndexOutOfBoundsException" _ 132 137 136 _ (⟨rfl, fun ⟨j, hj, e, h⟩ => by have := (nI_eq (a := k) (b := j) (by omega) (by omega)).mp e; subst this; exact h c3⟩) hW hl.1 (by decide) (by decide) (by decide +kernel) (by decide +kernel) (by decide +kernel) hX.2.2.1 (by decide +kernel) (by decide +kernel) (by decide +kernel) dX2_foldAt_22 dX2_foldAt_25 dX2_foldAt_26 dX2_foldAt_28 dX2_foldAt_31

/-- the smallest number that is free -/
def frOk (M : Nat → Nat → Int32) (f : Nat) : Prop := f < 12 ∧ M (25 + 6 * f) 0 = 0 ∧ ∀ g : Nat, g < f → ¬ M (25 + 6 * g) 0 = 0
def frNo (M : Nat → Nat → Int32) : Prop := ∀ g : Nat, g < 12 → ¬ M (25 + 6 * g) 0 = 0
abbrev rm_freeNumber : Room := { frames := 8, cells := 1, slots := 6, locals := 100 }
set_option maxHeartbeats 4000000 in
set_option maxRecDepth 100000 in
/-- the smallest number that is free -/
theorem c_freeNumber (l : Launch) (hst : l.stackTraces = false) (D : va_G) (I Z F : ClassId) (ad sa : Nat → Nat) (hI : cI ad) (M : Nat → Nat → Int32) (sz : Nat)  : vx_Met l yX2_freeNumber wsX2_freeNumber rm_freeNumber (va_Pc [.ref (ad 0)] (cUX D I Z F ad sa sz M)) (va_Qi (fun (r : Int32) (u : Nat → Nat → Int32) => u = M ∧ ∃ f : Nat, frOk M f ∧ r = nI f) (fun u t => cP D I Z F ad u t.heap) (cA ad sz)) (xQ D I Z F ad M sz (fun E => E = xIS ∧ frNo M)) 1 6 (cA ad sz) := by
  refine cMetX_i (cc := cX2_freeNumber) (maxL := 2) hst hI (by decide) rfl ⟨rfl, rfl, by decide, by decide⟩ RX2 rfl (Nat.le_of_ble_eq_true rfl) (lv := [(0, .ref (ad 0))]) rfl ?_
  intro p e s m args below meth c Q A ls hsz C0 hX hW hl hret hthr hprp
  obtain ⟨hx, hb, hml, hts, hown, hlocks, hK, hN, hDa, hA, hargs⟩ := C0
  have hin2 : ∀ w ∈ u_ws RX2 TX2 6, w ∈ wsX2_freeNumber := by decide +kernel
  have hin0 : ∀ w ∈ u_ws RX0 TX0 7, w ∈ wsX2_freeNumber := by decide +kernel
  refine lv_iconst (v := 0) hx hb dX2_freeNumber_0 (by decide) ?_
  refine lv_istore_n (lv' := [(1, .int 0), (0, .ref (ad 0))]) hx hb dX2_freeNumber_1 rfl hl (by decide) rfl (fun ls hl => ?_)
  have loop : ∀ q i : Nat, i + q = 12 → (∀ g : Nat, g < i → ¬ M (25 + 6 * g) 0 = 0) → ∀ (ls : Array Slot), lv_has ls 2 [(1, .int (nI i)), (0, .ref (ad 0))] → W p l e rm_freeNumber s m args below meth c s.heap [] 0 0 Q (F0 m 2 ls []) := by
    intro q
    induction q with
    | zero =>
      intro i hi hg ls hl
      obtain rfl : i = 12 := by omega
      refine lv_iload_n hx hb dX2_freeNumber_2 rfl (lv_at hl 0 rfl) ?_
      refine lv_bipush (v := 12) hx hb dX2_freeNumber_3 (by decide) ?_
      refine lv_icmp_ge (tgt := 28) hx hb dX2_freeNumber_5 (by decide) (fun c1 => ?_) (fun c1 => ?_)
      · skip
        exact hthr 28 ls _ _ 0 0 "java/lang/IllegalStateException" _ 139 141 143 _ (⟨rfl, hg⟩) hW hl.1 (by decide) (by decide) (by decide +kernel) (by decide +kernel) (by decide +kernel) hX.2.2.2.1 (by decide +kernel) (by decide +kernel) (by decide +kernel) dX2_freeNumber_28 dX2_freeNumber_31 dX2_freeNumber_32 dX2_freeNumber_34 dX2_freeNumber_37
      · exact absurd (nI_le (Nat.le_refl 12) (by decide)) c1
    | succ q ih =>
      intro i hi hg ls hl
      refine lv_iload_n hx hb dX2_freeNumber_2 rfl (lv_at hl 0 rfl) ?_
      refine lv_bipush (v := 12) hx hb dX2_freeNumber_3 (by decide) ?_
      refine lv_icmp_ge (tgt := 28) hx hb dX2_freeNumber_5 (by decide) (fun c1 => ?_) (fun c1 => ?_)
      · exact absurd c1 (nI_ge (b := 12) (by omega) (by decide))
      · skip
        refine lv_aload_n hx hb dX2_freeNumber_8 rfl (lv_at hl 1 rfl) ?_
        refine cr_get (v := .ref (ad 1)) hx hb hts hin2 hown hK hW 0 (by decide) (cE_x I Z F ad M) rfl 0 (by decide) rfl (by decide +kernel) rfl dX2_freeNumber_9 ?_
        refine lv_iload_n hx hb dX2_freeNumber_12 rfl (lv_at hl 0 rfl) ?_
        refine cr_fald hx hb hK hW i (by omega) rfl dX2_freeNumber_13 ?_
        refine cr_getN (v := .int (M (25 + 6 * i) 0)) (host := "SharedForks") hx hb hts hin0 hown hK hW (25 + 6 * i) (by omega) (cE_d0 I Z F ad M i) rfl 0 (by decide) rfl hN (by decide +kernel) rfl dX2_freeNumber_14 ?_
        refine lv_if_ne (tgt := 22) hx hb dX2_freeNumber_17 (by decide) (fun c2 => ?_) (fun c2 => ?_)
        · skip
          refine lv_iinc (v := nI (i + 1)) (lv' := [(1, .int (nI (i + 1))), (0, .ref (ad 0))]) hx hb dX2_freeNumber_22 hl (k := 0) rfl (nI_1 i) (by decide) rfl (fun ls hl => ?_)
          refine lv_goto (tgt := 2) hx hb dX2_freeNumber_25 (by decide) ?_
          exact ih (i + 1) (by omega) (fun g hg1 => by rcases Nat.lt_succ_iff_lt_or_eq.mp hg1 with h | rfl; exact hg g h; exact c2) ls (lv_sub hl [0, 1] rfl)
        · skip
          refine lv_iload_n hx hb dX2_freeNumber_20 rfl (lv_at hl 0 rfl) ?_
          exact hret 21 ls _ _ 0 0 _ _ dX2_freeNumber_21 (by decide) (by decide) ⟨rfl, i, ⟨by omega, c2, hg⟩, rfl⟩ hW
  exact loop 12 0 (by decide) (fun g h => absurd h (Nat.not_lt_zero _)) ls (lv_sub hl [0, 1] rfl)
end
section
/-! ===== new folds ===== -/
/-- the fold f, which was free, says T; all is laid anew -/
def nwF (M : Nat → Nat → Int32) (f : Nat) (T : Nat → Int32) : Nat → Nat → Int32 := laF (mst (flC M (25 + 6 * f + 1) T 256) (25 + 6 * f) 0 1)
def ysOk (M : Nat → Nat → Int32) : Prop := ∀ f : Nat, f < 12 → ∀ j : Nat, j < 256 → M (25 + 6 * f + 1) j = 0 ∨ M (25 + 6 * f + 1) j = 1
def ksOk (M : Nat → Nat → Int32) : Prop := ∀ f : Nat, f < 12 → M (25 + 6 * f) 0 = 0 ∨ M (25 + 6 * f) 0 = 1
def rwsOk (M : Nat → Nat → Int32) (n : Nat) : Prop := n ≤ 626 ∧ M 3 0 = nI n ∧ ∀ f : Nat, f < 12 → ¬ M (25 + 6 * f) 0 = 0 → ∃ z : Nat, z ≤ 77 ∧ M (25 + 6 * f) 2 = nI z ∧ ∀ i : Nat, i < z → ∃ k : Nat, k < n ∧ M (25 + 6 * f + 2) i = nI k
/-- what may be thrown: a wrong argument first, then too many folds -/
def xpN (M : Nat → Nat → Int32) (ok : Prop) (E : String) : Prop := (E = xIO ∧ ¬ ok) ∨ (E = xIS ∧ ok ∧ frNo M)
def inB (x : Int32) (n : Nat) : Prop := ∃ k : Nat, k < n ∧ x = nI k
theorem inB_no {x : Int32} {n : Nat} (hn : n < 2 ^ 31) (h : x < 0 ∨ nI n ≤ x) : ¬ inB x n := by
  rintro ⟨k, hk, rfl⟩
  rcases h with h | h
  · exact nI_pos (by omega) h
  · exact nI_ge hk hn h
theorem inB_of {x : Int32} {n : Nat} (hn : n ≤ 626) (h0 : ¬ x < 0) (h1 : x < nI n) : inB x n := part_of hn h0 (Int32.not_le.mpr h1)
def chT (M : Nat → Nat → Int32) (ka kb kc : Nat) : Nat → Int32 := fun j => if M (25 + 6 * ka + 1) j = 0 then M (25 + 6 * kc + 1) j else M (25 + 6 * kb + 1) j
def gvT (M : Nat → Nat → Int32) (k : Nat) (q y : Int32) : Nat → Int32 := fun j => M (25 + 6 * k + 1) (waF (nI j) q y).toNatClampNeg
def woT (M : Nat → Nat → Int32) (k : Nat) (q y : Int32) : Nat → Int32 := fun j => if y = 0 then b2 (¬ M (25 + 6 * k + 1) (waF (nI j) q 0).toNatClampNeg = 0 ∨ ¬ M (25 + 6 * k + 1) (waF (nI j) q 1).toNatClampNeg = 0) else b2 (¬ M (25 + 6 * k + 1) (waF (nI j) q 0).toNatClampNeg = 0 ∧ ¬ M (25 + 6 * k + 1) (waF (nI j) q 1).toNatClampNeg = 0)
theorem waF_in0 : ∀ q : Nat, q < 8 → ∀ j : Nat, j < 256 → ¬ waF (nI j) (nI q) 0 < 0 ∧ waF (nI j) (nI q) 0 ≤ 255 ∧ ¬ waF (nI j) (nI q) 1 < 0 ∧ waF (nI j) (nI q) 1 ≤ 255 := by decide +kernel
theorem waF_in (q : Nat) (hq : q < 8) (j : Nat) (hj : j < 256) (y : Int32) : ∃ a : Nat, a < 256 ∧ waF (nI j) (nI q) y = nI a := by
  obtain ⟨h1, h2, h3, h4⟩ := waF_in0 q hq j hj
  have key : ∀ x : Int32, ¬ x < 0 → x ≤ 255 → ∃ a : Nat, a < 256 ∧ x = nI a := fun x a b => by
    obtain ⟨k, hk, e⟩ := nI_of2 (M := 255) (n := 255) rfl a b
    exact ⟨k, by omega, e⟩
  by_cases hy : y = 0
  · subst hy; exact key _ h1 h2
  · have e : waF (nI j) (nI q) y = waF (nI j) (nI q) 1 := by rw [waF, waF, if_neg hy, if_neg (by decide)]
    rw [e]; exact key _ h3 h4
theorem frOk_ne {M : Nat → Nat → Int32} {f k : Nat} (hf : frOk M f) (hk : ¬ M (25 + 6 * k) 0 = 0) : f ≠ k := fun h => hk (h ▸ hf.2.1)
end
section
abbrev rm_leaf : Room := { frames := 14, cells := 1, slots := 6, locals := 800 }
set_option maxHeartbeats 4000000 in
set_option maxRecDepth 100000 in
/-- a new fold that says the same to all -/
theorem c_leaf (l : Launch) (hst : l.stackTraces = false) (D : va_G) (I Z F : ClassId) (ad sa : Nat → Nat) (hI : cI ad) (M : Nat → Nat → Int32) (sz : Nat) (y : Int32) (hy : y = 0 ∨ y = 1) : vx_Met l yX2_leaf wsX2_leaf rm_leaf (va_Pc [.ref (ad 0), .int y] (cUX D I Z F ad sa sz M)) (va_Qi (fun (r : Int32) (u : Nat → Nat → Int32) => ∃ f : Nat, frOk M f ∧ r = nI f ∧ u = nwF M f (fun _ => y)) (fun u t => cP D I Z F ad u t.heap) (cA ad sz)) (xQ D I Z F ad M sz (fun E => E = xIS ∧ frNo M)) 1 6 (cA ad sz) := by
  refine cMetX_i (cc := cX2_leaf) (maxL := 5) hst hI (by decide) rfl ⟨rfl, rfl, by decide, by decide⟩ RX2 rfl (Nat.le_of_ble_eq_true rfl) (lv := [(0, .ref (ad 0)), (1, .int y)]) rfl ?_
  intro p e s m args below meth c Q A ls hsz C0 hX hW hl hret hthr hprp
  obtain ⟨hx, hb, hml, hts, hown, hlocks, hK, hN, hDa, hA, hargs⟩ := C0
  have hin2 : ∀ w ∈ u_ws RX2 TX2 6, w ∈ wsX2_leaf := by decide +kernel
  have hin0 : ∀ w ∈ u_ws RX0 TX0 7, w ∈ wsX2_leaf := by decide +kernel
  have hin1 : ∀ w ∈ u_ws RX1 TX1 10, w ∈ wsX2_leaf := by decide +kernel
  refine lv_aload_n hx hb dX2_leaf_0 rfl (lv_at hl 0 rfl) ?_
  refine cx_calli (vx_runV (As := []) (rest := []) ⟨hx, hb, hml, hown, hts⟩ (c_freeNumber l hst D I Z F ad sa hI M s.heap.size) (cwV 0 hts gX2_leaf_X2_freeNumber rfl rfl rfl (by decide +kernel) ⟨Nat.le_of_ble_eq_true rfl, Nat.le_of_ble_eq_true rfl⟩) (cx_preV hK hN hX hA hDa hW 0 (by decide) (cE_x I Z F ad M) rfl) rfl rfl hl.1 rfl (lv_room (Nat.le_of_ble_eq_true rfl)) dX2_leaf_1 ⟨Nat.le_of_ble_eq_true rfl, Nat.le_of_ble_eq_true rfl⟩) hA hDa hW (fun E ce q9 H locs hxp hW h1 h2 h3 => ?_) (fun r u H locs hp hW => ?_)
  · exact hprp 1 ls _ H locs 1 6 E ce q9 (hxp) hW (by decide) (by decide) h1 h2 h3
  obtain ⟨hu, f, hf, hr9⟩ := hp
  rw [hu] at hW
  rw [hr9]
  have hf12 := hf.1
  refine lv_istore_n (lv' := [(2, .int (nI f)), (0, .ref (ad 0)), (1, .int y)]) hx hb dX2_leaf_4 rfl hl (by decide) rfl (fun ls hl => ?_)
  refine lv_aload_n hx hb dX2_leaf_5 rfl (lv_at hl 1 rfl) ?_
  refine cr_get (v := .ref (ad 1)) hx hb hts hin2 hown hK hW 0 (by decide) (cE_x I Z F ad M) rfl 0 (by decide) rfl (by decide +kernel) rfl dX2_leaf_6 ?_
  refine lv_iload_n hx hb dX2_leaf_9 rfl (lv_at hl 0 rfl) ?_
  refine cr_fald hx hb hK hW f hf12 rfl dX2_leaf_10 ?_
  refine cr_getN (v := .ref (ad (25 + 6 * f + 1))) (host := "SharedForks") hx hb hts hin0 hown hK hW (25 + 6 * f) (by omega) (cE_d0 I Z F ad M f) rfl 1 (by decide) rfl hN (by decide +kernel) rfl dX2_leaf_11 ?_
  refine lv_astore_n (lv' := [(3, .ref (ad (25 + 6 * f + 1))), (2, .int (nI f)), (0, .ref (ad 0)), (1, .int y)]) hx hb dX2_leaf_14 rfl hl (by decide) rfl (fun ls hl => ?_)
  refine lv_iconst (v := 0) hx hb dX2_leaf_15 (by decide) ?_
  refine lv_istore (lv' := [(4, .int 0), (3, .ref (ad (25 + 6 * f + 1))), (2, .int (nI f)), (0, .ref (ad 0)), (1, .int y)]) hx hb dX2_leaf_16 hl (by decide) rfl (fun ls hl => ?_)
  have loop : ∀ q j : Nat, j + q = 256 → ∀ (ls : Array Slot) (H : Heap) (locs : List Loc), lv_has ls 5 [(4, .int (nI j)), (0, .ref (ad 0)), (1, .int y), (2, .int (nI f)), (3, .ref (ad (25 + 6 * f + 1)))] → cB9 D I Z F ad A s.heap (flC M (25 + 6 * f + 1) (fun _ => y) j) H locs → W p l e rm_leaf s m args below meth c H locs 1 6 Q (F0 m 18 ls []) := by
    intro q
    induction q with
    | zero =>
      intro j hj ls H locs hl hW
      obtain rfl : j = 256 := by omega
      refine lv_iload hx hb dX2_leaf_18 (lv_at hl 0 rfl) ?_
      refine lv_sipush (v := 256) hx hb dX2_leaf_20 (by decide) ?_
      refine lv_icmp_ge (tgt := 37) hx hb dX2_leaf_23 (by decide) (fun c1 => ?_) (fun c1 => ?_)
      · skip
        refine lv_aload_n hx hb dX2_leaf_37 rfl (lv_at hl 1 rfl) ?_
        refine lv_iload_n hx hb dX2_leaf_38 rfl (lv_at hl 3 rfl) ?_
        refine cr_calli (va_runV (As := [.int (nI f)]) (rest := []) ⟨hx, hb, hml, hown, hts⟩ (c_keep l D I Z F ad hI (flC M (25 + 6 * f + 1) (fun _ => y) 256) H.size f hf12) (cwV 1 hts gX2_leaf_X2_keep rfl rfl rfl (by decide +kernel) ⟨Nat.le_of_ble_eq_true rfl, Nat.le_of_ble_eq_true rfl⟩) (cr_preV hK hN hW 0 (by decide) (cE_x I Z F ad (flC M (25 + 6 * f + 1) (fun _ => y) 256)) rfl) rfl rfl hl.1 rfl (lv_room (Nat.le_of_ble_eq_true rfl)) dX2_leaf_39 ⟨Nat.le_of_ble_eq_true rfl, Nat.le_of_ble_eq_true rfl⟩) hA hDa hW (fun r u H locs hp hW => ?_)
        obtain ⟨hu, hv9⟩ := hp
        rw [hu] at hW
        rw [hv9]
        exact hret 42 ls H locs 1 6 _ _ dX2_leaf_42 (by decide) (by decide) (⟨f, hf, rfl, rfl⟩) hW
      · exact absurd (nI_le (Nat.le_refl 256) (by decide)) c1
    | succ q ih =>
      intro j hj ls H locs hl hW
      refine lv_iload hx hb dX2_leaf_18 (lv_at hl 0 rfl) ?_
      refine lv_sipush (v := 256) hx hb dX2_leaf_20 (by decide) ?_
      refine lv_icmp_ge (tgt := 37) hx hb dX2_leaf_23 (by decide) (fun c1 => ?_) (fun c1 => ?_)
      · exact absurd c1 (nI_ge (b := 256) (by omega) (by decide))
      · skip
        refine lv_aload_n hx hb dX2_leaf_26 rfl (lv_at hl 4 rfl) ?_
        refine lv_iload hx hb dX2_leaf_27 (lv_at hl 0 rfl) ?_
        refine lv_iload_n hx hb dX2_leaf_29 rfl (lv_at hl 2 rfl) ?_
        refine cr_zast hx hb hK hDa hW (25 + 6 * f + 1) (by omega) (cE_d1 I Z F ad _ f) j (by omega) (by decide) rfl (hy) dX2_leaf_30 (fun H locs hW => ?_)
        rw [flC_s M (25 + 6 * f + 1) (fun _ => y) j (v := y) (rfl)] at hW
        refine lv_iinc (v := nI (j + 1)) (lv' := [(4, .int (nI (j + 1))), (0, .ref (ad 0)), (1, .int y), (2, .int (nI f)), (3, .ref (ad (25 + 6 * f + 1)))]) hx hb dX2_leaf_31 hl (k := 0) rfl (nI_1 j) (by decide) rfl (fun ls hl => ?_)
        refine lv_goto (tgt := 18) hx hb dX2_leaf_34 (by decide) ?_
        exact ih (j + 1) (by omega) ls H locs (lv_sub hl [0, 1, 2, 3, 4] rfl) hW
  exact loop 256 0 (by decide) ls H locs (lv_sub hl [0, 3, 4, 2, 1] rfl) (by rw [flC_0]; exact hW)

abbrev rm_ask : Room := { frames := 14, cells := 2, slots := 12, locals := 800 }
set_option maxHeartbeats 4000000 in
set_option maxRecDepth 100000 in
/-- a new fold that says what is answered to a question -/
theorem c_ask (l : Launch) (hst : l.stackTraces = false) (D : va_G) (I Z F : ClassId) (ad sa : Nat → Nat) (hI : cI ad) (M : Nat → Nat → Int32) (sz : Nat) (x : Int32) : vx_Met l yX2_ask wsX2_ask rm_ask (va_Pc [.ref (ad 0), .int x] (cUX D I Z F ad sa sz M)) (va_Qi (fun (r : Int32) (u : Nat → Nat → Int32) => ∃ f : Nat, inB x 8 ∧ frOk M f ∧ r = nI f ∧ u = nwF M f (fun j => isF (nI j) x)) (fun u t => cP D I Z F ad u t.heap) (cA ad sz)) (xQ D I Z F ad M sz (fun E => xpN M (inB x 8) E)) 2 12 (cA ad sz) := by
  refine cMetX_i (cc := cX2_ask) (maxL := 5) hst hI (by decide) rfl ⟨rfl, rfl, by decide, by decide⟩ RX2 rfl (Nat.le_of_ble_eq_true rfl) (lv := [(0, .ref (ad 0)), (1, .int x)]) rfl ?_
  intro p e s m args below meth c Q A ls hsz C0 hX hW hl hret hthr hprp
  obtain ⟨hx, hb, hml, hts, hown, hlocks, hK, hN, hDa, hA, hargs⟩ := C0
  have hin2 : ∀ w ∈ u_ws RX2 TX2 6, w ∈ wsX2_ask := by decide +kernel
  have hin0 : ∀ w ∈ u_ws RX0 TX0 7, w ∈ wsX2_ask := by decide +kernel
  have hin1 : ∀ w ∈ u_ws RX1 TX1 10, w ∈ wsX2_ask := by decide +kernel
  refine lv_iload_n hx hb dX2_ask_0 rfl (lv_at hl 1 rfl) ?_
  refine lv_bipush (v := 8) hx hb dX2_ask_1 (by decide) ?_
  refine cx_callv (vx_runS (As := [.int x, .int 8]) (rest := []) ⟨hx, hb, hml, hown, hts⟩ (c_checkBelow l hst D I Z F ad sa hI M s.heap.size x 8) (va_cwS 2 hts gX2_ask_X2_checkBelow rfl rfl rfl (by decide +kernel) ⟨Nat.le_of_ble_eq_true rfl, Nat.le_of_ble_eq_true rfl⟩) (cx_preS hK hN hX hA hDa hW) rfl rfl hl.1 rfl (lv_room (Nat.le_of_ble_eq_true rfl)) dX2_ask_3 ⟨Nat.le_of_ble_eq_true rfl, Nat.le_of_ble_eq_true rfl⟩) hA hDa hW (fun E ce q9 H locs hxp hW h1 h2 h3 => ?_) (fun u H locs hp hW => ?_)
  · exact hprp 3 ls _ H locs 1 6 E ce q9 (Or.inl ⟨hxp.1, inB_no (n := 8) (by decide) hxp.2⟩) hW (by decide) (by decide) h1 h2 h3
  obtain ⟨hu, hb1, hb2⟩ := hp
  rw [hu] at hW
  have hin : inB x 8 := inB_of (n := 8) (by decide) hb1 hb2
  refine lv_aload_n hx hb dX2_ask_6 rfl (lv_at hl 0 rfl) ?_
  refine cx_calli (vx_runV (As := []) (rest := []) ⟨hx, hb, hml, hown, hts⟩ (c_freeNumber l hst D I Z F ad sa hI M H.size) (cwV 0 hts gX2_ask_X2_freeNumber rfl rfl rfl (by decide +kernel) ⟨Nat.le_of_ble_eq_true rfl, Nat.le_of_ble_eq_true rfl⟩) (cx_preV hK hN hX hA hDa hW 0 (by decide) (cE_x I Z F ad M) rfl) rfl rfl hl.1 rfl (lv_room (Nat.le_of_ble_eq_true rfl)) dX2_ask_7 ⟨Nat.le_of_ble_eq_true rfl, Nat.le_of_ble_eq_true rfl⟩) hA hDa hW (fun E ce q9 H locs hxp hW h1 h2 h3 => ?_) (fun r u H locs hp hW => ?_)
  · exact hprp 7 ls _ H locs 2 12 E ce q9 (Or.inr ⟨hxp.1, hin, hxp.2⟩) hW (by decide) (by decide) h1 h2 h3
  obtain ⟨hu, f, hf, hr9⟩ := hp
  rw [hu] at hW
  rw [hr9]
  have hf12 := hf.1
  refine lv_istore_n (lv' := [(2, .int (nI f)), (0, .ref (ad 0)), (1, .int x)]) hx hb dX2_ask_10 rfl hl (by decide) rfl (fun ls hl => ?_)
  refine lv_aload_n hx hb dX2_ask_11 rfl (lv_at hl 1 rfl) ?_
  refine cr_get (v := .ref (ad 1)) hx hb hts hin2 hown hK hW 0 (by decide) (cE_x I Z F ad M) rfl 0 (by decide) rfl (by decide +kernel) rfl dX2_ask_12 ?_
  refine lv_iload_n hx hb dX2_ask_15 rfl (lv_at hl 0 rfl) ?_
  refine cr_fald hx hb hK hW f hf12 rfl dX2_ask_16 ?_
  refine cr_getN (v := .ref (ad (25 + 6 * f + 1))) (host := "SharedForks") hx hb hts hin0 hown hK hW (25 + 6 * f) (by omega) (cE_d0 I Z F ad M f) rfl 1 (by decide) rfl hN (by decide +kernel) rfl dX2_ask_17 ?_
  refine lv_astore_n (lv' := [(3, .ref (ad (25 + 6 * f + 1))), (2, .int (nI f)), (0, .ref (ad 0)), (1, .int x)]) hx hb dX2_ask_20 rfl hl (by decide) rfl (fun ls hl => ?_)
  refine lv_iconst (v := 0) hx hb dX2_ask_21 (by decide) ?_
  refine lv_istore (lv' := [(4, .int 0), (3, .ref (ad (25 + 6 * f + 1))), (2, .int (nI f)), (0, .ref (ad 0)), (1, .int x)]) hx hb dX2_ask_22 hl (by decide) rfl (fun ls hl => ?_)
  have loop : ∀ q j : Nat, j + q = 256 → ∀ (ls : Array Slot) (H : Heap) (locs : List Loc), lv_has ls 5 [(4, .int (nI j)), (0, .ref (ad 0)), (1, .int x), (2, .int (nI f)), (3, .ref (ad (25 + 6 * f + 1)))] → cB9 D I Z F ad A s.heap (flC M (25 + 6 * f + 1) (fun j => isF (nI j) x) j) H locs → W p l e rm_ask s m args below meth c H locs 2 12 Q (F0 m 24 ls []) := by
    intro q
    induction q with
    | zero =>
      intro j hj ls H locs hl hW
      obtain rfl : j = 256 := by omega
      refine lv_iload hx hb dX2_ask_24 (lv_at hl 0 rfl) ?_
      refine lv_sipush (v := 256) hx hb dX2_ask_26 (by decide) ?_
      refine lv_icmp_ge (tgt := 48) hx hb dX2_ask_29 (by decide) (fun c1 => ?_) (fun c1 => ?_)
      · skip
        refine lv_aload_n hx hb dX2_ask_48 rfl (lv_at hl 1 rfl) ?_
        refine lv_iload_n hx hb dX2_ask_49 rfl (lv_at hl 3 rfl) ?_
        refine cr_calli (va_runV (As := [.int (nI f)]) (rest := []) ⟨hx, hb, hml, hown, hts⟩ (c_keep l D I Z F ad hI (flC M (25 + 6 * f + 1) (fun j => isF (nI j) x) 256) H.size f hf12) (cwV 1 hts gX2_ask_X2_keep rfl rfl rfl (by decide +kernel) ⟨Nat.le_of_ble_eq_true rfl, Nat.le_of_ble_eq_true rfl⟩) (cr_preV hK hN hW 0 (by decide) (cE_x I Z F ad (flC M (25 + 6 * f + 1) (fun j => isF (nI j) x) 256)) rfl) rfl rfl hl.1 rfl (lv_room (Nat.le_of_ble_eq_true rfl)) dX2_ask_50 ⟨Nat.le_of_ble_eq_true rfl, Nat.le_of_ble_eq_true rfl⟩) hA hDa hW (fun r u H locs hp hW => ?_)
        obtain ⟨hu, hv9⟩ := hp
        rw [hu] at hW
        rw [hv9]
        exact hret 53 ls H locs 2 12 _ _ dX2_ask_53 (by decide) (by decide) (⟨f, hin, hf, rfl, rfl⟩) hW
      · exact absurd (nI_le (Nat.le_refl 256) (by decide)) c1
    | succ q ih =>
      intro j hj ls H locs hl hW
      refine lv_iload hx hb dX2_ask_24 (lv_at hl 0 rfl) ?_
      refine lv_sipush (v := 256) hx hb dX2_ask_26 (by decide) ?_
      refine lv_icmp_ge (tgt := 48) hx hb dX2_ask_29 (by decide) (fun c1 => ?_) (fun c1 => ?_)
      · exact absurd c1 (nI_ge (b := 256) (by omega) (by decide))
      · skip
        refine lv_aload_n hx hb dX2_ask_32 rfl (lv_at hl 4 rfl) ?_
        refine lv_iload hx hb dX2_ask_33 (lv_at hl 0 rfl) ?_
        refine lv_iload hx hb dX2_ask_35 (lv_at hl 0 rfl) ?_
        refine lv_iload_n hx hb dX2_ask_37 rfl (lv_at hl 2 rfl) ?_
        refine cr_calli (va_runS (As := [.int (nI j), .int x]) (rest := [.int (nI j), .ref (ad (25 + 6 * f + 1))]) ⟨hx, hb, hml, hown, hts⟩ (c_isYes l D I Z F ad hI (flC M (25 + 6 * f + 1) (fun j => isF (nI j) x) j) H.size (nI j) x) (va_cwS 2 hts gX2_ask_X2_isYes rfl rfl rfl (by decide +kernel) ⟨Nat.le_of_ble_eq_true rfl, Nat.le_of_ble_eq_true rfl⟩) (cr_preS hK hN hW) rfl rfl hl.1 rfl (lv_room (Nat.le_of_ble_eq_true rfl)) dX2_ask_38 ⟨Nat.le_of_ble_eq_true rfl, Nat.le_of_ble_eq_true rfl⟩) hA hDa hW (fun r u H locs hp hW => ?_)
        obtain ⟨hu, hv9⟩ := hp
        rw [hu] at hW
        rw [hv9]
        refine cr_zast hx hb hK hDa hW (25 + 6 * f + 1) (by omega) (cE_d1 I Z F ad _ f) j (by omega) (by decide) rfl (b2_01 _) dX2_ask_41 (fun H locs hW => ?_)
        rw [flC_s M (25 + 6 * f + 1) (fun j => isF (nI j) x) j (v := isF (nI j) x) (rfl)] at hW
        refine lv_iinc (v := nI (j + 1)) (lv' := [(4, .int (nI (j + 1))), (0, .ref (ad 0)), (1, .int x), (2, .int (nI f)), (3, .ref (ad (25 + 6 * f + 1)))]) hx hb dX2_ask_42 hl (k := 0) rfl (nI_1 j) (by decide) rfl (fun ls hl => ?_)
        refine lv_goto (tgt := 24) hx hb dX2_ask_45 (by decide) ?_
        exact ih (j + 1) (by omega) ls H locs (lv_sub hl [0, 1, 2, 3, 4] rfl) hW
  exact loop 256 0 (by decide) ls H locs (lv_sub hl [0, 3, 4, 2, 1] rfl) (by rw [flC_0]; exact hW)
end
section
abbrev rm_join : Room := { frames := 14, cells := 4, slots := 24, locals := 800 }
set_option maxHeartbeats 4000000 in
set_option maxRecDepth 100000 in
/-- two folds joined -/
theorem c_join (l : Launch) (hst : l.stackTraces = false) (D : va_G) (I Z F : ClassId) (ad sa : Nat → Nat) (hI : cI ad) (M : Nat → Nat → Int32) (sz : Nat) (a1 b1 x : Int32) : vx_Met l yX2_join wsX2_join rm_join (va_Pc [.ref (ad 0), .int a1, .int b1, .int x] (cUX D I Z F ad sa sz M)) (va_Qi (fun (r : Int32) (u : Nat → Nat → Int32) => ∃ ka kb wh f : Nat, fdOk M a1 ka ∧ fdOk M b1 kb ∧ wh < 6 ∧ x = nI wh ∧ frOk M f ∧ r = nI f ∧ u = nwF M f (sjT M ka kb wh)) (fun u t => cP D I Z F ad u t.heap) (cA ad sz)) (xQ D I Z F ad M sz (fun E => xpN M ((∃ k, fdOk M a1 k) ∧ (∃ k, fdOk M b1 k) ∧ inB x 6) E)) 4 24 (cA ad sz) := by
  refine cMetX_i (cc := cX2_join) (maxL := 7) hst hI (by decide) rfl ⟨rfl, rfl, by decide, by decide⟩ RX2 rfl (Nat.le_of_ble_eq_true rfl) (lv := [(0, .ref (ad 0)), (1, .int a1), (2, .int b1), (3, .int x)]) rfl ?_
  intro p e s m args below meth c Q A ls hsz C0 hX hW hl hret hthr hprp
  obtain ⟨hx, hb, hml, hts, hown, hlocks, hK, hN, hDa, hA, hargs⟩ := C0
  have hin2 : ∀ w ∈ u_ws RX2 TX2 6, w ∈ wsX2_join := by decide +kernel
  have hin0 : ∀ w ∈ u_ws RX0 TX0 7, w ∈ wsX2_join := by decide +kernel
  have hin1 : ∀ w ∈ u_ws RX1 TX1 10, w ∈ wsX2_join := by decide +kernel
  refine lv_aload_n hx hb dX2_join_0 rfl (lv_at hl 0 rfl) ?_
  refine lv_iload_n hx hb dX2_join_1 rfl (lv_at hl 1 rfl) ?_
  refine cx_callq (vx_runV (As := [.int a1]) (rest := []) ⟨hx, hb, hml, hown, hts⟩ (c_foldAt l hst D I Z F ad sa hI M s.heap.size a1) (cwV 1 hts gX2_join_X2_foldAt rfl rfl rfl (by decide +kernel) ⟨Nat.le_of_ble_eq_true rfl, Nat.le_of_ble_eq_true rfl⟩) (cx_preV hK hN hX hA hDa hW 0 (by decide) (cE_x I Z F ad M) rfl) rfl rfl hl.1 rfl (lv_room (Nat.le_of_ble_eq_true rfl)) dX2_join_2 ⟨Nat.le_of_ble_eq_true rfl, Nat.le_of_ble_eq_true rfl⟩) hA hDa hW (fun E ce q9 H locs hxp hW h1 h2 h3 => ?_) (fun r ka H locs hp hW => ?_)
  · exact hprp 2 ls _ H locs 1 6 E ce q9 (Or.inl ⟨hxp.1, fun h => hxp.2 h.1⟩) hW (by decide) (by decide) h1 h2 h3
  obtain ⟨hka, hr9⟩ := hp
  subst hr9
  have hka12 := hka.1
  show W p l e rm_join s m args below meth c H locs 1 6 Q (F0 m 5 ls (.ref (ad (25 + 6 * ka)) :: []))
  refine lv_astore (lv' := [(4, .ref (ad (25 + 6 * ka))), (0, .ref (ad 0)), (1, .int a1), (2, .int b1), (3, .int x)]) hx hb dX2_join_5 hl (by decide) rfl (fun ls hl => ?_)
  refine lv_aload_n hx hb dX2_join_7 rfl (lv_at hl 1 rfl) ?_
  refine lv_iload_n hx hb dX2_join_8 rfl (lv_at hl 3 rfl) ?_
  refine cx_callq (vx_runV (As := [.int b1]) (rest := []) ⟨hx, hb, hml, hown, hts⟩ (c_foldAt l hst D I Z F ad sa hI M H.size b1) (cwV 1 hts gX2_join_X2_foldAt rfl rfl rfl (by decide +kernel) ⟨Nat.le_of_ble_eq_true rfl, Nat.le_of_ble_eq_true rfl⟩) (cx_preV hK hN hX hA hDa hW 0 (by decide) (cE_x I Z F ad M) rfl) rfl rfl hl.1 rfl (lv_room (Nat.le_of_ble_eq_true rfl)) dX2_join_9 ⟨Nat.le_of_ble_eq_true rfl, Nat.le_of_ble_eq_true rfl⟩) hA hDa hW (fun E ce q9 H locs hxp hW h1 h2 h3 => ?_) (fun r kb H locs hp hW => ?_)
  · exact hprp 9 ls _ H locs 2 12 E ce q9 (Or.inl ⟨hxp.1, fun h => hxp.2 h.2.1⟩) hW (by decide) (by decide) h1 h2 h3
  obtain ⟨hkb, hr9⟩ := hp
  subst hr9
  have hkb12 := hkb.1
  show W p l e rm_join s m args below meth c H locs 2 12 Q (F0 m 12 ls (.ref (ad (25 + 6 * kb)) :: []))
  refine lv_astore (lv' := [(5, .ref (ad (25 + 6 * kb))), (4, .ref (ad (25 + 6 * ka))), (0, .ref (ad 0)), (1, .int a1), (2, .int b1), (3, .int x)]) hx hb dX2_join_12 hl (by decide) rfl (fun ls hl => ?_)
  refine lv_iload_n hx hb dX2_join_14 rfl (lv_at hl 5 rfl) ?_
  refine lv_bipush (v := 6) hx hb dX2_join_15 (by decide) ?_
  refine cx_callv (vx_runS (As := [.int x, .int 6]) (rest := []) ⟨hx, hb, hml, hown, hts⟩ (c_checkBelow l hst D I Z F ad sa hI M H.size x 6) (va_cwS 2 hts gX2_join_X2_checkBelow rfl rfl rfl (by decide +kernel) ⟨Nat.le_of_ble_eq_true rfl, Nat.le_of_ble_eq_true rfl⟩) (cx_preS hK hN hX hA hDa hW) rfl rfl hl.1 rfl (lv_room (Nat.le_of_ble_eq_true rfl)) dX2_join_17 ⟨Nat.le_of_ble_eq_true rfl, Nat.le_of_ble_eq_true rfl⟩) hA hDa hW (fun E ce q9 H locs hxp hW h1 h2 h3 => ?_) (fun u H locs hp hW => ?_)
  · exact hprp 17 ls _ H locs 3 18 E ce q9 (Or.inl ⟨hxp.1, fun h => inB_no (n := 6) (by decide) hxp.2 h.2.2⟩) hW (by decide) (by decide) h1 h2 h3
  obtain ⟨hu, hb1, hb2⟩ := hp
  rw [hu] at hW
  have hin : inB x 6 := inB_of (n := 6) (by decide) hb1 hb2
  obtain ⟨wh, hwh, rfl⟩ := hin
  refine lv_aload_n hx hb dX2_join_20 rfl (lv_at hl 2 rfl) ?_
  refine cx_calli (vx_runV (As := []) (rest := []) ⟨hx, hb, hml, hown, hts⟩ (c_freeNumber l hst D I Z F ad sa hI M H.size) (cwV 0 hts gX2_join_X2_freeNumber rfl rfl rfl (by decide +kernel) ⟨Nat.le_of_ble_eq_true rfl, Nat.le_of_ble_eq_true rfl⟩) (cx_preV hK hN hX hA hDa hW 0 (by decide) (cE_x I Z F ad M) rfl) rfl rfl hl.1 rfl (lv_room (Nat.le_of_ble_eq_true rfl)) dX2_join_21 ⟨Nat.le_of_ble_eq_true rfl, Nat.le_of_ble_eq_true rfl⟩) hA hDa hW (fun E ce q9 H locs hxp hW h1 h2 h3 => ?_) (fun r u H locs hp hW => ?_)
  · exact hprp 21 ls _ H locs 4 24 E ce q9 (Or.inr ⟨hxp.1, ⟨⟨ka, hka⟩, ⟨kb, hkb⟩, ⟨wh, hwh, rfl⟩⟩, hxp.2⟩) hW (by decide) (by decide) h1 h2 h3
  obtain ⟨hu, f, hf, hr9⟩ := hp
  rw [hu] at hW
  rw [hr9]
  have hf12 := hf.1
  refine lv_istore (lv' := [(6, .int (nI f)), (5, .ref (ad (25 + 6 * kb))), (4, .ref (ad (25 + 6 * ka))), (0, .ref (ad 0)), (1, .int a1), (2, .int b1), (3, .int (nI wh))]) hx hb dX2_join_24 hl (by decide) rfl (fun ls hl => ?_)
  refine lv_aload hx hb dX2_join_26 (lv_at hl 2 rfl) ?_
  refine lv_aload hx hb dX2_join_28 (lv_at hl 1 rfl) ?_
  refine lv_iload_n hx hb dX2_join_30 rfl (lv_at hl 6 rfl) ?_
  refine lv_aload_n hx hb dX2_join_31 rfl (lv_at hl 3 rfl) ?_
  refine cr_get (v := .ref (ad 1)) hx hb hts hin2 hown hK hW 0 (by decide) (cE_x I Z F ad M) rfl 0 (by decide) rfl (by decide +kernel) rfl dX2_join_32 ?_
  refine lv_iload hx hb dX2_join_35 (lv_at hl 0 rfl) ?_
  refine cr_fald hx hb hK hW f hf12 rfl dX2_join_37 ?_
  refine cr_getN (v := .ref (ad (25 + 6 * f + 1))) (host := "SharedForks") hx hb hts hin0 hown hK hW (25 + 6 * f) (by omega) (cE_d0 I Z F ad M f) rfl 1 (by decide) rfl hN (by decide +kernel) rfl dX2_join_38 ?_
  have na : 25 + 6 * f + 1 ≠ 25 + 6 * ka + 1 := by have := frOk_ne hf hka.2.2; omega
  have nb : 25 + 6 * f + 1 ≠ 25 + 6 * kb + 1 := by have := frOk_ne hf hkb.2.2; omega
  refine cr_callv (va_runS (As := [.ref (ad (25 + 6 * ka)), .ref (ad (25 + 6 * kb)), .int (nI wh), .ref (ad (25 + 6 * f + 1))]) (rest := []) ⟨hx, hb, hml, hown, hts⟩ (c_sayJoined l D I Z F ad hI M H.size ka kb hka12 hkb12 wh hwh (25 + 6 * f + 1) (by omega) (cE_d1 I Z F ad M f) na nb) (va_cwS 4 hts gX2_join_X2_sayJoined rfl rfl rfl (by decide +kernel) ⟨Nat.le_of_ble_eq_true rfl, Nat.le_of_ble_eq_true rfl⟩) (cr_preS hK hN hW) rfl rfl hl.1 rfl (lv_room (Nat.le_of_ble_eq_true rfl)) dX2_join_41 ⟨Nat.le_of_ble_eq_true rfl, Nat.le_of_ble_eq_true rfl⟩) hA hDa hW (fun u H locs hp hW => ?_)
  rw [hp] at hW
  refine lv_aload_n hx hb dX2_join_44 rfl (lv_at hl 3 rfl) ?_
  refine lv_iload hx hb dX2_join_45 (lv_at hl 0 rfl) ?_
  refine cr_calli (va_runV (As := [.int (nI f)]) (rest := []) ⟨hx, hb, hml, hown, hts⟩ (c_keep l D I Z F ad hI (sjF M ka kb wh (25 + 6 * f + 1)) H.size f hf12) (cwV 1 hts gX2_join_X2_keep rfl rfl rfl (by decide +kernel) ⟨Nat.le_of_ble_eq_true rfl, Nat.le_of_ble_eq_true rfl⟩) (cr_preV hK hN hW 0 (by decide) (cE_x I Z F ad (sjF M ka kb wh (25 + 6 * f + 1))) rfl) rfl rfl hl.1 rfl (lv_room (Nat.le_of_ble_eq_true rfl)) dX2_join_47 ⟨Nat.le_of_ble_eq_true rfl, Nat.le_of_ble_eq_true rfl⟩) hA hDa hW (fun r u H locs hp hW => ?_)
  obtain ⟨hu, hv9⟩ := hp
  rw [hu] at hW
  rw [hv9]
  exact hret 50 ls H locs 4 24 _ _ dX2_join_50 (by decide) (by decide) (⟨ka, kb, wh, f, hka, hkb, hwh, rfl, hf, rfl, rfl⟩) hW

abbrev rm_choose : Room := { frames := 14, cells := 4, slots := 24, locals := 800 }
set_option maxHeartbeats 4000000 in
set_option maxRecDepth 100000 in
/-- the second where the first says yes, else the third -/
theorem c_choose (l : Launch) (hst : l.stackTraces = false) (D : va_G) (I Z F : ClassId) (ad sa : Nat → Nat) (hI : cI ad) (M : Nat → Nat → Int32) (sz : Nat) (hys : ysOk M) (a1 b1 c9 : Int32) : vx_Met l yX2_choose wsX2_choose rm_choose (va_Pc [.ref (ad 0), .int a1, .int b1, .int c9] (cUX D I Z F ad sa sz M)) (va_Qi (fun (r : Int32) (u : Nat → Nat → Int32) => ∃ ka kb kc f : Nat, fdOk M a1 ka ∧ fdOk M b1 kb ∧ fdOk M c9 kc ∧ frOk M f ∧ r = nI f ∧ u = nwF M f (chT M ka kb kc)) (fun u t => cP D I Z F ad u t.heap) (cA ad sz)) (xQ D I Z F ad M sz (fun E => xpN M ((∃ k, fdOk M a1 k) ∧ (∃ k, fdOk M b1 k) ∧ (∃ k, fdOk M c9 k)) E)) 4 24 (cA ad sz) := by
  refine cMetX_i (cc := cX2_choose) (maxL := 10) hst hI (by decide) rfl ⟨rfl, rfl, by decide, by decide⟩ RX2 rfl (Nat.le_of_ble_eq_true rfl) (lv := [(0, .ref (ad 0)), (1, .int a1), (2, .int b1), (3, .int c9)]) rfl ?_
  intro p e s m args below meth c Q A ls hsz C0 hX hW hl hret hthr hprp
  obtain ⟨hx, hb, hml, hts, hown, hlocks, hK, hN, hDa, hA, hargs⟩ := C0
  have hin2 : ∀ w ∈ u_ws RX2 TX2 6, w ∈ wsX2_choose := by decide +kernel
  have hin0 : ∀ w ∈ u_ws RX0 TX0 7, w ∈ wsX2_choose := by decide +kernel
  have hin1 : ∀ w ∈ u_ws RX1 TX1 10, w ∈ wsX2_choose := by decide +kernel
  refine lv_aload_n hx hb dX2_choose_0 rfl (lv_at hl 0 rfl) ?_
  refine lv_iload_n hx hb dX2_choose_1 rfl (lv_at hl 1 rfl) ?_
  refine cx_callq (vx_runV (As := [.int a1]) (rest := []) ⟨hx, hb, hml, hown, hts⟩ (c_foldAt l hst D I Z F ad sa hI M s.heap.size a1) (cwV 1 hts gX2_choose_X2_foldAt rfl rfl rfl (by decide +kernel) ⟨Nat.le_of_ble_eq_true rfl, Nat.le_of_ble_eq_true rfl⟩) (cx_preV hK hN hX hA hDa hW 0 (by decide) (cE_x I Z F ad M) rfl) rfl rfl hl.1 rfl (lv_room (Nat.le_of_ble_eq_true rfl)) dX2_choose_2 ⟨Nat.le_of_ble_eq_true rfl, Nat.le_of_ble_eq_true rfl⟩) hA hDa hW (fun E ce q9 H locs hxp hW h1 h2 h3 => ?_) (fun r ka H locs hp hW => ?_)
  · exact hprp 2 ls _ H locs 1 6 E ce q9 (Or.inl ⟨hxp.1, fun h => hxp.2 h.1⟩) hW (by decide) (by decide) h1 h2 h3
  obtain ⟨hka, hr9⟩ := hp
  subst hr9
  have hka12 := hka.1
  show W p l e rm_choose s m args below meth c H locs 1 6 Q (F0 m 5 ls (.ref (ad (25 + 6 * ka)) :: []))
  refine lv_astore (lv' := [(4, .ref (ad (25 + 6 * ka))), (0, .ref (ad 0)), (1, .int a1), (2, .int b1), (3, .int c9)]) hx hb dX2_choose_5 hl (by decide) rfl (fun ls hl => ?_)
  refine lv_aload_n hx hb dX2_choose_7 rfl (lv_at hl 1 rfl) ?_
  refine lv_iload_n hx hb dX2_choose_8 rfl (lv_at hl 3 rfl) ?_
  refine cx_callq (vx_runV (As := [.int b1]) (rest := []) ⟨hx, hb, hml, hown, hts⟩ (c_foldAt l hst D I Z F ad sa hI M H.size b1) (cwV 1 hts gX2_choose_X2_foldAt rfl rfl rfl (by decide +kernel) ⟨Nat.le_of_ble_eq_true rfl, Nat.le_of_ble_eq_true rfl⟩) (cx_preV hK hN hX hA hDa hW 0 (by decide) (cE_x I Z F ad M) rfl) rfl rfl hl.1 rfl (lv_room (Nat.le_of_ble_eq_true rfl)) dX2_choose_9 ⟨Nat.le_of_ble_eq_true rfl, Nat.le_of_ble_eq_true rfl⟩) hA hDa hW (fun E ce q9 H locs hxp hW h1 h2 h3 => ?_) (fun r kb H locs hp hW => ?_)
  · exact hprp 9 ls _ H locs 2 12 E ce q9 (Or.inl ⟨hxp.1, fun h => hxp.2 h.2.1⟩) hW (by decide) (by decide) h1 h2 h3
  obtain ⟨hkb, hr9⟩ := hp
  subst hr9
  have hkb12 := hkb.1
  show W p l e rm_choose s m args below meth c H locs 2 12 Q (F0 m 12 ls (.ref (ad (25 + 6 * kb)) :: []))
  refine lv_astore (lv' := [(5, .ref (ad (25 + 6 * kb))), (4, .ref (ad (25 + 6 * ka))), (0, .ref (ad 0)), (1, .int a1), (2, .int b1), (3, .int c9)]) hx hb dX2_choose_12 hl (by decide) rfl (fun ls hl => ?_)
  refine lv_aload_n hx hb dX2_choose_14 rfl (lv_at hl 2 rfl) ?_
  refine lv_iload_n hx hb dX2_choose_15 rfl (lv_at hl 5 rfl) ?_
  refine cx_callq (vx_runV (As := [.int c9]) (rest := []) ⟨hx, hb, hml, hown, hts⟩ (c_foldAt l hst D I Z F ad sa hI M H.size c9) (cwV 1 hts gX2_choose_X2_foldAt rfl rfl rfl (by decide +kernel) ⟨Nat.le_of_ble_eq_true rfl, Nat.le_of_ble_eq_true rfl⟩) (cx_preV hK hN hX hA hDa hW 0 (by decide) (cE_x I Z F ad M) rfl) rfl rfl hl.1 rfl (lv_room (Nat.le_of_ble_eq_true rfl)) dX2_choose_16 ⟨Nat.le_of_ble_eq_true rfl, Nat.le_of_ble_eq_true rfl⟩) hA hDa hW (fun E ce q9 H locs hxp hW h1 h2 h3 => ?_) (fun r kc H locs hp hW => ?_)
  · exact hprp 16 ls _ H locs 3 18 E ce q9 (Or.inl ⟨hxp.1, fun h => hxp.2 h.2.2⟩) hW (by decide) (by decide) h1 h2 h3
  obtain ⟨hkc, hr9⟩ := hp
  subst hr9
  have hkc12 := hkc.1
  show W p l e rm_choose s m args below meth c H locs 3 18 Q (F0 m 19 ls (.ref (ad (25 + 6 * kc)) :: []))
  refine lv_astore (lv' := [(6, .ref (ad (25 + 6 * kc))), (5, .ref (ad (25 + 6 * kb))), (4, .ref (ad (25 + 6 * ka))), (0, .ref (ad 0)), (1, .int a1), (2, .int b1), (3, .int c9)]) hx hb dX2_choose_19 hl (by decide) rfl (fun ls hl => ?_)
  refine lv_aload_n hx hb dX2_choose_21 rfl (lv_at hl 3 rfl) ?_
  refine cx_calli (vx_runV (As := []) (rest := []) ⟨hx, hb, hml, hown, hts⟩ (c_freeNumber l hst D I Z F ad sa hI M H.size) (cwV 0 hts gX2_choose_X2_freeNumber rfl rfl rfl (by decide +kernel) ⟨Nat.le_of_ble_eq_true rfl, Nat.le_of_ble_eq_true rfl⟩) (cx_preV hK hN hX hA hDa hW 0 (by decide) (cE_x I Z F ad M) rfl) rfl rfl hl.1 rfl (lv_room (Nat.le_of_ble_eq_true rfl)) dX2_choose_22 ⟨Nat.le_of_ble_eq_true rfl, Nat.le_of_ble_eq_true rfl⟩) hA hDa hW (fun E ce q9 H locs hxp hW h1 h2 h3 => ?_) (fun r u H locs hp hW => ?_)
  · exact hprp 22 ls _ H locs 4 24 E ce q9 (Or.inr ⟨hxp.1, ⟨⟨ka, hka⟩, ⟨kb, hkb⟩, ⟨kc, hkc⟩⟩, hxp.2⟩) hW (by decide) (by decide) h1 h2 h3
  obtain ⟨hu, f, hf, hr9⟩ := hp
  rw [hu] at hW
  rw [hr9]
  have hf12 := hf.1
  refine lv_istore (lv' := [(7, .int (nI f)), (6, .ref (ad (25 + 6 * kc))), (5, .ref (ad (25 + 6 * kb))), (4, .ref (ad (25 + 6 * ka))), (0, .ref (ad 0)), (1, .int a1), (2, .int b1), (3, .int c9)]) hx hb dX2_choose_25 hl (by decide) rfl (fun ls hl => ?_)
  refine lv_aload_n hx hb dX2_choose_27 rfl (lv_at hl 4 rfl) ?_
  refine cr_get (v := .ref (ad 1)) hx hb hts hin2 hown hK hW 0 (by decide) (cE_x I Z F ad M) rfl 0 (by decide) rfl (by decide +kernel) rfl dX2_choose_28 ?_
  refine lv_iload hx hb dX2_choose_31 (lv_at hl 0 rfl) ?_
  refine cr_fald hx hb hK hW f hf12 rfl dX2_choose_33 ?_
  refine cr_getN (v := .ref (ad (25 + 6 * f + 1))) (host := "SharedForks") hx hb hts hin0 hown hK hW (25 + 6 * f) (by omega) (cE_d0 I Z F ad M f) rfl 1 (by decide) rfl hN (by decide +kernel) rfl dX2_choose_34 ?_
  refine lv_astore (lv' := [(8, .ref (ad (25 + 6 * f + 1))), (7, .int (nI f)), (6, .ref (ad (25 + 6 * kc))), (5, .ref (ad (25 + 6 * kb))), (4, .ref (ad (25 + 6 * ka))), (0, .ref (ad 0)), (1, .int a1), (2, .int b1), (3, .int c9)]) hx hb dX2_choose_37 hl (by decide) rfl (fun ls hl => ?_)
  refine lv_iconst (v := 0) hx hb dX2_choose_39 (by decide) ?_
  refine lv_istore (lv' := [(9, .int 0), (8, .ref (ad (25 + 6 * f + 1))), (7, .int (nI f)), (6, .ref (ad (25 + 6 * kc))), (5, .ref (ad (25 + 6 * kb))), (4, .ref (ad (25 + 6 * ka))), (0, .ref (ad 0)), (1, .int a1), (2, .int b1), (3, .int c9)]) hx hb dX2_choose_40 hl (by decide) rfl (fun ls hl => ?_)
  have na : 25 + 6 * ka + 1 ≠ 25 + 6 * f + 1 := by have := frOk_ne hf hka.2.2; omega
  have nb : 25 + 6 * kb + 1 ≠ 25 + 6 * f + 1 := by have := frOk_ne hf hkb.2.2; omega
  have nc : 25 + 6 * kc + 1 ≠ 25 + 6 * f + 1 := by have := frOk_ne hf hkc.2.2; omega
  have loop : ∀ q j : Nat, j + q = 256 → ∀ (ls : Array Slot) (H : Heap) (locs : List Loc), lv_has ls 10 [(9, .int (nI j)), (0, .ref (ad 0)), (7, .int (nI f)), (4, .ref (ad (25 + 6 * ka))), (5, .ref (ad (25 + 6 * kb))), (6, .ref (ad (25 + 6 * kc))), (8, .ref (ad (25 + 6 * f + 1)))] → cB9 D I Z F ad A s.heap (flC M (25 + 6 * f + 1) (chT M ka kb kc) j) H locs → W p l e rm_choose s m args below meth c H locs 4 24 Q (F0 m 42 ls []) := by
    intro q
    induction q with
    | zero =>
      intro j hj ls H locs hl hW
      obtain rfl : j = 256 := by omega
      refine lv_iload hx hb dX2_choose_42 (lv_at hl 0 rfl) ?_
      refine lv_sipush (v := 256) hx hb dX2_choose_44 (by decide) ?_
      refine lv_icmp_ge (tgt := 91) hx hb dX2_choose_47 (by decide) (fun c1 => ?_) (fun c1 => ?_)
      · skip
        refine lv_aload_n hx hb dX2_choose_91 rfl (lv_at hl 1 rfl) ?_
        refine lv_iload hx hb dX2_choose_92 (lv_at hl 2 rfl) ?_
        refine cr_calli (va_runV (As := [.int (nI f)]) (rest := []) ⟨hx, hb, hml, hown, hts⟩ (c_keep l D I Z F ad hI (flC M (25 + 6 * f + 1) (chT M ka kb kc) 256) H.size f hf12) (cwV 1 hts gX2_choose_X2_keep rfl rfl rfl (by decide +kernel) ⟨Nat.le_of_ble_eq_true rfl, Nat.le_of_ble_eq_true rfl⟩) (cr_preV hK hN hW 0 (by decide) (cE_x I Z F ad (flC M (25 + 6 * f + 1) (chT M ka kb kc) 256)) rfl) rfl rfl hl.1 rfl (lv_room (Nat.le_of_ble_eq_true rfl)) dX2_choose_94 ⟨Nat.le_of_ble_eq_true rfl, Nat.le_of_ble_eq_true rfl⟩) hA hDa hW (fun r u H locs hp hW => ?_)
        obtain ⟨hu, hv9⟩ := hp
        rw [hu] at hW
        rw [hv9]
        exact hret 97 ls H locs 4 24 _ _ dX2_choose_97 (by decide) (by decide) (⟨ka, kb, kc, f, hka, hkb, hkc, hf, rfl, rfl⟩) hW
      · exact absurd (nI_le (Nat.le_refl 256) (by decide)) c1
    | succ q ih =>
      intro j hj ls H locs hl hW
      refine lv_iload hx hb dX2_choose_42 (lv_at hl 0 rfl) ?_
      refine lv_sipush (v := 256) hx hb dX2_choose_44 (by decide) ?_
      refine lv_icmp_ge (tgt := 91) hx hb dX2_choose_47 (by decide) (fun c1 => ?_) (fun c1 => ?_)
      · exact absurd c1 (nI_ge (b := 256) (by omega) (by decide))
      · skip
        have ea : flC M (25 + 6 * f + 1) (chT M ka kb kc) j (25 + 6 * ka + 1) = M (25 + 6 * ka + 1) := flC_row na
        have eb : flC M (25 + 6 * f + 1) (chT M ka kb kc) j (25 + 6 * kb + 1) = M (25 + 6 * kb + 1) := flC_row nb
        have ec : flC M (25 + 6 * f + 1) (chT M ka kb kc) j (25 + 6 * kc + 1) = M (25 + 6 * kc + 1) := flC_row nc
        refine lv_aload hx hb dX2_choose_50 (lv_at hl 6 rfl) ?_
        refine lv_iload hx hb dX2_choose_52 (lv_at hl 0 rfl) ?_
        refine lv_aload hx hb dX2_choose_54 (lv_at hl 3 rfl) ?_
        refine cr_getN (v := .ref (ad (25 + 6 * ka + 1))) (host := "SharedForks") hx hb hts hin0 hown hK hW (25 + 6 * ka) (by omega) (cE_d0 I Z F ad (flC M (25 + 6 * f + 1) (chT M ka kb kc) j) ka) rfl 1 (by decide) rfl hN (by decide +kernel) rfl dX2_choose_56 ?_
        refine lv_iload hx hb dX2_choose_59 (lv_at hl 0 rfl) ?_
        refine cr_zald hx hb hK hW (25 + 6 * ka + 1) (by omega) (cE_d1 I Z F ad (flC M (25 + 6 * f + 1) (chT M ka kb kc) j) ka) j (by omega) (by decide) rfl dX2_choose_61 ?_
        rw [ea]
        refine lv_if_eq (tgt := 76) hx hb dX2_choose_62 (by decide) (fun c2 => ?_) (fun c2 => ?_)
        · skip
          refine lv_aload hx hb dX2_choose_76 (lv_at hl 5 rfl) ?_
          refine cr_getN (v := .ref (ad (25 + 6 * kc + 1))) (host := "SharedForks") hx hb hts hin0 hown hK hW (25 + 6 * kc) (by omega) (cE_d0 I Z F ad (flC M (25 + 6 * f + 1) (chT M ka kb kc) j) kc) rfl 1 (by decide) rfl hN (by decide +kernel) rfl dX2_choose_78 ?_
          refine lv_iload hx hb dX2_choose_81 (lv_at hl 0 rfl) ?_
          refine cr_zald hx hb hK hW (25 + 6 * kc + 1) (by omega) (cE_d1 I Z F ad (flC M (25 + 6 * f + 1) (chT M ka kb kc) j) kc) j (by omega) (by decide) rfl dX2_choose_83 ?_
          rw [ec]
          refine cr_zast hx hb hK hDa hW (25 + 6 * f + 1) (by omega) (cE_d1 I Z F ad _ f) j (by omega) (by decide) rfl (hys kc hkc12 j (by omega)) dX2_choose_84 (fun H locs hW => ?_)
          rw [flC_s M (25 + 6 * f + 1) (chT M ka kb kc) j (v := M (25 + 6 * kc + 1) j) (by rw [chT, if_pos c2])] at hW
          refine lv_iinc (v := nI (j + 1)) (lv' := [(9, .int (nI (j + 1))), (0, .ref (ad 0)), (7, .int (nI f)), (4, .ref (ad (25 + 6 * ka))), (5, .ref (ad (25 + 6 * kb))), (6, .ref (ad (25 + 6 * kc))), (8, .ref (ad (25 + 6 * f + 1)))]) hx hb dX2_choose_85 hl (k := 0) rfl (nI_1 j) (by decide) rfl (fun ls hl => ?_)
          refine lv_goto (tgt := 42) hx hb dX2_choose_88 (by decide) ?_
          exact ih (j + 1) (by omega) ls H locs (lv_sub hl [0, 1, 2, 3, 4, 5, 6] rfl) hW
        · skip
          refine lv_aload hx hb dX2_choose_65 (lv_at hl 4 rfl) ?_
          refine cr_getN (v := .ref (ad (25 + 6 * kb + 1))) (host := "SharedForks") hx hb hts hin0 hown hK hW (25 + 6 * kb) (by omega) (cE_d0 I Z F ad (flC M (25 + 6 * f + 1) (chT M ka kb kc) j) kb) rfl 1 (by decide) rfl hN (by decide +kernel) rfl dX2_choose_67 ?_
          refine lv_iload hx hb dX2_choose_70 (lv_at hl 0 rfl) ?_
          refine cr_zald hx hb hK hW (25 + 6 * kb + 1) (by omega) (cE_d1 I Z F ad (flC M (25 + 6 * f + 1) (chT M ka kb kc) j) kb) j (by omega) (by decide) rfl dX2_choose_72 ?_
          rw [eb]
          refine lv_goto (tgt := 84) hx hb dX2_choose_73 (by decide) ?_
          refine cr_zast hx hb hK hDa hW (25 + 6 * f + 1) (by omega) (cE_d1 I Z F ad _ f) j (by omega) (by decide) rfl (hys kb hkb12 j (by omega)) dX2_choose_84 (fun H locs hW => ?_)
          rw [flC_s M (25 + 6 * f + 1) (chT M ka kb kc) j (v := M (25 + 6 * kb + 1) j) (by rw [chT, if_neg c2])] at hW
          refine lv_iinc (v := nI (j + 1)) (lv' := [(9, .int (nI (j + 1))), (0, .ref (ad 0)), (7, .int (nI f)), (4, .ref (ad (25 + 6 * ka))), (5, .ref (ad (25 + 6 * kb))), (6, .ref (ad (25 + 6 * kc))), (8, .ref (ad (25 + 6 * f + 1)))]) hx hb dX2_choose_85 hl (k := 0) rfl (nI_1 j) (by decide) rfl (fun ls hl => ?_)
          refine lv_goto (tgt := 42) hx hb dX2_choose_88 (by decide) ?_
          exact ih (j + 1) (by omega) ls H locs (lv_sub hl [0, 1, 2, 3, 4, 5, 6] rfl) hW
  exact loop 256 0 (by decide) ls H locs (lv_sub hl [0, 6, 2, 5, 4, 3, 1] rfl) (by rw [flC_0]; exact hW)

abbrev rm_given : Room := { frames := 14, cells := 3, slots := 18, locals := 800 }
set_option maxHeartbeats 4000000 in
set_option maxRecDepth 100000 in
/-- what a fold says, if the answer to a question is another -/
theorem c_given (l : Launch) (hst : l.stackTraces = false) (D : va_G) (I Z F : ClassId) (ad sa : Nat → Nat) (hI : cI ad) (M : Nat → Nat → Int32) (sz : Nat) (hys : ysOk M) (a1 x y : Int32) : vx_Met l yX2_given wsX2_given rm_given (va_Pc [.ref (ad 0), .int a1, .int x, .int y] (cUX D I Z F ad sa sz M)) (va_Qi (fun (r : Int32) (u : Nat → Nat → Int32) => ∃ k q0 f : Nat, fdOk M a1 k ∧ q0 < 8 ∧ x = nI q0 ∧ frOk M f ∧ r = nI f ∧ u = nwF M f (gvT M k (nI q0) y)) (fun u t => cP D I Z F ad u t.heap) (cA ad sz)) (xQ D I Z F ad M sz (fun E => xpN M ((∃ k, fdOk M a1 k) ∧ inB x 8) E)) 3 18 (cA ad sz) := by
  refine cMetX_i (cc := cX2_given) (maxL := 8) hst hI (by decide) rfl ⟨rfl, rfl, by decide, by decide⟩ RX2 rfl (Nat.le_of_ble_eq_true rfl) (lv := [(0, .ref (ad 0)), (1, .int a1), (2, .int x), (3, .int y)]) rfl ?_
  intro p e s m args below meth c Q A ls hsz C0 hX hW hl hret hthr hprp
  obtain ⟨hx, hb, hml, hts, hown, hlocks, hK, hN, hDa, hA, hargs⟩ := C0
  have hin2 : ∀ w ∈ u_ws RX2 TX2 6, w ∈ wsX2_given := by decide +kernel
  have hin0 : ∀ w ∈ u_ws RX0 TX0 7, w ∈ wsX2_given := by decide +kernel
  have hin1 : ∀ w ∈ u_ws RX1 TX1 10, w ∈ wsX2_given := by decide +kernel
  refine lv_aload_n hx hb dX2_given_0 rfl (lv_at hl 0 rfl) ?_
  refine lv_iload_n hx hb dX2_given_1 rfl (lv_at hl 1 rfl) ?_
  refine cx_callq (vx_runV (As := [.int a1]) (rest := []) ⟨hx, hb, hml, hown, hts⟩ (c_foldAt l hst D I Z F ad sa hI M s.heap.size a1) (cwV 1 hts gX2_given_X2_foldAt rfl rfl rfl (by decide +kernel) ⟨Nat.le_of_ble_eq_true rfl, Nat.le_of_ble_eq_true rfl⟩) (cx_preV hK hN hX hA hDa hW 0 (by decide) (cE_x I Z F ad M) rfl) rfl rfl hl.1 rfl (lv_room (Nat.le_of_ble_eq_true rfl)) dX2_given_2 ⟨Nat.le_of_ble_eq_true rfl, Nat.le_of_ble_eq_true rfl⟩) hA hDa hW (fun E ce q9 H locs hxp hW h1 h2 h3 => ?_) (fun r k H locs hp hW => ?_)
  · exact hprp 2 ls _ H locs 1 6 E ce q9 (Or.inl ⟨hxp.1, fun h => hxp.2 h.1⟩) hW (by decide) (by decide) h1 h2 h3
  obtain ⟨hk, hr9⟩ := hp
  subst hr9
  have hk12 := hk.1
  show W p l e rm_given s m args below meth c H locs 1 6 Q (F0 m 5 ls (.ref (ad (25 + 6 * k)) :: []))
  refine lv_astore (lv' := [(4, .ref (ad (25 + 6 * k))), (0, .ref (ad 0)), (1, .int a1), (2, .int x), (3, .int y)]) hx hb dX2_given_5 hl (by decide) rfl (fun ls hl => ?_)
  refine lv_iload_n hx hb dX2_given_7 rfl (lv_at hl 3 rfl) ?_
  refine lv_bipush (v := 8) hx hb dX2_given_8 (by decide) ?_
  refine cx_callv (vx_runS (As := [.int x, .int 8]) (rest := []) ⟨hx, hb, hml, hown, hts⟩ (c_checkBelow l hst D I Z F ad sa hI M H.size x 8) (va_cwS 2 hts gX2_given_X2_checkBelow rfl rfl rfl (by decide +kernel) ⟨Nat.le_of_ble_eq_true rfl, Nat.le_of_ble_eq_true rfl⟩) (cx_preS hK hN hX hA hDa hW) rfl rfl hl.1 rfl (lv_room (Nat.le_of_ble_eq_true rfl)) dX2_given_10 ⟨Nat.le_of_ble_eq_true rfl, Nat.le_of_ble_eq_true rfl⟩) hA hDa hW (fun E ce q9 H locs hxp hW h1 h2 h3 => ?_) (fun u H locs hp hW => ?_)
  · exact hprp 10 ls _ H locs 2 12 E ce q9 (Or.inl ⟨hxp.1, fun h => inB_no (n := 8) (by decide) hxp.2 h.2⟩) hW (by decide) (by decide) h1 h2 h3
  obtain ⟨hu, hb1, hb2⟩ := hp
  rw [hu] at hW
  have hin : inB x 8 := inB_of (n := 8) (by decide) hb1 hb2
  obtain ⟨q0, hq0, rfl⟩ := hin
  refine lv_aload_n hx hb dX2_given_13 rfl (lv_at hl 1 rfl) ?_
  refine cx_calli (vx_runV (As := []) (rest := []) ⟨hx, hb, hml, hown, hts⟩ (c_freeNumber l hst D I Z F ad sa hI M H.size) (cwV 0 hts gX2_given_X2_freeNumber rfl rfl rfl (by decide +kernel) ⟨Nat.le_of_ble_eq_true rfl, Nat.le_of_ble_eq_true rfl⟩) (cx_preV hK hN hX hA hDa hW 0 (by decide) (cE_x I Z F ad M) rfl) rfl rfl hl.1 rfl (lv_room (Nat.le_of_ble_eq_true rfl)) dX2_given_14 ⟨Nat.le_of_ble_eq_true rfl, Nat.le_of_ble_eq_true rfl⟩) hA hDa hW (fun E ce q9 H locs hxp hW h1 h2 h3 => ?_) (fun r u H locs hp hW => ?_)
  · exact hprp 14 ls _ H locs 3 18 E ce q9 (Or.inr ⟨hxp.1, ⟨⟨k, hk⟩, ⟨q0, hq0, rfl⟩⟩, hxp.2⟩) hW (by decide) (by decide) h1 h2 h3
  obtain ⟨hu, f, hf, hr9⟩ := hp
  rw [hu] at hW
  rw [hr9]
  have hf12 := hf.1
  refine lv_istore (lv' := [(5, .int (nI f)), (4, .ref (ad (25 + 6 * k))), (0, .ref (ad 0)), (1, .int a1), (2, .int (nI q0)), (3, .int y)]) hx hb dX2_given_17 hl (by decide) rfl (fun ls hl => ?_)
  refine lv_aload_n hx hb dX2_given_19 rfl (lv_at hl 2 rfl) ?_
  refine cr_get (v := .ref (ad 1)) hx hb hts hin2 hown hK hW 0 (by decide) (cE_x I Z F ad M) rfl 0 (by decide) rfl (by decide +kernel) rfl dX2_given_20 ?_
  refine lv_iload hx hb dX2_given_23 (lv_at hl 0 rfl) ?_
  refine cr_fald hx hb hK hW f hf12 rfl dX2_given_25 ?_
  refine cr_getN (v := .ref (ad (25 + 6 * f + 1))) (host := "SharedForks") hx hb hts hin0 hown hK hW (25 + 6 * f) (by omega) (cE_d0 I Z F ad M f) rfl 1 (by decide) rfl hN (by decide +kernel) rfl dX2_given_26 ?_
  refine lv_astore (lv' := [(6, .ref (ad (25 + 6 * f + 1))), (5, .int (nI f)), (4, .ref (ad (25 + 6 * k))), (0, .ref (ad 0)), (1, .int a1), (2, .int (nI q0)), (3, .int y)]) hx hb dX2_given_29 hl (by decide) rfl (fun ls hl => ?_)
  refine lv_iconst (v := 0) hx hb dX2_given_31 (by decide) ?_
  refine lv_istore (lv' := [(7, .int 0), (6, .ref (ad (25 + 6 * f + 1))), (5, .int (nI f)), (4, .ref (ad (25 + 6 * k))), (0, .ref (ad 0)), (1, .int a1), (2, .int (nI q0)), (3, .int y)]) hx hb dX2_given_32 hl (by decide) rfl (fun ls hl => ?_)
  have nk : 25 + 6 * k + 1 ≠ 25 + 6 * f + 1 := by have := frOk_ne hf hk.2.2; omega
  have loop : ∀ q j : Nat, j + q = 256 → ∀ (ls : Array Slot) (H : Heap) (locs : List Loc), lv_has ls 8 [(7, .int (nI j)), (0, .ref (ad 0)), (5, .int (nI f)), (4, .ref (ad (25 + 6 * k))), (2, .int (nI q0)), (3, .int y), (6, .ref (ad (25 + 6 * f + 1)))] → cB9 D I Z F ad A s.heap (flC M (25 + 6 * f + 1) (gvT M k (nI q0) y) j) H locs → W p l e rm_given s m args below meth c H locs 3 18 Q (F0 m 34 ls []) := by
    intro q
    induction q with
    | zero =>
      intro j hj ls H locs hl hW
      obtain rfl : j = 256 := by omega
      refine lv_iload hx hb dX2_given_34 (lv_at hl 0 rfl) ?_
      refine lv_sipush (v := 256) hx hb dX2_given_36 (by decide) ?_
      refine lv_icmp_ge (tgt := 66) hx hb dX2_given_39 (by decide) (fun c1 => ?_) (fun c1 => ?_)
      · skip
        refine lv_aload_n hx hb dX2_given_66 rfl (lv_at hl 1 rfl) ?_
        refine lv_iload hx hb dX2_given_67 (lv_at hl 2 rfl) ?_
        refine cr_calli (va_runV (As := [.int (nI f)]) (rest := []) ⟨hx, hb, hml, hown, hts⟩ (c_keep l D I Z F ad hI (flC M (25 + 6 * f + 1) (gvT M k (nI q0) y) 256) H.size f hf12) (cwV 1 hts gX2_given_X2_keep rfl rfl rfl (by decide +kernel) ⟨Nat.le_of_ble_eq_true rfl, Nat.le_of_ble_eq_true rfl⟩) (cr_preV hK hN hW 0 (by decide) (cE_x I Z F ad (flC M (25 + 6 * f + 1) (gvT M k (nI q0) y) 256)) rfl) rfl rfl hl.1 rfl (lv_room (Nat.le_of_ble_eq_true rfl)) dX2_given_69 ⟨Nat.le_of_ble_eq_true rfl, Nat.le_of_ble_eq_true rfl⟩) hA hDa hW (fun r u H locs hp hW => ?_)
        obtain ⟨hu, hv9⟩ := hp
        rw [hu] at hW
        rw [hv9]
        exact hret 72 ls H locs 3 18 _ _ dX2_given_72 (by decide) (by decide) (⟨k, q0, f, hk, hq0, rfl, hf, rfl, rfl⟩) hW
      · exact absurd (nI_le (Nat.le_refl 256) (by decide)) c1
    | succ q ih =>
      intro j hj ls H locs hl hW
      refine lv_iload hx hb dX2_given_34 (lv_at hl 0 rfl) ?_
      refine lv_sipush (v := 256) hx hb dX2_given_36 (by decide) ?_
      refine lv_icmp_ge (tgt := 66) hx hb dX2_given_39 (by decide) (fun c1 => ?_) (fun c1 => ?_)
      · exact absurd c1 (nI_ge (b := 256) (by omega) (by decide))
      · skip
        have ek : flC M (25 + 6 * f + 1) (gvT M k (nI q0) y) j (25 + 6 * k + 1) = M (25 + 6 * k + 1) := flC_row nk
        refine lv_aload hx hb dX2_given_42 (lv_at hl 6 rfl) ?_
        refine lv_iload hx hb dX2_given_44 (lv_at hl 0 rfl) ?_
        refine lv_aload hx hb dX2_given_46 (lv_at hl 3 rfl) ?_
        refine cr_getN (v := .ref (ad (25 + 6 * k + 1))) (host := "SharedForks") hx hb hts hin0 hown hK hW (25 + 6 * k) (by omega) (cE_d0 I Z F ad (flC M (25 + 6 * f + 1) (gvT M k (nI q0) y) j) k) rfl 1 (by decide) rfl hN (by decide +kernel) rfl dX2_given_48 ?_
        refine lv_iload hx hb dX2_given_51 (lv_at hl 0 rfl) ?_
        refine lv_iload_n hx hb dX2_given_53 rfl (lv_at hl 4 rfl) ?_
        refine lv_iload_n hx hb dX2_given_54 rfl (lv_at hl 5 rfl) ?_
        refine cr_calli (va_runS (As := [.int (nI j), .int (nI q0), .int y]) (rest := [.ref (ad (25 + 6 * k + 1)), .int (nI j), .ref (ad (25 + 6 * f + 1))]) ⟨hx, hb, hml, hown, hts⟩ (c_withAnswer l D I Z F ad hI (flC M (25 + 6 * f + 1) (gvT M k (nI q0) y) j) H.size (nI j) (nI q0) y) (va_cwS 3 hts gX2_given_X2_withAnswer rfl rfl rfl (by decide +kernel) ⟨Nat.le_of_ble_eq_true rfl, Nat.le_of_ble_eq_true rfl⟩) (cr_preS hK hN hW) rfl rfl hl.1 rfl (lv_room (Nat.le_of_ble_eq_true rfl)) dX2_given_55 ⟨Nat.le_of_ble_eq_true rfl, Nat.le_of_ble_eq_true rfl⟩) hA hDa hW (fun r u H locs hp hW => ?_)
        obtain ⟨hu, hv9⟩ := hp
        rw [hu] at hW
        obtain ⟨a, ha, ea⟩ := waF_in q0 hq0 j (by omega) y
        rw [hv9, ea]
        refine cr_zald hx hb hK hW (25 + 6 * k + 1) (by omega) (cE_d1 I Z F ad (flC M (25 + 6 * f + 1) (gvT M k (nI q0) y) j) k) a ha (by decide) rfl dX2_given_58 ?_
        rw [ek]
        refine cr_zast hx hb hK hDa hW (25 + 6 * f + 1) (by omega) (cE_d1 I Z F ad _ f) j (by omega) (by decide) rfl (hys k hk12 a ha) dX2_given_59 (fun H locs hW => ?_)
        rw [flC_s M (25 + 6 * f + 1) (gvT M k (nI q0) y) j (v := M (25 + 6 * k + 1) a) (by rw [gvT, ea, nI_clamp (by omega)])] at hW
        refine lv_iinc (v := nI (j + 1)) (lv' := [(7, .int (nI (j + 1))), (0, .ref (ad 0)), (5, .int (nI f)), (4, .ref (ad (25 + 6 * k))), (2, .int (nI q0)), (3, .int y), (6, .ref (ad (25 + 6 * f + 1)))]) hx hb dX2_given_60 hl (k := 0) rfl (nI_1 j) (by decide) rfl (fun ls hl => ?_)
        refine lv_goto (tgt := 34) hx hb dX2_given_63 (by decide) ?_
        exact ih (j + 1) (by omega) ls H locs (lv_sub hl [0, 1, 2, 3, 4, 5, 6] rfl) hW
  exact loop 256 0 (by decide) ls H locs (lv_sub hl [0, 4, 2, 3, 6, 7, 1] rfl) (by rw [flC_0]; exact hW)

abbrev rm_without : Room := { frames := 14, cells := 3, slots := 18, locals := 800 }
set_option maxHeartbeats 4000000 in
set_option maxRecDepth 100000 in
/-- what a fold says to both answers to a question, or to one -/
theorem c_without (l : Launch) (hst : l.stackTraces = false) (D : va_G) (I Z F : ClassId) (ad sa : Nat → Nat) (hI : cI ad) (M : Nat → Nat → Int32) (sz : Nat) (hys : ysOk M) (a1 x y : Int32) : vx_Met l yX2_without wsX2_without rm_without (va_Pc [.ref (ad 0), .int a1, .int x, .int y] (cUX D I Z F ad sa sz M)) (va_Qi (fun (r : Int32) (u : Nat → Nat → Int32) => ∃ k q0 f : Nat, fdOk M a1 k ∧ q0 < 8 ∧ x = nI q0 ∧ frOk M f ∧ r = nI f ∧ u = nwF M f (woT M k (nI q0) y)) (fun u t => cP D I Z F ad u t.heap) (cA ad sz)) (xQ D I Z F ad M sz (fun E => xpN M ((∃ k, fdOk M a1 k) ∧ inB x 8) E)) 3 18 (cA ad sz) := by
  refine cMetX_i (cc := cX2_without) (maxL := 10) hst hI (by decide) rfl ⟨rfl, rfl, by decide, by decide⟩ RX2 rfl (Nat.le_of_ble_eq_true rfl) (lv := [(0, .ref (ad 0)), (1, .int a1), (2, .int x), (3, .int y)]) rfl ?_
  intro p e s m args below meth c Q A ls hsz C0 hX hW hl hret hthr hprp
  obtain ⟨hx, hb, hml, hts, hown, hlocks, hK, hN, hDa, hA, hargs⟩ := C0
  have hin2 : ∀ w ∈ u_ws RX2 TX2 6, w ∈ wsX2_without := by decide +kernel
  have hin0 : ∀ w ∈ u_ws RX0 TX0 7, w ∈ wsX2_without := by decide +kernel
  have hin1 : ∀ w ∈ u_ws RX1 TX1 10, w ∈ wsX2_without := by decide +kernel
  refine lv_aload_n hx hb dX2_without_0 rfl (lv_at hl 0 rfl) ?_
  refine lv_iload_n hx hb dX2_without_1 rfl (lv_at hl 1 rfl) ?_
  refine cx_callq (vx_runV (As := [.int a1]) (rest := []) ⟨hx, hb, hml, hown, hts⟩ (c_foldAt l hst D I Z F ad sa hI M s.heap.size a1) (cwV 1 hts gX2_without_X2_foldAt rfl rfl rfl (by decide +kernel) ⟨Nat.le_of_ble_eq_true rfl, Nat.le_of_ble_eq_true rfl⟩) (cx_preV hK hN hX hA hDa hW 0 (by decide) (cE_x I Z F ad M) rfl) rfl rfl hl.1 rfl (lv_room (Nat.le_of_ble_eq_true rfl)) dX2_without_2 ⟨Nat.le_of_ble_eq_true rfl, Nat.le_of_ble_eq_true rfl⟩) hA hDa hW (fun E ce q9 H locs hxp hW h1 h2 h3 => ?_) (fun r k H locs hp hW => ?_)
  · exact hprp 2 ls _ H locs 1 6 E ce q9 (Or.inl ⟨hxp.1, fun h => hxp.2 h.1⟩) hW (by decide) (by decide) h1 h2 h3
  obtain ⟨hk, hr9⟩ := hp
  subst hr9
  have hk12 := hk.1
  show W p l e rm_without s m args below meth c H locs 1 6 Q (F0 m 5 ls (.ref (ad (25 + 6 * k)) :: []))
  refine lv_astore (lv' := [(4, .ref (ad (25 + 6 * k))), (0, .ref (ad 0)), (1, .int a1), (2, .int x), (3, .int y)]) hx hb dX2_without_5 hl (by decide) rfl (fun ls hl => ?_)
  refine lv_iload_n hx hb dX2_without_7 rfl (lv_at hl 3 rfl) ?_
  refine lv_bipush (v := 8) hx hb dX2_without_8 (by decide) ?_
  refine cx_callv (vx_runS (As := [.int x, .int 8]) (rest := []) ⟨hx, hb, hml, hown, hts⟩ (c_checkBelow l hst D I Z F ad sa hI M H.size x 8) (va_cwS 2 hts gX2_without_X2_checkBelow rfl rfl rfl (by decide +kernel) ⟨Nat.le_of_ble_eq_true rfl, Nat.le_of_ble_eq_true rfl⟩) (cx_preS hK hN hX hA hDa hW) rfl rfl hl.1 rfl (lv_room (Nat.le_of_ble_eq_true rfl)) dX2_without_10 ⟨Nat.le_of_ble_eq_true rfl, Nat.le_of_ble_eq_true rfl⟩) hA hDa hW (fun E ce q9 H locs hxp hW h1 h2 h3 => ?_) (fun u H locs hp hW => ?_)
  · exact hprp 10 ls _ H locs 2 12 E ce q9 (Or.inl ⟨hxp.1, fun h => inB_no (n := 8) (by decide) hxp.2 h.2⟩) hW (by decide) (by decide) h1 h2 h3
  obtain ⟨hu, hb1, hb2⟩ := hp
  rw [hu] at hW
  have hin : inB x 8 := inB_of (n := 8) (by decide) hb1 hb2
  obtain ⟨q0, hq0, rfl⟩ := hin
  refine lv_aload_n hx hb dX2_without_13 rfl (lv_at hl 1 rfl) ?_
  refine cx_calli (vx_runV (As := []) (rest := []) ⟨hx, hb, hml, hown, hts⟩ (c_freeNumber l hst D I Z F ad sa hI M H.size) (cwV 0 hts gX2_without_X2_freeNumber rfl rfl rfl (by decide +kernel) ⟨Nat.le_of_ble_eq_true rfl, Nat.le_of_ble_eq_true rfl⟩) (cx_preV hK hN hX hA hDa hW 0 (by decide) (cE_x I Z F ad M) rfl) rfl rfl hl.1 rfl (lv_room (Nat.le_of_ble_eq_true rfl)) dX2_without_14 ⟨Nat.le_of_ble_eq_true rfl, Nat.le_of_ble_eq_true rfl⟩) hA hDa hW (fun E ce q9 H locs hxp hW h1 h2 h3 => ?_) (fun r u H locs hp hW => ?_)
  · exact hprp 14 ls _ H locs 3 18 E ce q9 (Or.inr ⟨hxp.1, ⟨⟨k, hk⟩, ⟨q0, hq0, rfl⟩⟩, hxp.2⟩) hW (by decide) (by decide) h1 h2 h3
  obtain ⟨hu, f, hf, hr9⟩ := hp
  rw [hu] at hW
  rw [hr9]
  have hf12 := hf.1
  refine lv_istore (lv' := [(5, .int (nI f)), (4, .ref (ad (25 + 6 * k))), (0, .ref (ad 0)), (1, .int a1), (2, .int (nI q0)), (3, .int y)]) hx hb dX2_without_17 hl (by decide) rfl (fun ls hl => ?_)
  refine lv_aload_n hx hb dX2_without_19 rfl (lv_at hl 2 rfl) ?_
  refine cr_get (v := .ref (ad 1)) hx hb hts hin2 hown hK hW 0 (by decide) (cE_x I Z F ad M) rfl 0 (by decide) rfl (by decide +kernel) rfl dX2_without_20 ?_
  refine lv_iload hx hb dX2_without_23 (lv_at hl 0 rfl) ?_
  refine cr_fald hx hb hK hW f hf12 rfl dX2_without_25 ?_
  refine cr_getN (v := .ref (ad (25 + 6 * f + 1))) (host := "SharedForks") hx hb hts hin0 hown hK hW (25 + 6 * f) (by omega) (cE_d0 I Z F ad M f) rfl 1 (by decide) rfl hN (by decide +kernel) rfl dX2_without_26 ?_
  refine lv_astore (lv' := [(6, .ref (ad (25 + 6 * f + 1))), (5, .int (nI f)), (4, .ref (ad (25 + 6 * k))), (0, .ref (ad 0)), (1, .int a1), (2, .int (nI q0)), (3, .int y)]) hx hb dX2_without_29 hl (by decide) rfl (fun ls hl => ?_)
  refine lv_iconst (v := 0) hx hb dX2_without_31 (by decide) ?_
  refine lv_istore (lv' := [(7, .int 0), (6, .ref (ad (25 + 6 * f + 1))), (5, .int (nI f)), (4, .ref (ad (25 + 6 * k))), (0, .ref (ad 0)), (1, .int a1), (2, .int (nI q0)), (3, .int y)]) hx hb dX2_without_32 hl (by decide) rfl (fun ls hl => ?_)
  have nk : 25 + 6 * k + 1 ≠ 25 + 6 * f + 1 := by have := frOk_ne hf hk.2.2; omega
  have loop : ∀ q j : Nat, j + q = 256 → ∀ (ls : Array Slot) (H : Heap) (locs : List Loc), lv_has ls 10 [(7, .int (nI j)), (0, .ref (ad 0)), (5, .int (nI f)), (4, .ref (ad (25 + 6 * k))), (2, .int (nI q0)), (3, .int y), (6, .ref (ad (25 + 6 * f + 1)))] → cB9 D I Z F ad A s.heap (flC M (25 + 6 * f + 1) (woT M k (nI q0) y) j) H locs → W p l e rm_without s m args below meth c H locs 3 18 Q (F0 m 34 ls []) := by
    intro q
    induction q with
    | zero =>
      intro j hj ls H locs hl hW
      obtain rfl : j = 256 := by omega
      refine lv_iload hx hb dX2_without_34 (lv_at hl 0 rfl) ?_
      refine lv_sipush (v := 256) hx hb dX2_without_36 (by decide) ?_
      refine lv_icmp_ge (tgt := 120) hx hb dX2_without_39 (by decide) (fun c1 => ?_) (fun c1 => ?_)
      · skip
        refine lv_aload_n hx hb dX2_without_120 rfl (lv_at hl 1 rfl) ?_
        refine lv_iload hx hb dX2_without_121 (lv_at hl 2 rfl) ?_
        refine cr_calli (va_runV (As := [.int (nI f)]) (rest := []) ⟨hx, hb, hml, hown, hts⟩ (c_keep l D I Z F ad hI (flC M (25 + 6 * f + 1) (woT M k (nI q0) y) 256) H.size f hf12) (cwV 1 hts gX2_without_X2_keep rfl rfl rfl (by decide +kernel) ⟨Nat.le_of_ble_eq_true rfl, Nat.le_of_ble_eq_true rfl⟩) (cr_preV hK hN hW 0 (by decide) (cE_x I Z F ad (flC M (25 + 6 * f + 1) (woT M k (nI q0) y) 256)) rfl) rfl rfl hl.1 rfl (lv_room (Nat.le_of_ble_eq_true rfl)) dX2_without_123 ⟨Nat.le_of_ble_eq_true rfl, Nat.le_of_ble_eq_true rfl⟩) hA hDa hW (fun r u H locs hp hW => ?_)
        obtain ⟨hu, hv9⟩ := hp
        rw [hu] at hW
        rw [hv9]
        exact hret 126 ls H locs 3 18 _ _ dX2_without_126 (by decide) (by decide) (⟨k, q0, f, hk, hq0, rfl, hf, rfl, rfl⟩) hW
      · exact absurd (nI_le (Nat.le_refl 256) (by decide)) c1
    | succ q ih =>
      intro j hj ls H locs hl hW
      refine lv_iload hx hb dX2_without_34 (lv_at hl 0 rfl) ?_
      refine lv_sipush (v := 256) hx hb dX2_without_36 (by decide) ?_
      refine lv_icmp_ge (tgt := 120) hx hb dX2_without_39 (by decide) (fun c1 => ?_) (fun c1 => ?_)
      · exact absurd c1 (nI_ge (b := 256) (by omega) (by decide))
      · skip
        have ek : flC M (25 + 6 * f + 1) (woT M k (nI q0) y) j (25 + 6 * k + 1) = M (25 + 6 * k + 1) := flC_row nk
        refine lv_aload hx hb dX2_without_42 (lv_at hl 3 rfl) ?_
        refine cr_getN (v := .ref (ad (25 + 6 * k + 1))) (host := "SharedForks") hx hb hts hin0 hown hK hW (25 + 6 * k) (by omega) (cE_d0 I Z F ad (flC M (25 + 6 * f + 1) (woT M k (nI q0) y) j) k) rfl 1 (by decide) rfl hN (by decide +kernel) rfl dX2_without_44 ?_
        refine lv_iload hx hb dX2_without_47 (lv_at hl 0 rfl) ?_
        refine lv_iload_n hx hb dX2_without_49 rfl (lv_at hl 4 rfl) ?_
        refine lv_iconst (v := 0) hx hb dX2_without_50 (by decide) ?_
        refine cr_calli (va_runS (As := [.int (nI j), .int (nI q0), .int 0]) (rest := [.ref (ad (25 + 6 * k + 1))]) ⟨hx, hb, hml, hown, hts⟩ (c_withAnswer l D I Z F ad hI (flC M (25 + 6 * f + 1) (woT M k (nI q0) y) j) H.size (nI j) (nI q0) 0) (va_cwS 3 hts gX2_without_X2_withAnswer rfl rfl rfl (by decide +kernel) ⟨Nat.le_of_ble_eq_true rfl, Nat.le_of_ble_eq_true rfl⟩) (cr_preS hK hN hW) rfl rfl hl.1 rfl (lv_room (Nat.le_of_ble_eq_true rfl)) dX2_without_51 ⟨Nat.le_of_ble_eq_true rfl, Nat.le_of_ble_eq_true rfl⟩) hA hDa hW (fun r u H locs hp hW => ?_)
        obtain ⟨hu, hv9⟩ := hp
        rw [hu] at hW
        obtain ⟨a, ha, ea⟩ := waF_in q0 hq0 j (by omega) 0
        rw [hv9, ea]
        refine cr_zald hx hb hK hW (25 + 6 * k + 1) (by omega) (cE_d1 I Z F ad (flC M (25 + 6 * f + 1) (woT M k (nI q0) y) j) k) a ha (by decide) rfl dX2_without_54 ?_
        rw [ek]
        refine lv_istore (lv' := [(8, .int (M (25 + 6 * k + 1) a)), (7, .int (nI j)), (0, .ref (ad 0)), (5, .int (nI f)), (4, .ref (ad (25 + 6 * k))), (2, .int (nI q0)), (3, .int y), (6, .ref (ad (25 + 6 * f + 1)))]) hx hb dX2_without_55 hl (by decide) rfl (fun ls hl => ?_)
        refine lv_aload hx hb dX2_without_57 (lv_at hl 4 rfl) ?_
        refine cr_getN (v := .ref (ad (25 + 6 * k + 1))) (host := "SharedForks") hx hb hts hin0 hown hK hW (25 + 6 * k) (by omega) (cE_d0 I Z F ad (flC M (25 + 6 * f + 1) (woT M k (nI q0) y) j) k) rfl 1 (by decide) rfl hN (by decide +kernel) rfl dX2_without_59 ?_
        refine lv_iload hx hb dX2_without_62 (lv_at hl 1 rfl) ?_
        refine lv_iload_n hx hb dX2_without_64 rfl (lv_at hl 5 rfl) ?_
        refine lv_iconst (v := 1) hx hb dX2_without_65 (by decide) ?_
        refine cr_calli (va_runS (As := [.int (nI j), .int (nI q0), .int 1]) (rest := [.ref (ad (25 + 6 * k + 1))]) ⟨hx, hb, hml, hown, hts⟩ (c_withAnswer l D I Z F ad hI (flC M (25 + 6 * f + 1) (woT M k (nI q0) y) j) H.size (nI j) (nI q0) 1) (va_cwS 3 hts gX2_without_X2_withAnswer rfl rfl rfl (by decide +kernel) ⟨Nat.le_of_ble_eq_true rfl, Nat.le_of_ble_eq_true rfl⟩) (cr_preS hK hN hW) rfl rfl hl.1 rfl (lv_room (Nat.le_of_ble_eq_true rfl)) dX2_without_66 ⟨Nat.le_of_ble_eq_true rfl, Nat.le_of_ble_eq_true rfl⟩) hA hDa hW (fun r u H locs hp hW => ?_)
        obtain ⟨hu, hv9⟩ := hp
        rw [hu] at hW
        obtain ⟨b8, hb8, eb8⟩ := waF_in q0 hq0 j (by omega) 1
        rw [hv9, eb8]
        refine cr_zald hx hb hK hW (25 + 6 * k + 1) (by omega) (cE_d1 I Z F ad (flC M (25 + 6 * f + 1) (woT M k (nI q0) y) j) k) b8 hb8 (by decide) rfl dX2_without_69 ?_
        rw [ek]
        have hT : (woT M k (nI q0) y) j = if y = 0 then b2 (¬ M (25 + 6 * k + 1) a = 0 ∨ ¬ M (25 + 6 * k + 1) b8 = 0) else b2 (¬ M (25 + 6 * k + 1) a = 0 ∧ ¬ M (25 + 6 * k + 1) b8 = 0) := by simp only [woT, ea, eb8, nI_clamp (show a < 2 ^ 31 by omega), nI_clamp (show b8 < 2 ^ 31 by omega)]
        refine lv_istore (lv' := [(9, .int (M (25 + 6 * k + 1) b8)), (8, .int (M (25 + 6 * k + 1) a)), (7, .int (nI j)), (0, .ref (ad 0)), (5, .int (nI f)), (4, .ref (ad (25 + 6 * k))), (2, .int (nI q0)), (3, .int y), (6, .ref (ad (25 + 6 * f + 1)))]) hx hb dX2_without_70 hl (by decide) rfl (fun ls hl => ?_)
        refine lv_aload hx hb dX2_without_72 (lv_at hl 8 rfl) ?_
        refine lv_iload hx hb dX2_without_74 (lv_at hl 2 rfl) ?_
        refine lv_iload_n hx hb dX2_without_76 rfl (lv_at hl 7 rfl) ?_
        refine lv_if_eq (tgt := 98) hx hb dX2_without_77 (by decide) (fun c2 => ?_) (fun c2 => ?_)
        · skip
          refine lv_iload hx hb dX2_without_98 (lv_at hl 1 rfl) ?_
          refine lv_if_ne (tgt := 108) hx hb dX2_without_100 (by decide) (fun c3 => ?_) (fun c3 => ?_)
          · skip
            refine lv_iconst (v := 1) hx hb dX2_without_108 (by decide) ?_
            refine lv_goto (tgt := 113) hx hb dX2_without_109 (by decide) ?_
            refine cr_zast hx hb hK hDa hW (25 + 6 * f + 1) (by omega) (cE_d1 I Z F ad _ f) j (by omega) (by decide) rfl (Or.inr rfl) dX2_without_113 (fun H locs hW => ?_)
            rw [flC_s M (25 + 6 * f + 1) (woT M k (nI q0) y) j (v := 1) (by rw [hT]; simp [b2, c2, c3])] at hW
            refine lv_iinc (v := nI (j + 1)) (lv' := [(7, .int (nI (j + 1))), (9, .int (M (25 + 6 * k + 1) b8)), (8, .int (M (25 + 6 * k + 1) a)), (0, .ref (ad 0)), (5, .int (nI f)), (4, .ref (ad (25 + 6 * k))), (2, .int (nI q0)), (3, .int y), (6, .ref (ad (25 + 6 * f + 1)))]) hx hb dX2_without_114 hl (k := 2) rfl (nI_1 j) (by decide) rfl (fun ls hl => ?_)
            refine lv_goto (tgt := 34) hx hb dX2_without_117 (by decide) ?_
            exact ih (j + 1) (by omega) ls H locs (lv_sub hl [0, 3, 4, 5, 6, 7, 8] rfl) hW
          · skip
            refine lv_iload hx hb dX2_without_103 (lv_at hl 0 rfl) ?_
            refine lv_if_eq (tgt := 112) hx hb dX2_without_105 (by decide) (fun c4 => ?_) (fun c4 => ?_)
            · skip
              refine lv_iconst (v := 0) hx hb dX2_without_112 (by decide) ?_
              refine cr_zast hx hb hK hDa hW (25 + 6 * f + 1) (by omega) (cE_d1 I Z F ad _ f) j (by omega) (by decide) rfl (Or.inl rfl) dX2_without_113 (fun H locs hW => ?_)
              rw [flC_s M (25 + 6 * f + 1) (woT M k (nI q0) y) j (v := 0) (by rw [hT]; simp [b2, c2, c3, c4])] at hW
              refine lv_iinc (v := nI (j + 1)) (lv' := [(7, .int (nI (j + 1))), (9, .int (M (25 + 6 * k + 1) b8)), (8, .int (M (25 + 6 * k + 1) a)), (0, .ref (ad 0)), (5, .int (nI f)), (4, .ref (ad (25 + 6 * k))), (2, .int (nI q0)), (3, .int y), (6, .ref (ad (25 + 6 * f + 1)))]) hx hb dX2_without_114 hl (k := 2) rfl (nI_1 j) (by decide) rfl (fun ls hl => ?_)
              refine lv_goto (tgt := 34) hx hb dX2_without_117 (by decide) ?_
              exact ih (j + 1) (by omega) ls H locs (lv_sub hl [0, 3, 4, 5, 6, 7, 8] rfl) hW
            · skip
              refine lv_iconst (v := 1) hx hb dX2_without_108 (by decide) ?_
              refine lv_goto (tgt := 113) hx hb dX2_without_109 (by decide) ?_
              refine cr_zast hx hb hK hDa hW (25 + 6 * f + 1) (by omega) (cE_d1 I Z F ad _ f) j (by omega) (by decide) rfl (Or.inr rfl) dX2_without_113 (fun H locs hW => ?_)
              rw [flC_s M (25 + 6 * f + 1) (woT M k (nI q0) y) j (v := 1) (by rw [hT]; simp [b2, c2, c3, c4])] at hW
              refine lv_iinc (v := nI (j + 1)) (lv' := [(7, .int (nI (j + 1))), (9, .int (M (25 + 6 * k + 1) b8)), (8, .int (M (25 + 6 * k + 1) a)), (0, .ref (ad 0)), (5, .int (nI f)), (4, .ref (ad (25 + 6 * k))), (2, .int (nI q0)), (3, .int y), (6, .ref (ad (25 + 6 * f + 1)))]) hx hb dX2_without_114 hl (k := 2) rfl (nI_1 j) (by decide) rfl (fun ls hl => ?_)
              refine lv_goto (tgt := 34) hx hb dX2_without_117 (by decide) ?_
              exact ih (j + 1) (by omega) ls H locs (lv_sub hl [0, 3, 4, 5, 6, 7, 8] rfl) hW
        · skip
          refine lv_iload hx hb dX2_without_80 (lv_at hl 1 rfl) ?_
          refine lv_if_eq (tgt := 94) hx hb dX2_without_82 (by decide) (fun c3 => ?_) (fun c3 => ?_)
          · skip
            refine lv_iconst (v := 0) hx hb dX2_without_94 (by decide) ?_
            refine lv_goto (tgt := 113) hx hb dX2_without_95 (by decide) ?_
            refine cr_zast hx hb hK hDa hW (25 + 6 * f + 1) (by omega) (cE_d1 I Z F ad _ f) j (by omega) (by decide) rfl (Or.inl rfl) dX2_without_113 (fun H locs hW => ?_)
            rw [flC_s M (25 + 6 * f + 1) (woT M k (nI q0) y) j (v := 0) (by rw [hT]; simp [b2, c2, c3])] at hW
            refine lv_iinc (v := nI (j + 1)) (lv' := [(7, .int (nI (j + 1))), (9, .int (M (25 + 6 * k + 1) b8)), (8, .int (M (25 + 6 * k + 1) a)), (0, .ref (ad 0)), (5, .int (nI f)), (4, .ref (ad (25 + 6 * k))), (2, .int (nI q0)), (3, .int y), (6, .ref (ad (25 + 6 * f + 1)))]) hx hb dX2_without_114 hl (k := 2) rfl (nI_1 j) (by decide) rfl (fun ls hl => ?_)
            refine lv_goto (tgt := 34) hx hb dX2_without_117 (by decide) ?_
            exact ih (j + 1) (by omega) ls H locs (lv_sub hl [0, 3, 4, 5, 6, 7, 8] rfl) hW
          · skip
            refine lv_iload hx hb dX2_without_85 (lv_at hl 0 rfl) ?_
            refine lv_if_eq (tgt := 94) hx hb dX2_without_87 (by decide) (fun c4 => ?_) (fun c4 => ?_)
            · skip
              refine lv_iconst (v := 0) hx hb dX2_without_94 (by decide) ?_
              refine lv_goto (tgt := 113) hx hb dX2_without_95 (by decide) ?_
              refine cr_zast hx hb hK hDa hW (25 + 6 * f + 1) (by omega) (cE_d1 I Z F ad _ f) j (by omega) (by decide) rfl (Or.inl rfl) dX2_without_113 (fun H locs hW => ?_)
              rw [flC_s M (25 + 6 * f + 1) (woT M k (nI q0) y) j (v := 0) (by rw [hT]; simp [b2, c2, c3, c4])] at hW
              refine lv_iinc (v := nI (j + 1)) (lv' := [(7, .int (nI (j + 1))), (9, .int (M (25 + 6 * k + 1) b8)), (8, .int (M (25 + 6 * k + 1) a)), (0, .ref (ad 0)), (5, .int (nI f)), (4, .ref (ad (25 + 6 * k))), (2, .int (nI q0)), (3, .int y), (6, .ref (ad (25 + 6 * f + 1)))]) hx hb dX2_without_114 hl (k := 2) rfl (nI_1 j) (by decide) rfl (fun ls hl => ?_)
              refine lv_goto (tgt := 34) hx hb dX2_without_117 (by decide) ?_
              exact ih (j + 1) (by omega) ls H locs (lv_sub hl [0, 3, 4, 5, 6, 7, 8] rfl) hW
            · skip
              refine lv_iconst (v := 1) hx hb dX2_without_90 (by decide) ?_
              refine lv_goto (tgt := 113) hx hb dX2_without_91 (by decide) ?_
              refine cr_zast hx hb hK hDa hW (25 + 6 * f + 1) (by omega) (cE_d1 I Z F ad _ f) j (by omega) (by decide) rfl (Or.inr rfl) dX2_without_113 (fun H locs hW => ?_)
              rw [flC_s M (25 + 6 * f + 1) (woT M k (nI q0) y) j (v := 1) (by rw [hT]; simp [b2, c2, c3, c4])] at hW
              refine lv_iinc (v := nI (j + 1)) (lv' := [(7, .int (nI (j + 1))), (9, .int (M (25 + 6 * k + 1) b8)), (8, .int (M (25 + 6 * k + 1) a)), (0, .ref (ad 0)), (5, .int (nI f)), (4, .ref (ad (25 + 6 * k))), (2, .int (nI q0)), (3, .int y), (6, .ref (ad (25 + 6 * f + 1)))]) hx hb dX2_without_114 hl (k := 2) rfl (nI_1 j) (by decide) rfl (fun ls hl => ?_)
              refine lv_goto (tgt := 34) hx hb dX2_without_117 (by decide) ?_
              exact ih (j + 1) (by omega) ls H locs (lv_sub hl [0, 3, 4, 5, 6, 7, 8] rfl) hW
  exact loop 256 0 (by decide) ls H locs (lv_sub hl [0, 4, 2, 3, 6, 7, 1] rfl) (by rw [flC_0]; exact hW)
end
section
abbrev rm_drop : Room := { frames := 14, cells := 1, slots := 6, locals := 800 }
set_option maxHeartbeats 4000000 in
set_option maxRecDepth 100000 in
/-- a fold is dropped -/
theorem c_drop (l : Launch) (hst : l.stackTraces = false) (D : va_G) (I Z F : ClassId) (ad sa : Nat → Nat) (hI : cI ad) (M : Nat → Nat → Int32) (sz : Nat) (a1 : Int32) : vx_Met l yX2_drop wsX2_drop rm_drop (va_Pc [.ref (ad 0), .int a1] (cUX D I Z F ad sa sz M)) (va_Qi (fun (r : Int32) (u : Nat → Nat → Int32) => ∃ k : Nat, fdOk M a1 k ∧ u = laF (mst M (25 + 6 * k) 0 0) ∧ r = sI (ckT u) 12) (fun u t => cP D I Z F ad u t.heap) (cA ad sz)) (xQ D I Z F ad M sz (fun E => E = xIO ∧ ¬ ∃ k, fdOk M a1 k)) 1 6 (cA ad sz) := by
  refine cMetX_i (cc := cX2_drop) (maxL := 2) hst hI (by decide) rfl ⟨rfl, rfl, by decide, by decide⟩ RX2 rfl (Nat.le_of_ble_eq_true rfl) (lv := [(0, .ref (ad 0)), (1, .int a1)]) rfl ?_
  intro p e s m args below meth c Q A ls hsz C0 hX hW hl hret hthr hprp
  obtain ⟨hx, hb, hml, hts, hown, hlocks, hK, hN, hDa, hA, hargs⟩ := C0
  have hin2 : ∀ w ∈ u_ws RX2 TX2 6, w ∈ wsX2_drop := by decide +kernel
  have hin0 : ∀ w ∈ u_ws RX0 TX0 7, w ∈ wsX2_drop := by decide +kernel
  have hin1 : ∀ w ∈ u_ws RX1 TX1 10, w ∈ wsX2_drop := by decide +kernel
  refine lv_aload_n hx hb dX2_drop_0 rfl (lv_at hl 0 rfl) ?_
  refine lv_iload_n hx hb dX2_drop_1 rfl (lv_at hl 1 rfl) ?_
  refine cx_callq (vx_runV (As := [.int a1]) (rest := []) ⟨hx, hb, hml, hown, hts⟩ (c_foldAt l hst D I Z F ad sa hI M s.heap.size a1) (cwV 1 hts gX2_drop_X2_foldAt rfl rfl rfl (by decide +kernel) ⟨Nat.le_of_ble_eq_true rfl, Nat.le_of_ble_eq_true rfl⟩) (cx_preV hK hN hX hA hDa hW 0 (by decide) (cE_x I Z F ad M) rfl) rfl rfl hl.1 rfl (lv_room (Nat.le_of_ble_eq_true rfl)) dX2_drop_2 ⟨Nat.le_of_ble_eq_true rfl, Nat.le_of_ble_eq_true rfl⟩) hA hDa hW (fun E ce q9 H locs hxp hW h1 h2 h3 => ?_) (fun r k H locs hp hW => ?_)
  · exact hprp 2 ls _ H locs 1 6 E ce q9 (hxp) hW (by decide) (by decide) h1 h2 h3
  obtain ⟨hk, hr9⟩ := hp
  subst hr9
  have hk12 := hk.1
  show W p l e rm_drop s m args below meth c H locs 1 6 Q (F0 m 5 ls (.ref (ad (25 + 6 * k)) :: []))
  refine lv_iconst (v := 0) hx hb dX2_drop_5 (by decide) ?_
  refine cr_putN (host := "SharedForks") hx hb hts hin0 tyX0 tyX0_ok nmX0 hown hK hDa hW (25 + 6 * k) (by omega) (cE_d0 I Z F ad M k) rfl 0 (by decide) rfl hN (by decide +kernel) (ty := .boolean) (by decide +kernel) (vp_narZn (Or.inl rfl)) (vp_narZf (Or.inl rfl)) (Nat.le_of_ble_eq_true rfl) (cS_d0p0 k _ _) dX2_drop_6 (fun H locs hW => ?_)
  refine lv_aload_n hx hb dX2_drop_9 rfl (lv_at hl 0 rfl) ?_
  refine cr_callv (va_runV (As := []) (rest := []) ⟨hx, hb, hml, hown, hts⟩ (c_layAll l D I Z F ad hI (mst M (25 + 6 * k) 0 0) H.size) (cwV 0 hts gX2_drop_X2_layAll rfl rfl rfl (by decide +kernel) ⟨Nat.le_of_ble_eq_true rfl, Nat.le_of_ble_eq_true rfl⟩) (cr_preV hK hN hW 0 (by decide) (cE_x I Z F ad (mst M (25 + 6 * k) 0 0)) rfl) rfl rfl hl.1 rfl (lv_room (Nat.le_of_ble_eq_true rfl)) dX2_drop_10 ⟨Nat.le_of_ble_eq_true rfl, Nat.le_of_ble_eq_true rfl⟩) hA hDa hW (fun u H locs hp hW => ?_)
  rw [hp] at hW
  refine lv_aload_n hx hb dX2_drop_13 rfl (lv_at hl 0 rfl) ?_
  refine cr_calli (va_runV (As := []) (rest := []) ⟨hx, hb, hml, hown, hts⟩ (c_countKept l D I Z F ad hI (laF (mst M (25 + 6 * k) 0 0)) H.size) (cwV 0 hts gX2_drop_X2_countKept rfl rfl rfl (by decide +kernel) ⟨Nat.le_of_ble_eq_true rfl, Nat.le_of_ble_eq_true rfl⟩) (cr_preV hK hN hW 0 (by decide) (cE_x I Z F ad (laF (mst M (25 + 6 * k) 0 0))) rfl) rfl rfl hl.1 rfl (lv_room (Nat.le_of_ble_eq_true rfl)) dX2_drop_14 ⟨Nat.le_of_ble_eq_true rfl, Nat.le_of_ble_eq_true rfl⟩) hA hDa hW (fun r u H locs hp hW => ?_)
  obtain ⟨hu, hv9⟩ := hp
  rw [hu] at hW
  rw [hv9]
  exact hret 17 ls H locs 1 6 _ _ dX2_drop_17 (by decide) (by decide) (⟨k, hk, rfl, rfl⟩) hW

abbrev rm_swap : Room := { frames := 14, cells := 1, slots := 6, locals := 800 }
set_option maxHeartbeats 4000000 in
set_option maxRecDepth 100000 in
/-- two neighbours of the order change places -/
theorem c_swap (l : Launch) (hst : l.stackTraces = false) (D : va_G) (I Z F : ClassId) (ad sa : Nat → Nat) (hI : cI ad) (M : Nat → Nat → Int32) (sz : Nat) (x : Int32) : vx_Met l yX2_swap wsX2_swap rm_swap (va_Pc [.ref (ad 0), .int x] (cUX D I Z F ad sa sz M)) (va_Qi (fun (r : Int32) (u : Nat → Nat → Int32) => ∃ p0 : Nat, p0 < 7 ∧ x = nI p0 ∧ u = laF (exF M 2 p0) ∧ r = u 3 0) (fun u t => cP D I Z F ad u t.heap) (cA ad sz)) (xQ D I Z F ad M sz (fun E => E = xIO ∧ ¬ inB x 7)) 1 6 (cA ad sz) := by
  refine cMetX_i (cc := cX2_swap) (maxL := 2) hst hI (by decide) rfl ⟨rfl, rfl, by decide, by decide⟩ RX2 rfl (Nat.le_of_ble_eq_true rfl) (lv := [(0, .ref (ad 0)), (1, .int x)]) rfl ?_
  intro p e s m args below meth c Q A ls hsz C0 hX hW hl hret hthr hprp
  obtain ⟨hx, hb, hml, hts, hown, hlocks, hK, hN, hDa, hA, hargs⟩ := C0
  have hin2 : ∀ w ∈ u_ws RX2 TX2 6, w ∈ wsX2_swap := by decide +kernel
  have hin0 : ∀ w ∈ u_ws RX0 TX0 7, w ∈ wsX2_swap := by decide +kernel
  have hin1 : ∀ w ∈ u_ws RX1 TX1 10, w ∈ wsX2_swap := by decide +kernel
  refine lv_iload_n hx hb dX2_swap_0 rfl (lv_at hl 1 rfl) ?_
  refine lv_bipush (v := 7) hx hb dX2_swap_1 (by decide) ?_
  refine cx_callv (vx_runS (As := [.int x, .int 7]) (rest := []) ⟨hx, hb, hml, hown, hts⟩ (c_checkBelow l hst D I Z F ad sa hI M s.heap.size x 7) (va_cwS 2 hts gX2_swap_X2_checkBelow rfl rfl rfl (by decide +kernel) ⟨Nat.le_of_ble_eq_true rfl, Nat.le_of_ble_eq_true rfl⟩) (cx_preS hK hN hX hA hDa hW) rfl rfl hl.1 rfl (lv_room (Nat.le_of_ble_eq_true rfl)) dX2_swap_3 ⟨Nat.le_of_ble_eq_true rfl, Nat.le_of_ble_eq_true rfl⟩) hA hDa hW (fun E ce q9 H locs hxp hW h1 h2 h3 => ?_) (fun u H locs hp hW => ?_)
  · exact hprp 3 ls _ H locs 1 6 E ce q9 (⟨hxp.1, inB_no (n := 7) (by decide) hxp.2⟩) hW (by decide) (by decide) h1 h2 h3
  obtain ⟨hu, hb1, hb2⟩ := hp
  rw [hu] at hW
  have hin : inB x 7 := inB_of (n := 7) (by decide) hb1 hb2
  obtain ⟨p0, hp0, rfl⟩ := hin
  refine lv_aload_n hx hb dX2_swap_6 rfl (lv_at hl 0 rfl) ?_
  refine cr_get (v := .ref (ad 2)) hx hb hts hin2 hown hK hW 0 (by decide) (cE_x I Z F ad M) rfl 1 (by decide) rfl (by decide +kernel) rfl dX2_swap_7 ?_
  refine lv_iload_n hx hb dX2_swap_10 rfl (lv_at hl 1 rfl) ?_
  refine cr_callv (va_runS (As := [.ref (ad 2), .int (nI p0)]) (rest := []) ⟨hx, hb, hml, hown, hts⟩ (c_exchange l D I Z F ad hI M H.size 2 (by decide) (cE_q I Z F ad M) p0 hp0) (va_cwS 2 hts gX2_swap_X2_exchange rfl rfl rfl (by decide +kernel) ⟨Nat.le_of_ble_eq_true rfl, Nat.le_of_ble_eq_true rfl⟩) (cr_preS hK hN hW) rfl rfl hl.1 rfl (lv_room (Nat.le_of_ble_eq_true rfl)) dX2_swap_11 ⟨Nat.le_of_ble_eq_true rfl, Nat.le_of_ble_eq_true rfl⟩) hA hDa hW (fun u H locs hp hW => ?_)
  rw [hp] at hW
  refine lv_aload_n hx hb dX2_swap_14 rfl (lv_at hl 0 rfl) ?_
  refine cr_callv (va_runV (As := []) (rest := []) ⟨hx, hb, hml, hown, hts⟩ (c_layAll l D I Z F ad hI (exF M 2 p0) H.size) (cwV 0 hts gX2_swap_X2_layAll rfl rfl rfl (by decide +kernel) ⟨Nat.le_of_ble_eq_true rfl, Nat.le_of_ble_eq_true rfl⟩) (cr_preV hK hN hW 0 (by decide) (cE_x I Z F ad (exF M 2 p0)) rfl) rfl rfl hl.1 rfl (lv_room (Nat.le_of_ble_eq_true rfl)) dX2_swap_15 ⟨Nat.le_of_ble_eq_true rfl, Nat.le_of_ble_eq_true rfl⟩) hA hDa hW (fun u H locs hp hW => ?_)
  rw [hp] at hW
  refine lv_aload_n hx hb dX2_swap_18 rfl (lv_at hl 0 rfl) ?_
  refine cr_get (v := .ref (ad 3)) hx hb hts hin2 hown hK hW 0 (by decide) (cE_x I Z F ad (laF (exF M 2 p0))) rfl 2 (by decide) rfl (by decide +kernel) rfl dX2_swap_19 ?_
  refine cr_getN (v := .int ((laF (exF M 2 p0)) 3 0)) (host := "SharedForks") hx hb hts hin1 hown hK hW 3 (by decide) (cE_f0 I Z F ad (laF (exF M 2 p0)) (Or.inl rfl)) rfl 0 (by decide) rfl hN (by decide +kernel) rfl dX2_swap_22 ?_
  exact hret 25 ls H locs 1 6 _ _ dX2_swap_25 (by decide) (by decide) (⟨p0, hp0, rfl, rfl, rfl⟩) hW

abbrev rm_order : Room := { frames := 9, cells := 1, slots := 6, locals := 200 }
set_option maxHeartbeats 4000000 in
set_option maxRecDepth 100000 in
/-- the question at a place -/
theorem c_order (l : Launch) (hst : l.stackTraces = false) (D : va_G) (I Z F : ClassId) (ad sa : Nat → Nat) (hI : cI ad) (M : Nat → Nat → Int32) (sz : Nat) (x : Int32) : vx_Met l yX2_order wsX2_order rm_order (va_Pc [.ref (ad 0), .int x] (cUX D I Z F ad sa sz M)) (va_Qi (fun (r : Int32) (u : Nat → Nat → Int32) => ∃ p0 : Nat, p0 < 8 ∧ x = nI p0 ∧ u = M ∧ r = M 2 p0) (fun u t => cP D I Z F ad u t.heap) (cA ad sz)) (xQ D I Z F ad M sz (fun E => E = xIO ∧ ¬ inB x 8)) 1 6 (cA ad sz) := by
  refine cMetX_i (cc := cX2_order) (maxL := 2) hst hI (by decide) rfl ⟨rfl, rfl, by decide, by decide⟩ RX2 rfl (Nat.le_of_ble_eq_true rfl) (lv := [(0, .ref (ad 0)), (1, .int x)]) rfl ?_
  intro p e s m args below meth c Q A ls hsz C0 hX hW hl hret hthr hprp
  obtain ⟨hx, hb, hml, hts, hown, hlocks, hK, hN, hDa, hA, hargs⟩ := C0
  have hin2 : ∀ w ∈ u_ws RX2 TX2 6, w ∈ wsX2_order := by decide +kernel
  refine lv_iload_n hx hb dX2_order_0 rfl (lv_at hl 1 rfl) ?_
  refine lv_bipush (v := 8) hx hb dX2_order_1 (by decide) ?_
  refine cx_callv (vx_runS (As := [.int x, .int 8]) (rest := []) ⟨hx, hb, hml, hown, hts⟩ (c_checkBelow l hst D I Z F ad sa hI M s.heap.size x 8) (va_cwS 2 hts gX2_order_X2_checkBelow rfl rfl rfl (by decide +kernel) ⟨Nat.le_of_ble_eq_true rfl, Nat.le_of_ble_eq_true rfl⟩) (cx_preS hK hN hX hA hDa hW) rfl rfl hl.1 rfl (lv_room (Nat.le_of_ble_eq_true rfl)) dX2_order_3 ⟨Nat.le_of_ble_eq_true rfl, Nat.le_of_ble_eq_true rfl⟩) hA hDa hW (fun E ce q9 H locs hxp hW h1 h2 h3 => ?_) (fun u H locs hp hW => ?_)
  · exact hprp 3 ls _ H locs 1 6 E ce q9 (⟨hxp.1, inB_no (n := 8) (by decide) hxp.2⟩) hW (by decide) (by decide) h1 h2 h3
  obtain ⟨hu, hb1, hb2⟩ := hp
  rw [hu] at hW
  have hin : inB x 8 := inB_of (n := 8) (by decide) hb1 hb2
  obtain ⟨p0, hp0, rfl⟩ := hin
  refine lv_aload_n hx hb dX2_order_6 rfl (lv_at hl 0 rfl) ?_
  refine cr_get (v := .ref (ad 2)) hx hb hts hin2 hown hK hW 0 (by decide) (cE_x I Z F ad M) rfl 1 (by decide) rfl (by decide +kernel) rfl dX2_order_7 ?_
  refine lv_iload_n hx hb dX2_order_10 rfl (lv_at hl 1 rfl) ?_
  refine cr_iald hx hb hK hW 2 (by decide) (cE_q I Z F ad M) p0 hp0 (by decide) rfl dX2_order_11 ?_
  exact hret 12 ls H locs 1 6 _ _ dX2_order_12 (by decide) (by decide) (⟨p0, hp0, rfl, rfl, rfl⟩) hW

abbrev rm_has : Room := { frames := 9, cells := 1, slots := 6, locals := 200 }
set_option maxHeartbeats 4000000 in
set_option maxRecDepth 100000 in
/-- whether there is a fold with a number -/
theorem c_has (l : Launch) (hst : l.stackTraces = false) (D : va_G) (I Z F : ClassId) (ad sa : Nat → Nat) (hI : cI ad) (M : Nat → Nat → Int32) (sz : Nat) (hks : ksOk M) (x : Int32) : vx_Met l yX2_has wsX2_has rm_has (va_Pc [.ref (ad 0), .int x] (cUX D I Z F ad sa sz M)) (va_Qi (fun (r : Int32) (u : Nat → Nat → Int32) => ∃ f : Nat, f < 12 ∧ x = nI f ∧ u = M ∧ r = M (25 + 6 * f) 0) (fun u t => cP D I Z F ad u t.heap) (cA ad sz)) (xQ D I Z F ad M sz (fun E => E = xIO ∧ ¬ inB x 12)) 1 6 (cA ad sz) := by
  refine cMetX_z (cc := cX2_has) (maxL := 2) hst hI (by decide) rfl ⟨rfl, rfl, by decide, by decide⟩ RX2 rfl (Nat.le_of_ble_eq_true rfl) (lv := [(0, .ref (ad 0)), (1, .int x)]) rfl ?_
  intro p e s m args below meth c Q A ls hsz C0 hX hW hl hret hthr hprp
  obtain ⟨hx, hb, hml, hts, hown, hlocks, hK, hN, hDa, hA, hargs⟩ := C0
  have hin2 : ∀ w ∈ u_ws RX2 TX2 6, w ∈ wsX2_has := by decide +kernel
  have hin0 : ∀ w ∈ u_ws RX0 TX0 7, w ∈ wsX2_has := by decide +kernel
  refine lv_iload_n hx hb dX2_has_0 rfl (lv_at hl 1 rfl) ?_
  refine lv_bipush (v := 12) hx hb dX2_has_1 (by decide) ?_
  refine cx_callv (vx_runS (As := [.int x, .int 12]) (rest := []) ⟨hx, hb, hml, hown, hts⟩ (c_checkBelow l hst D I Z F ad sa hI M s.heap.size x 12) (va_cwS 2 hts gX2_has_X2_checkBelow rfl rfl rfl (by decide +kernel) ⟨Nat.le_of_ble_eq_true rfl, Nat.le_of_ble_eq_true rfl⟩) (cx_preS hK hN hX hA hDa hW) rfl rfl hl.1 rfl (lv_room (Nat.le_of_ble_eq_true rfl)) dX2_has_3 ⟨Nat.le_of_ble_eq_true rfl, Nat.le_of_ble_eq_true rfl⟩) hA hDa hW (fun E ce q9 H locs hxp hW h1 h2 h3 => ?_) (fun u H locs hp hW => ?_)
  · exact hprp 3 ls _ H locs 1 6 E ce q9 (⟨hxp.1, inB_no (n := 12) (by decide) hxp.2⟩) hW (by decide) (by decide) h1 h2 h3
  obtain ⟨hu, hb1, hb2⟩ := hp
  rw [hu] at hW
  have hin : inB x 12 := inB_of (n := 12) (by decide) hb1 hb2
  obtain ⟨f, hf, rfl⟩ := hin
  refine lv_aload_n hx hb dX2_has_6 rfl (lv_at hl 0 rfl) ?_
  refine cr_get (v := .ref (ad 1)) hx hb hts hin2 hown hK hW 0 (by decide) (cE_x I Z F ad M) rfl 0 (by decide) rfl (by decide +kernel) rfl dX2_has_7 ?_
  refine lv_iload_n hx hb dX2_has_10 rfl (lv_at hl 1 rfl) ?_
  refine cr_fald hx hb hK hW f hf rfl dX2_has_11 ?_
  refine cr_getN (v := .int (M (25 + 6 * f) 0)) (host := "SharedForks") hx hb hts hin0 hown hK hW (25 + 6 * f) (by omega) (cE_d0 I Z F ad M f) rfl 0 (by decide) rfl hN (by decide +kernel) rfl dX2_has_12 ?_
  exact hret 15 ls H locs 1 6 _ _ dX2_has_15 (by decide) (by decide) (⟨f, hf, rfl, rfl, rfl⟩) (hks f hf) hW

abbrev rm_count : Room := { frames := 9, cells := 1, slots := 6, locals := 200 }
set_option maxHeartbeats 4000000 in
set_option maxRecDepth 100000 in
/-- what is told of all -/
theorem c_count (l : Launch) (hst : l.stackTraces = false) (D : va_G) (I Z F : ClassId) (ad sa : Nat → Nat) (hI : cI ad) (M : Nat → Nat → Int32) (sz : Nat) (n : Nat) (hrs : rwsOk M n) (x : Int32) : vx_Met l yX2_count wsX2_count rm_count (va_Pc [.ref (ad 0), .int x] (cUX D I Z F ad sa sz M)) (va_Qi (fun (r : Int32) (u : Nat → Nat → Int32) => ∃ wh : Nat, wh < 5 ∧ x = nI wh ∧ u = M ∧ r = tcF M n wh) (fun u t => cP D I Z F ad u t.heap) (cA ad sz)) (xQ D I Z F ad M sz (fun E => E = xIO ∧ ¬ inB x 5)) 1 6 (cA ad sz) := by
  refine cMetX_i (cc := cX2_count) (maxL := 2) hst hI (by decide) rfl ⟨rfl, rfl, by decide, by decide⟩ RX2 rfl (Nat.le_of_ble_eq_true rfl) (lv := [(0, .ref (ad 0)), (1, .int x)]) rfl ?_
  intro p e s m args below meth c Q A ls hsz C0 hX hW hl hret hthr hprp
  obtain ⟨hx, hb, hml, hts, hown, hlocks, hK, hN, hDa, hA, hargs⟩ := C0
  have hin2 : ∀ w ∈ u_ws RX2 TX2 6, w ∈ wsX2_count := by decide +kernel
  have hin0 : ∀ w ∈ u_ws RX0 TX0 7, w ∈ wsX2_count := by decide +kernel
  have hin1 : ∀ w ∈ u_ws RX1 TX1 10, w ∈ wsX2_count := by decide +kernel
  refine lv_iload_n hx hb dX2_count_0 rfl (lv_at hl 1 rfl) ?_
  refine lv_iconst (v := 5) hx hb dX2_count_1 (by decide) ?_
  refine cx_callv (vx_runS (As := [.int x, .int 5]) (rest := []) ⟨hx, hb, hml, hown, hts⟩ (c_checkBelow l hst D I Z F ad sa hI M s.heap.size x 5) (va_cwS 2 hts gX2_count_X2_checkBelow rfl rfl rfl (by decide +kernel) ⟨Nat.le_of_ble_eq_true rfl, Nat.le_of_ble_eq_true rfl⟩) (cx_preS hK hN hX hA hDa hW) rfl rfl hl.1 rfl (lv_room (Nat.le_of_ble_eq_true rfl)) dX2_count_2 ⟨Nat.le_of_ble_eq_true rfl, Nat.le_of_ble_eq_true rfl⟩) hA hDa hW (fun E ce q9 H locs hxp hW h1 h2 h3 => ?_) (fun u H locs hp hW => ?_)
  · exact hprp 2 ls _ H locs 1 6 E ce q9 (⟨hxp.1, inB_no (n := 5) (by decide) hxp.2⟩) hW (by decide) (by decide) h1 h2 h3
  obtain ⟨hu, hb1, hb2⟩ := hp
  rw [hu] at hW
  have hin : inB x 5 := inB_of (n := 5) (by decide) hb1 hb2
  obtain ⟨wh, hwh, rfl⟩ := hin
  refine lv_aload_n hx hb dX2_count_5 rfl (lv_at hl 0 rfl) ?_
  refine lv_iload_n hx hb dX2_count_6 rfl (lv_at hl 1 rfl) ?_
  refine cr_calli (va_runV (As := [.int (nI wh)]) (rest := []) ⟨hx, hb, hml, hown, hts⟩ (c_tellCount l D I Z F ad hI M H.size n hrs.1 hrs.2.1 wh hwh) (cwV 1 hts gX2_count_X2_tellCount rfl rfl rfl (by decide +kernel) ⟨Nat.le_of_ble_eq_true rfl, Nat.le_of_ble_eq_true rfl⟩) (cr_preV hK hN hW 0 (by decide) (cE_x I Z F ad M) rfl) rfl rfl hl.1 rfl (lv_room (Nat.le_of_ble_eq_true rfl)) dX2_count_7 ⟨Nat.le_of_ble_eq_true rfl, Nat.le_of_ble_eq_true rfl⟩) hA hDa hW (fun r u H locs hp hW => ?_)
  obtain ⟨hu, hv9⟩ := hp
  rw [hu] at hW
  rw [hv9]
  exact hret 10 ls H locs 1 6 _ _ dX2_count_10 (by decide) (by decide) (⟨wh, hwh, rfl, rfl, rfl⟩) hW

abbrev rm_about : Room := { frames := 9, cells := 2, slots := 12, locals := 400 }
set_option maxHeartbeats 4000000 in
set_option maxRecDepth 100000 in
/-- what is told of a fold -/
theorem c_about (l : Launch) (hst : l.stackTraces = false) (D : va_G) (I Z F : ClassId) (ad sa : Nat → Nat) (hI : cI ad) (M : Nat → Nat → Int32) (sz : Nat) (n : Nat) (hrs : rwsOk M n) (a1 x : Int32) : vx_Met l yX2_about wsX2_about rm_about (va_Pc [.ref (ad 0), .int a1, .int x] (cUX D I Z F ad sa sz M)) (va_Qi (fun (r : Int32) (u : Nat → Nat → Int32) => ∃ k z wh : Nat, fdOk M a1 k ∧ wh < 8 ∧ x = nI wh ∧ z ≤ 77 ∧ M (25 + 6 * k) 2 = nI z ∧ u = M ∧ r = tdF M (25 + 6 * k) z wh) (fun u t => cP D I Z F ad u t.heap) (cA ad sz)) (xQ D I Z F ad M sz (fun E => E = xIO ∧ ¬ ((∃ k, fdOk M a1 k) ∧ inB x 8))) 2 12 (cA ad sz) := by
  refine cMetX_i (cc := cX2_about) (maxL := 4) hst hI (by decide) rfl ⟨rfl, rfl, by decide, by decide⟩ RX2 rfl (Nat.le_of_ble_eq_true rfl) (lv := [(0, .ref (ad 0)), (1, .int a1), (2, .int x)]) rfl ?_
  intro p e s m args below meth c Q A ls hsz C0 hX hW hl hret hthr hprp
  obtain ⟨hx, hb, hml, hts, hown, hlocks, hK, hN, hDa, hA, hargs⟩ := C0
  have hin2 : ∀ w ∈ u_ws RX2 TX2 6, w ∈ wsX2_about := by decide +kernel
  have hin0 : ∀ w ∈ u_ws RX0 TX0 7, w ∈ wsX2_about := by decide +kernel
  have hin1 : ∀ w ∈ u_ws RX1 TX1 10, w ∈ wsX2_about := by decide +kernel
  refine lv_aload_n hx hb dX2_about_0 rfl (lv_at hl 0 rfl) ?_
  refine lv_iload_n hx hb dX2_about_1 rfl (lv_at hl 1 rfl) ?_
  refine cx_callq (vx_runV (As := [.int a1]) (rest := []) ⟨hx, hb, hml, hown, hts⟩ (c_foldAt l hst D I Z F ad sa hI M s.heap.size a1) (cwV 1 hts gX2_about_X2_foldAt rfl rfl rfl (by decide +kernel) ⟨Nat.le_of_ble_eq_true rfl, Nat.le_of_ble_eq_true rfl⟩) (cx_preV hK hN hX hA hDa hW 0 (by decide) (cE_x I Z F ad M) rfl) rfl rfl hl.1 rfl (lv_room (Nat.le_of_ble_eq_true rfl)) dX2_about_2 ⟨Nat.le_of_ble_eq_true rfl, Nat.le_of_ble_eq_true rfl⟩) hA hDa hW (fun E ce q9 H locs hxp hW h1 h2 h3 => ?_) (fun r k H locs hp hW => ?_)
  · exact hprp 2 ls _ H locs 1 6 E ce q9 (⟨hxp.1, fun h => hxp.2 h.1⟩) hW (by decide) (by decide) h1 h2 h3
  obtain ⟨hk, hr9⟩ := hp
  subst hr9
  have hk12 := hk.1
  show W p l e rm_about s m args below meth c H locs 1 6 Q (F0 m 5 ls (.ref (ad (25 + 6 * k)) :: []))
  refine lv_astore_n (lv' := [(3, .ref (ad (25 + 6 * k))), (0, .ref (ad 0)), (1, .int a1), (2, .int x)]) hx hb dX2_about_5 rfl hl (by decide) rfl (fun ls hl => ?_)
  refine lv_iload_n hx hb dX2_about_6 rfl (lv_at hl 3 rfl) ?_
  refine lv_bipush (v := 8) hx hb dX2_about_7 (by decide) ?_
  refine cx_callv (vx_runS (As := [.int x, .int 8]) (rest := []) ⟨hx, hb, hml, hown, hts⟩ (c_checkBelow l hst D I Z F ad sa hI M H.size x 8) (va_cwS 2 hts gX2_about_X2_checkBelow rfl rfl rfl (by decide +kernel) ⟨Nat.le_of_ble_eq_true rfl, Nat.le_of_ble_eq_true rfl⟩) (cx_preS hK hN hX hA hDa hW) rfl rfl hl.1 rfl (lv_room (Nat.le_of_ble_eq_true rfl)) dX2_about_9 ⟨Nat.le_of_ble_eq_true rfl, Nat.le_of_ble_eq_true rfl⟩) hA hDa hW (fun E ce q9 H locs hxp hW h1 h2 h3 => ?_) (fun u H locs hp hW => ?_)
  · exact hprp 9 ls _ H locs 2 12 E ce q9 (⟨hxp.1, fun h => inB_no (n := 8) (by decide) hxp.2 h.2⟩) hW (by decide) (by decide) h1 h2 h3
  obtain ⟨hu, hb1, hb2⟩ := hp
  rw [hu] at hW
  have hin : inB x 8 := inB_of (n := 8) (by decide) hb1 hb2
  obtain ⟨wh, hwh, rfl⟩ := hin
  obtain ⟨z, hz7, hz, hrw⟩ := hrs.2.2 k hk12 hk.2.2
  refine lv_aload_n hx hb dX2_about_12 rfl (lv_at hl 1 rfl) ?_
  refine lv_aload_n hx hb dX2_about_13 rfl (lv_at hl 0 rfl) ?_
  refine lv_iload_n hx hb dX2_about_14 rfl (lv_at hl 3 rfl) ?_
  refine cr_calli (va_runV (As := [.ref (ad (25 + 6 * k)), .int (nI wh)]) (rest := []) ⟨hx, hb, hml, hown, hts⟩ (c_tellFold l D I Z F ad hI M H.size k hk12 n z hrs.1 hz7 hz hrw wh hwh) (cwV 2 hts gX2_about_X2_tellFold rfl rfl rfl (by decide +kernel) ⟨Nat.le_of_ble_eq_true rfl, Nat.le_of_ble_eq_true rfl⟩) (cr_preV hK hN hW 0 (by decide) (cE_x I Z F ad M) rfl) rfl rfl hl.1 rfl (lv_room (Nat.le_of_ble_eq_true rfl)) dX2_about_15 ⟨Nat.le_of_ble_eq_true rfl, Nat.le_of_ble_eq_true rfl⟩) hA hDa hW (fun r u H locs hp hW => ?_)
  obtain ⟨hu, hv9⟩ := hp
  rw [hu] at hW
  rw [hv9]
  exact hret 18 ls H locs 2 12 _ _ dX2_about_18 (by decide) (by decide) (⟨k, z, wh, hk, hwh, rfl, hz7, hz, rfl, rfl⟩) hW

abbrev rm_fork : Room := { frames := 9, cells := 3, slots := 18, locals := 400 }
set_option maxHeartbeats 4000000 in
set_option maxRecDepth 100000 in
/-- what is told of a fork -/
theorem c_fork (l : Launch) (hst : l.stackTraces = false) (D : va_G) (I Z F : ClassId) (ad sa : Nat → Nat) (hI : cI ad) (M : Nat → Nat → Int32) (sz : Nat) (n : Nat) (hrs : rwsOk M n) (a1 pl x : Int32) : vx_Met l yX2_fork wsX2_fork rm_fork (va_Pc [.ref (ad 0), .int a1, .int pl, .int x] (cUX D I Z F ad sa sz M)) (va_Qi (fun (r : Int32) (u : Nat → Nat → Int32) => ∃ k z i wh : Nat, fdOk M a1 k ∧ wh < 5 ∧ x = nI wh ∧ z ≤ 77 ∧ M (25 + 6 * k) 2 = nI z ∧ i < z ∧ pl = nI i ∧ u = M ∧ r = tfF M (25 + 6 * k) i wh) (fun u t => cP D I Z F ad u t.heap) (cA ad sz)) (xQ D I Z F ad M sz (fun E => E = xIO ∧ ¬ (∃ k, fdOk M a1 k ∧ ¬ pl < 0 ∧ pl < M (25 + 6 * k) 2 ∧ inB x 5))) 3 18 (cA ad sz) := by
  refine cMetX_i (cc := cX2_fork) (maxL := 5) hst hI (by decide) rfl ⟨rfl, rfl, by decide, by decide⟩ RX2 rfl (Nat.le_of_ble_eq_true rfl) (lv := [(0, .ref (ad 0)), (1, .int a1), (2, .int pl), (3, .int x)]) rfl ?_
  intro p e s m args below meth c Q A ls hsz C0 hX hW hl hret hthr hprp
  obtain ⟨hx, hb, hml, hts, hown, hlocks, hK, hN, hDa, hA, hargs⟩ := C0
  have hin2 : ∀ w ∈ u_ws RX2 TX2 6, w ∈ wsX2_fork := by decide +kernel
  have hin0 : ∀ w ∈ u_ws RX0 TX0 7, w ∈ wsX2_fork := by decide +kernel
  have hin1 : ∀ w ∈ u_ws RX1 TX1 10, w ∈ wsX2_fork := by decide +kernel
  refine lv_aload_n hx hb dX2_fork_0 rfl (lv_at hl 0 rfl) ?_
  refine lv_iload_n hx hb dX2_fork_1 rfl (lv_at hl 1 rfl) ?_
  refine cx_callq (vx_runV (As := [.int a1]) (rest := []) ⟨hx, hb, hml, hown, hts⟩ (c_foldAt l hst D I Z F ad sa hI M s.heap.size a1) (cwV 1 hts gX2_fork_X2_foldAt rfl rfl rfl (by decide +kernel) ⟨Nat.le_of_ble_eq_true rfl, Nat.le_of_ble_eq_true rfl⟩) (cx_preV hK hN hX hA hDa hW 0 (by decide) (cE_x I Z F ad M) rfl) rfl rfl hl.1 rfl (lv_room (Nat.le_of_ble_eq_true rfl)) dX2_fork_2 ⟨Nat.le_of_ble_eq_true rfl, Nat.le_of_ble_eq_true rfl⟩) hA hDa hW (fun E ce q9 H locs hxp hW h1 h2 h3 => ?_) (fun r k H locs hp hW => ?_)
  · exact hprp 2 ls _ H locs 1 6 E ce q9 (⟨hxp.1, fun ⟨k, h⟩ => hxp.2 ⟨k, h.1⟩⟩) hW (by decide) (by decide) h1 h2 h3
  obtain ⟨hk, hr9⟩ := hp
  subst hr9
  have hk12 := hk.1
  show W p l e rm_fork s m args below meth c H locs 1 6 Q (F0 m 5 ls (.ref (ad (25 + 6 * k)) :: []))
  obtain ⟨z, hz7, hz, hrw⟩ := hrs.2.2 k hk12 hk.2.2
  refine lv_astore (lv' := [(4, .ref (ad (25 + 6 * k))), (0, .ref (ad 0)), (1, .int a1), (2, .int pl), (3, .int x)]) hx hb dX2_fork_5 hl (by decide) rfl (fun ls hl => ?_)
  refine lv_iload_n hx hb dX2_fork_7 rfl (lv_at hl 3 rfl) ?_
  refine lv_aload hx hb dX2_fork_8 (lv_at hl 0 rfl) ?_
  refine cr_getN (v := .int (M (25 + 6 * k) 2)) (host := "SharedForks") hx hb hts hin0 hown hK hW (25 + 6 * k) (by omega) (cE_d0 I Z F ad M k) rfl 2 (by decide) rfl hN (by decide +kernel) rfl dX2_fork_10 ?_
  refine cx_callv (vx_runS (As := [.int pl, .int (M (25 + 6 * k) 2)]) (rest := []) ⟨hx, hb, hml, hown, hts⟩ (c_checkBelow l hst D I Z F ad sa hI M H.size pl (M (25 + 6 * k) 2)) (va_cwS 2 hts gX2_fork_X2_checkBelow rfl rfl rfl (by decide +kernel) ⟨Nat.le_of_ble_eq_true rfl, Nat.le_of_ble_eq_true rfl⟩) (cx_preS hK hN hX hA hDa hW) rfl rfl hl.1 rfl (lv_room (Nat.le_of_ble_eq_true rfl)) dX2_fork_13 ⟨Nat.le_of_ble_eq_true rfl, Nat.le_of_ble_eq_true rfl⟩) hA hDa hW (fun E ce q9 H locs hxp hW h1 h2 h3 => ?_) (fun u H locs hp hW => ?_)
  · exact hprp 13 ls _ H locs 2 12 E ce q9 (⟨hxp.1, fun ⟨k2, h⟩ => by obtain rfl := fdOk_un h.1 hk; rcases hxp.2 with q | q; exact h.2.1 q; exact Int32.not_le.mpr h.2.2.1 q⟩) hW (by decide) (by decide) h1 h2 h3
  obtain ⟨hu, hb1, hb2⟩ := hp
  rw [hu] at hW
  have hpl1 := hb1
  have hpl2 := hb2
  rw [hz] at hb2
  obtain ⟨i, hi, rfl⟩ := part_of (n := z) (by omega) hb1 (Int32.not_le.mpr hb2)
  refine lv_iload_n hx hb dX2_fork_16 rfl (lv_at hl 4 rfl) ?_
  refine lv_iconst (v := 5) hx hb dX2_fork_17 (by decide) ?_
  refine cx_callv (vx_runS (As := [.int x, .int 5]) (rest := []) ⟨hx, hb, hml, hown, hts⟩ (c_checkBelow l hst D I Z F ad sa hI M H.size x 5) (va_cwS 2 hts gX2_fork_X2_checkBelow rfl rfl rfl (by decide +kernel) ⟨Nat.le_of_ble_eq_true rfl, Nat.le_of_ble_eq_true rfl⟩) (cx_preS hK hN hX hA hDa hW) rfl rfl hl.1 rfl (lv_room (Nat.le_of_ble_eq_true rfl)) dX2_fork_18 ⟨Nat.le_of_ble_eq_true rfl, Nat.le_of_ble_eq_true rfl⟩) hA hDa hW (fun E ce q9 H locs hxp hW h1 h2 h3 => ?_) (fun u H locs hp hW => ?_)
  · exact hprp 18 ls _ H locs 3 18 E ce q9 (⟨hxp.1, fun ⟨k2, h⟩ => inB_no (n := 5) (by decide) hxp.2 h.2.2.2⟩) hW (by decide) (by decide) h1 h2 h3
  obtain ⟨hu, hb1, hb2⟩ := hp
  rw [hu] at hW
  have hin : inB x 5 := inB_of (n := 5) (by decide) hb1 hb2
  obtain ⟨wh, hwh, rfl⟩ := hin
  refine lv_aload_n hx hb dX2_fork_21 rfl (lv_at hl 1 rfl) ?_
  refine lv_aload hx hb dX2_fork_22 (lv_at hl 0 rfl) ?_
  refine lv_iload_n hx hb dX2_fork_24 rfl (lv_at hl 3 rfl) ?_
  refine lv_iload_n hx hb dX2_fork_25 rfl (lv_at hl 4 rfl) ?_
  refine cr_calli (va_runV (As := [.ref (ad (25 + 6 * k)), .int (nI i), .int (nI wh)]) (rest := []) ⟨hx, hb, hml, hown, hts⟩ (c_tellFork l D I Z F ad hI M H.size k hk12 n z hrs.1 hz7 hz hrw i hi wh hwh) (cwV 3 hts gX2_fork_X2_tellFork rfl rfl rfl (by decide +kernel) ⟨Nat.le_of_ble_eq_true rfl, Nat.le_of_ble_eq_true rfl⟩) (cr_preV hK hN hW 0 (by decide) (cE_x I Z F ad M) rfl) rfl rfl hl.1 rfl (lv_room (Nat.le_of_ble_eq_true rfl)) dX2_fork_26 ⟨Nat.le_of_ble_eq_true rfl, Nat.le_of_ble_eq_true rfl⟩) hA hDa hW (fun r u H locs hp hW => ?_)
  obtain ⟨hu, hv9⟩ := hp
  rw [hu] at hW
  rw [hv9]
  exact hret 29 ls H locs 3 18 _ _ dX2_fork_29 (by decide) (by decide) (⟨k, z, i, wh, hk, hwh, rfl, hz7, hz, hi, rfl, rfl, rfl⟩) hW

abbrev rm_says : Room := { frames := 9, cells := 2, slots := 12, locals := 200 }
set_option maxHeartbeats 4000000 in
set_option maxRecDepth 100000 in
/-- whether a fold says yes -/
theorem c_says (l : Launch) (hst : l.stackTraces = false) (D : va_G) (I Z F : ClassId) (ad sa : Nat → Nat) (hI : cI ad) (M : Nat → Nat → Int32) (sz : Nat) (hys : ysOk M) (a1 x : Int32) : vx_Met l yX2_says wsX2_says rm_says (va_Pc [.ref (ad 0), .int a1, .int x] (cUX D I Z F ad sa sz M)) (va_Qi (fun (r : Int32) (u : Nat → Nat → Int32) => ∃ k j : Nat, fdOk M a1 k ∧ j < 256 ∧ x = nI j ∧ u = M ∧ r = M (25 + 6 * k + 1) j) (fun u t => cP D I Z F ad u t.heap) (cA ad sz)) (xQ D I Z F ad M sz (fun E => (E = xIO ∧ ¬ ∃ k, fdOk M a1 k) ∨ (E = xIA ∧ (∃ k, fdOk M a1 k) ∧ ¬ inB x 256))) 2 12 (cA ad sz) := by
  refine cMetX_z (cc := cX2_says) (maxL := 4) hst hI (by decide) rfl ⟨rfl, rfl, by decide, by decide⟩ RX2 rfl (Nat.le_of_ble_eq_true rfl) (lv := [(0, .ref (ad 0)), (1, .int a1), (2, .int x)]) rfl ?_
  intro p e s m args below meth c Q A ls hsz C0 hX hW hl hret hthr hprp
  obtain ⟨hx, hb, hml, hts, hown, hlocks, hK, hN, hDa, hA, hargs⟩ := C0
  have hin2 : ∀ w ∈ u_ws RX2 TX2 6, w ∈ wsX2_says := by decide +kernel
  have hin0 : ∀ w ∈ u_ws RX0 TX0 7, w ∈ wsX2_says := by decide +kernel
  refine lv_aload_n hx hb dX2_says_0 rfl (lv_at hl 0 rfl) ?_
  refine lv_iload_n hx hb dX2_says_1 rfl (lv_at hl 1 rfl) ?_
  refine cx_callq (vx_runV (As := [.int a1]) (rest := []) ⟨hx, hb, hml, hown, hts⟩ (c_foldAt l hst D I Z F ad sa hI M s.heap.size a1) (cwV 1 hts gX2_says_X2_foldAt rfl rfl rfl (by decide +kernel) ⟨Nat.le_of_ble_eq_true rfl, Nat.le_of_ble_eq_true rfl⟩) (cx_preV hK hN hX hA hDa hW 0 (by decide) (cE_x I Z F ad M) rfl) rfl rfl hl.1 rfl (lv_room (Nat.le_of_ble_eq_true rfl)) dX2_says_2 ⟨Nat.le_of_ble_eq_true rfl, Nat.le_of_ble_eq_true rfl⟩) hA hDa hW (fun E ce q9 H locs hxp hW h1 h2 h3 => ?_) (fun r k H locs hp hW => ?_)
  · exact hprp 2 ls _ H locs 1 6 E ce q9 (Or.inl hxp) hW (by decide) (by decide) h1 h2 h3
  obtain ⟨hk, hr9⟩ := hp
  subst hr9
  have hk12 := hk.1
  show W p l e rm_says s m args below meth c H locs 1 6 Q (F0 m 5 ls (.ref (ad (25 + 6 * k)) :: []))
  refine lv_astore_n (lv' := [(3, .ref (ad (25 + 6 * k))), (0, .ref (ad 0)), (1, .int a1), (2, .int x)]) hx hb dX2_says_5 rfl hl (by decide) rfl (fun ls hl => ?_)
  refine lv_iload_n hx hb dX2_says_6 rfl (lv_at hl 3 rfl) ?_
  refine lv_if_lt (tgt := 17) hx hb dX2_says_7 (by decide) (fun c1 => ?_) (fun c1 => ?_)
  · skip
    exact hthr 17 ls _ _ 1 6 "java/lang/IllegalArgumentException" _ 86 88 90 _ (Or.inr ⟨rfl, ⟨k, hk⟩, inB_no (n := 256) (by decide) (Or.inl c1)⟩) hW hl.1 (by decide) (by decide) (by decide +kernel) (by decide +kernel) (by decide +kernel) hX.2.2.2.2.1 (by decide +kernel) (by decide +kernel) (by decide +kernel) dX2_says_17 dX2_says_20 dX2_says_21 dX2_says_23 dX2_says_26
  · skip
    refine lv_iload_n hx hb dX2_says_10 rfl (lv_at hl 3 rfl) ?_
    refine lv_sipush (v := 256) hx hb dX2_says_11 (by decide) ?_
    refine lv_icmp_lt (tgt := 27) hx hb dX2_says_14 (by decide) (fun c2 => ?_) (fun c2 => ?_)
    · skip
      obtain ⟨j, hj, rfl⟩ := inB_of (n := 256) (by decide) c1 c2
      refine lv_aload_n hx hb dX2_says_27 rfl (lv_at hl 0 rfl) ?_
      refine cr_getN (v := .ref (ad (25 + 6 * k + 1))) (host := "SharedForks") hx hb hts hin0 hown hK hW (25 + 6 * k) (by omega) (cE_d0 I Z F ad M k) rfl 1 (by decide) rfl hN (by decide +kernel) rfl dX2_says_28 ?_
      refine lv_iload_n hx hb dX2_says_31 rfl (lv_at hl 3 rfl) ?_
      refine cr_zald hx hb hK hW (25 + 6 * k + 1) (by omega) (cE_d1 I Z F ad M k) j hj (by decide) rfl dX2_says_32 ?_
      exact hret 33 ls H locs 1 6 _ _ dX2_says_33 (by decide) (by decide) (⟨k, j, hk, hj, rfl, rfl, rfl⟩) (hys k hk12 j hj) hW
    · skip
      exact hthr 17 ls _ _ 1 6 "java/lang/IllegalArgumentException" _ 86 88 90 _ (Or.inr ⟨rfl, ⟨k, hk⟩, inB_no (n := 256) (by decide) (Or.inr (Int32.not_lt.mp c2))⟩) hW hl.1 (by decide) (by decide) (by decide +kernel) (by decide +kernel) (by decide +kernel) hX.2.2.2.2.1 (by decide +kernel) (by decide +kernel) (by decide +kernel) dX2_says_17 dX2_says_20 dX2_says_21 dX2_says_23 dX2_says_26

def wdF (M : Nat → Nat → Int32) (ka kb wh : Nat) : Nat → Nat → Int32 := lyF (soF (sjF M ka kb wh 13) 15 2) 15 13
abbrev rm_would : Room := { frames := 14, cells := 3, slots := 18, locals := 800 }
set_option maxHeartbeats 4000000 in
set_option maxRecDepth 100000 in
/-- how many forks a new fold would have -/
theorem c_would (l : Launch) (hst : l.stackTraces = false) (D : va_G) (I Z F : ClassId) (ad sa : Nat → Nat) (hI : cI ad) (M : Nat → Nat → Int32) (sz : Nat) (a1 b1 x : Int32) : vx_Met l yX2_would wsX2_would rm_would (va_Pc [.ref (ad 0), .int a1, .int b1, .int x] (cUX D I Z F ad sa sz M)) (va_Qi (fun (r : Int32) (u : Nat → Nat → Int32) => ∃ ka kb wh : Nat, fdOk M a1 ka ∧ fdOk M b1 kb ∧ wh < 6 ∧ x = nI wh ∧ u = wdF M ka kb wh ∧ r = u 15 0) (fun u t => cP D I Z F ad u t.heap) (cA ad sz)) (xQ D I Z F ad M sz (fun E => E = xIO ∧ ¬ ((∃ k, fdOk M a1 k) ∧ (∃ k, fdOk M b1 k) ∧ inB x 6))) 3 18 (cA ad sz) := by
  refine cMetX_i (cc := cX2_would) (maxL := 6) hst hI (by decide) rfl ⟨rfl, rfl, by decide, by decide⟩ RX2 rfl (Nat.le_of_ble_eq_true rfl) (lv := [(0, .ref (ad 0)), (1, .int a1), (2, .int b1), (3, .int x)]) rfl ?_
  intro p e s m args below meth c Q A ls hsz C0 hX hW hl hret hthr hprp
  obtain ⟨hx, hb, hml, hts, hown, hlocks, hK, hN, hDa, hA, hargs⟩ := C0
  have hin2 : ∀ w ∈ u_ws RX2 TX2 6, w ∈ wsX2_would := by decide +kernel
  have hin0 : ∀ w ∈ u_ws RX0 TX0 7, w ∈ wsX2_would := by decide +kernel
  have hin1 : ∀ w ∈ u_ws RX1 TX1 10, w ∈ wsX2_would := by decide +kernel
  refine lv_aload_n hx hb dX2_would_0 rfl (lv_at hl 0 rfl) ?_
  refine lv_iload_n hx hb dX2_would_1 rfl (lv_at hl 1 rfl) ?_
  refine cx_callq (vx_runV (As := [.int a1]) (rest := []) ⟨hx, hb, hml, hown, hts⟩ (c_foldAt l hst D I Z F ad sa hI M s.heap.size a1) (cwV 1 hts gX2_would_X2_foldAt rfl rfl rfl (by decide +kernel) ⟨Nat.le_of_ble_eq_true rfl, Nat.le_of_ble_eq_true rfl⟩) (cx_preV hK hN hX hA hDa hW 0 (by decide) (cE_x I Z F ad M) rfl) rfl rfl hl.1 rfl (lv_room (Nat.le_of_ble_eq_true rfl)) dX2_would_2 ⟨Nat.le_of_ble_eq_true rfl, Nat.le_of_ble_eq_true rfl⟩) hA hDa hW (fun E ce q9 H locs hxp hW h1 h2 h3 => ?_) (fun r ka H locs hp hW => ?_)
  · exact hprp 2 ls _ H locs 1 6 E ce q9 (⟨hxp.1, fun h => hxp.2 h.1⟩) hW (by decide) (by decide) h1 h2 h3
  obtain ⟨hka, hr9⟩ := hp
  subst hr9
  have hka12 := hka.1
  show W p l e rm_would s m args below meth c H locs 1 6 Q (F0 m 5 ls (.ref (ad (25 + 6 * ka)) :: []))
  refine lv_astore (lv' := [(4, .ref (ad (25 + 6 * ka))), (0, .ref (ad 0)), (1, .int a1), (2, .int b1), (3, .int x)]) hx hb dX2_would_5 hl (by decide) rfl (fun ls hl => ?_)
  refine lv_aload_n hx hb dX2_would_7 rfl (lv_at hl 1 rfl) ?_
  refine lv_iload_n hx hb dX2_would_8 rfl (lv_at hl 3 rfl) ?_
  refine cx_callq (vx_runV (As := [.int b1]) (rest := []) ⟨hx, hb, hml, hown, hts⟩ (c_foldAt l hst D I Z F ad sa hI M H.size b1) (cwV 1 hts gX2_would_X2_foldAt rfl rfl rfl (by decide +kernel) ⟨Nat.le_of_ble_eq_true rfl, Nat.le_of_ble_eq_true rfl⟩) (cx_preV hK hN hX hA hDa hW 0 (by decide) (cE_x I Z F ad M) rfl) rfl rfl hl.1 rfl (lv_room (Nat.le_of_ble_eq_true rfl)) dX2_would_9 ⟨Nat.le_of_ble_eq_true rfl, Nat.le_of_ble_eq_true rfl⟩) hA hDa hW (fun E ce q9 H locs hxp hW h1 h2 h3 => ?_) (fun r kb H locs hp hW => ?_)
  · exact hprp 9 ls _ H locs 2 12 E ce q9 (⟨hxp.1, fun h => hxp.2 h.2.1⟩) hW (by decide) (by decide) h1 h2 h3
  obtain ⟨hkb, hr9⟩ := hp
  subst hr9
  have hkb12 := hkb.1
  show W p l e rm_would s m args below meth c H locs 2 12 Q (F0 m 12 ls (.ref (ad (25 + 6 * kb)) :: []))
  refine lv_astore (lv' := [(5, .ref (ad (25 + 6 * kb))), (4, .ref (ad (25 + 6 * ka))), (0, .ref (ad 0)), (1, .int a1), (2, .int b1), (3, .int x)]) hx hb dX2_would_12 hl (by decide) rfl (fun ls hl => ?_)
  refine lv_iload_n hx hb dX2_would_14 rfl (lv_at hl 5 rfl) ?_
  refine lv_bipush (v := 6) hx hb dX2_would_15 (by decide) ?_
  refine cx_callv (vx_runS (As := [.int x, .int 6]) (rest := []) ⟨hx, hb, hml, hown, hts⟩ (c_checkBelow l hst D I Z F ad sa hI M H.size x 6) (va_cwS 2 hts gX2_would_X2_checkBelow rfl rfl rfl (by decide +kernel) ⟨Nat.le_of_ble_eq_true rfl, Nat.le_of_ble_eq_true rfl⟩) (cx_preS hK hN hX hA hDa hW) rfl rfl hl.1 rfl (lv_room (Nat.le_of_ble_eq_true rfl)) dX2_would_17 ⟨Nat.le_of_ble_eq_true rfl, Nat.le_of_ble_eq_true rfl⟩) hA hDa hW (fun E ce q9 H locs hxp hW h1 h2 h3 => ?_) (fun u H locs hp hW => ?_)
  · exact hprp 17 ls _ H locs 3 18 E ce q9 (⟨hxp.1, fun h => inB_no (n := 6) (by decide) hxp.2 h.2.2⟩) hW (by decide) (by decide) h1 h2 h3
  obtain ⟨hu, hb1, hb2⟩ := hp
  rw [hu] at hW
  have hin : inB x 6 := inB_of (n := 6) (by decide) hb1 hb2
  obtain ⟨wh, hwh, rfl⟩ := hin
  refine lv_aload hx hb dX2_would_20 (lv_at hl 1 rfl) ?_
  refine lv_aload hx hb dX2_would_22 (lv_at hl 0 rfl) ?_
  refine lv_iload_n hx hb dX2_would_24 rfl (lv_at hl 5 rfl) ?_
  refine lv_aload_n hx hb dX2_would_25 rfl (lv_at hl 2 rfl) ?_
  refine cr_get (v := .ref (ad 13)) hx hb hts hin2 hown hK hW 0 (by decide) (cE_x I Z F ad M) rfl 3 (by decide) rfl (by decide +kernel) rfl dX2_would_26 ?_
  refine cr_callv (va_runS (As := [.ref (ad (25 + 6 * ka)), .ref (ad (25 + 6 * kb)), .int (nI wh), .ref (ad 13)]) (rest := []) ⟨hx, hb, hml, hown, hts⟩ (c_sayJoined l D I Z F ad hI M H.size ka kb hka12 hkb12 wh hwh 13 (by decide) (cE_ty I Z F ad M) (by omega) (by omega)) (va_cwS 4 hts gX2_would_X2_sayJoined rfl rfl rfl (by decide +kernel) ⟨Nat.le_of_ble_eq_true rfl, Nat.le_of_ble_eq_true rfl⟩) (cr_preS hK hN hW) rfl rfl hl.1 rfl (lv_room (Nat.le_of_ble_eq_true rfl)) dX2_would_29 ⟨Nat.le_of_ble_eq_true rfl, Nat.le_of_ble_eq_true rfl⟩) hA hDa hW (fun u H locs hp hW => ?_)
  rw [hp] at hW
  refine lv_aload_n hx hb dX2_would_32 rfl (lv_at hl 2 rfl) ?_
  refine cr_get (v := .ref (ad 15)) hx hb hts hin2 hown hK hW 0 (by decide) (cE_x I Z F ad (sjF M ka kb wh 13)) rfl 5 (by decide) rfl (by decide +kernel) rfl dX2_would_33 ?_
  refine lv_aload_n hx hb dX2_would_36 rfl (lv_at hl 2 rfl) ?_
  refine cr_get (v := .ref (ad 2)) hx hb hts hin2 hown hK hW 0 (by decide) (cE_x I Z F ad (sjF M ka kb wh 13)) rfl 1 (by decide) rfl (by decide +kernel) rfl dX2_would_37 ?_
  refine cr_callv (va_runVN (As := [.ref (ad 2)]) (rest := []) (own := RX2) (host := "SharedForks") ⟨hx, hb, hml, hown, hts⟩ (c_startOver l D I Z F ad hI (sjF M ka kb wh 13) H.size 15 (Or.inr rfl) 2 (by decide) ⟨by decide, by decide, by decide⟩ (cE_q I Z F ad _)) ⟨va_cnB 1 hts gX2_would_X1_startOver_n113 rfl rfl rfl (hN (.methodLinkNest RX2 113 yX1_startOver "SharedForks") (by decide +kernel)) (hts (.initialized yX1_startOver.cls) (by decide +kernel)) (by decide +kernel) ⟨Nat.le_of_ble_eq_true rfl, Nat.le_of_ble_eq_true rfl⟩, hts (.instanceMethod yX1_startOver) (by decide +kernel), hts (.selects yX1_startOver.cls yX1_startOver yX1_startOver) (by decide +kernel)⟩ (cr_preV hK hN hW 15 (by decide) (cE_f0 I Z F ad (sjF M ka kb wh 13) (Or.inr rfl)) rfl) rfl rfl hl.1 rfl (lv_room (Nat.le_of_ble_eq_true rfl)) dX2_would_40 ⟨Nat.le_of_ble_eq_true rfl, Nat.le_of_ble_eq_true rfl⟩) hA hDa hW (fun u H locs hp hW => ?_)
  rw [hp] at hW
  have hlo := soF_laOk2 (sjF M ka kb wh 13) 15 2
  obtain ⟨⟨n2, hk2⟩, haw⟩ := hlo
  refine lv_aload_n hx hb dX2_would_43 rfl (lv_at hl 2 rfl) ?_
  refine cr_get (v := .ref (ad 15)) hx hb hts hin2 hown hK hW 0 (by decide) (cE_x I Z F ad (soF (sjF M ka kb wh 13) 15 2)) rfl 5 (by decide) rfl (by decide +kernel) rfl dX2_would_44 ?_
  refine lv_aload_n hx hb dX2_would_47 rfl (lv_at hl 2 rfl) ?_
  refine cr_get (v := .ref (ad 13)) hx hb hts hin2 hown hK hW 0 (by decide) (cE_x I Z F ad (soF (sjF M ka kb wh 13) 15 2)) rfl 3 (by decide) rfl (by decide +kernel) rfl dX2_would_48 ?_
  refine cr_calli (va_runVN (As := [.ref (ad 13)]) (rest := []) (own := RX2) (host := "SharedForks") ⟨hx, hb, hml, hown, hts⟩ (c_lay l D I Z F ad hI (soF (sjF M ka kb wh 13) 15 2) H.size 15 (Or.inr rfl) hk2.ok haw 13 (by decide) (by decide) (cE_ty I Z F ad _)) ⟨va_cnB 1 hts gX2_would_X1_lay_n117 rfl rfl rfl (hN (.methodLinkNest RX2 117 yX1_lay "SharedForks") (by decide +kernel)) (hts (.initialized yX1_lay.cls) (by decide +kernel)) (by decide +kernel) ⟨Nat.le_of_ble_eq_true rfl, Nat.le_of_ble_eq_true rfl⟩, hts (.instanceMethod yX1_lay) (by decide +kernel), hts (.selects yX1_lay.cls yX1_lay yX1_lay) (by decide +kernel)⟩ (cr_preV hK hN hW 15 (by decide) (cE_f0 I Z F ad (soF (sjF M ka kb wh 13) 15 2) (Or.inr rfl)) rfl) rfl rfl hl.1 rfl (lv_room (Nat.le_of_ble_eq_true rfl)) dX2_would_51 ⟨Nat.le_of_ble_eq_true rfl, Nat.le_of_ble_eq_true rfl⟩) hA hDa hW (fun r u H locs hp hW => ?_)
  obtain ⟨hu, hv9⟩ := hp
  rw [hu] at hW
  rw [hv9]
  rw [show lyF (soF (sjF M ka kb wh 13) 15 2) 15 13 = wdF M ka kb wh from rfl] at hW
  obtain ⟨r0, hr0⟩ : ∃ r0, r0 = lyF (soF (sjF M ka kb wh 13) 15 2) 15 13 (15 + 8) 0 := ⟨_, rfl⟩
  rw [← hr0]
  refine lv_pop hx hb dX2_would_54 rfl ?_
  refine lv_aload_n hx hb dX2_would_55 rfl (lv_at hl 2 rfl) ?_
  refine cr_get (v := .ref (ad 15)) hx hb hts hin2 hown hK hW 0 (by decide) (cE_x I Z F ad (wdF M ka kb wh)) rfl 5 (by decide) rfl (by decide +kernel) rfl dX2_would_56 ?_
  refine cr_getN (v := .int ((wdF M ka kb wh) 15 0)) (host := "SharedForks") hx hb hts hin1 hown hK hW 15 (by decide) (cE_f0 I Z F ad (wdF M ka kb wh) (Or.inr rfl)) rfl 0 (by decide) rfl hN (by decide +kernel) rfl dX2_would_59 ?_
  exact hret 62 ls H locs 3 18 _ _ dX2_would_62 (by decide) (by decide) (⟨ka, kb, wh, hka, hkb, hwh, rfl, rfl, rfl⟩) hW
end
section
theorem fp_256' : ∀ s : Nat, s < 2049 → FP.ddiv (FP.i2d (nI s)) 4643211215818981376 &&& 0x7fffffffffffffff ≤ 0x7ff0000000000000 := by decide +kernel
theorem fp_256 {s : Nat} (h : s < 2049) : vf_n64 (FP.ddiv (FP.i2d (nI s)) 4643211215818981376) := fp_256' s h
theorem fp_mean' : ∀ n : Nat, n < 12 → ∀ a : Nat, a < 925 → FP.ddiv (FP.i2d (nI a)) (FP.i2d (nI (n + 1))) &&& 0x7fffffffffffffff ≤ 0x7ff0000000000000 := by decide +kernel
theorem fp_mean {n a : Nat} (h : n < 12) (h2 : a < 925) : vf_n64 (FP.ddiv (FP.i2d (nI a)) (FP.i2d (nI (n + 1)))) := fp_mean' n h a h2
end
