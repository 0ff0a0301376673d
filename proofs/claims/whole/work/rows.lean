section
-- ===== PART A: goes FIRST, ahead of the names: the tables' words, and 'selects' of the private methods out of them =====
/-- a private method of a class that the tables say can be made, by its rows of tables_1 -/
def lw_okq (q : MethodName × Nat) : Prop := (q.1.cls ≠ "java/lang/invoke/MethodHandle" ∧ q.1.cls ≠ "java/lang/invoke/VarHandle") ∧ Cond.instantiable q.1.cls q.2 ∈ tables_1 ∧ Cond.privateMethod q.1 ∈ tables_1 ∧ Cond.instanceMethod q.1 ∈ tables_1
theorem lw_p0 : lw_okq (⟨"LoshuHall", "hasEarlierKin", "(I)Z"⟩, 6) := ⟨⟨by decide +kernel, by decide +kernel⟩, List.mem_of_getElem? (i := 23) (by decide +kernel), List.mem_of_getElem? (i := 153) (by decide +kernel), List.mem_of_getElem? (i := 154) (by decide +kernel)⟩
theorem lw_p1 : lw_okq (⟨"LoshuHall", "figureOf", "(I)LLoshuHall$Figure;"⟩, 6) := ⟨⟨by decide +kernel, by decide +kernel⟩, List.mem_of_getElem? (i := 23) (by decide +kernel), List.mem_of_getElem? (i := 157) (by decide +kernel), List.mem_of_getElem? (i := 158) (by decide +kernel)⟩
theorem lw_p2 : lw_okq (⟨"java/lang/Throwable", "fillInStackTrace", "(I)Ljava/lang/Throwable;"⟩, 6) := ⟨⟨by decide +kernel, by decide +kernel⟩, List.mem_of_getElem? (i := 199) (by decide +kernel), List.mem_of_getElem? (i := 197) (by decide +kernel), List.mem_of_getElem? (i := 198) (by decide +kernel)⟩
theorem lw_p3 : lw_okq (⟨"LoshuHall", "requireRoom", "()V"⟩, 6) := ⟨⟨by decide +kernel, by decide +kernel⟩, List.mem_of_getElem? (i := 23) (by decide +kernel), List.mem_of_getElem? (i := 293) (by decide +kernel), List.mem_of_getElem? (i := 294) (by decide +kernel)⟩
theorem lw_p4 : lw_okq (⟨"LoshuHall", "addFigure", "(I)I"⟩, 6) := ⟨⟨by decide +kernel, by decide +kernel⟩, List.mem_of_getElem? (i := 23) (by decide +kernel), List.mem_of_getElem? (i := 313) (by decide +kernel), List.mem_of_getElem? (i := 314) (by decide +kernel)⟩
theorem lw_p5 : lw_okq (⟨"LoshuHall$Search", "begin", "(I)V"⟩, 14) := ⟨⟨by decide +kernel, by decide +kernel⟩, List.mem_of_getElem? (i := 46) (by decide +kernel), List.mem_of_getElem? (i := 542) (by decide +kernel), List.mem_of_getElem? (i := 543) (by decide +kernel)⟩
theorem lw_p6 : lw_okq (⟨"LoshuHall$Search", "lineThrough", "(II)I"⟩, 14) := ⟨⟨by decide +kernel, by decide +kernel⟩, List.mem_of_getElem? (i := 46) (by decide +kernel), List.mem_of_getElem? (i := 546) (by decide +kernel), List.mem_of_getElem? (i := 547) (by decide +kernel)⟩
theorem lw_p7 : lw_okq (⟨"LoshuHall$Search", "addEmpty", "(I)V"⟩, 14) := ⟨⟨by decide +kernel, by decide +kernel⟩, List.mem_of_getElem? (i := 46) (by decide +kernel), List.mem_of_getElem? (i := 554) (by decide +kernel), List.mem_of_getElem? (i := 555) (by decide +kernel)⟩
theorem lw_p8 : lw_okq (⟨"LoshuHall$Search", "isFree", "(I)Z"⟩, 14) := ⟨⟨by decide +kernel, by decide +kernel⟩, List.mem_of_getElem? (i := 46) (by decide +kernel), List.mem_of_getElem? (i := 558) (by decide +kernel), List.mem_of_getElem? (i := 559) (by decide +kernel)⟩
theorem lw_p9 : lw_okq (⟨"LoshuHall$Search", "lay", "(II)V"⟩, 14) := ⟨⟨by decide +kernel, by decide +kernel⟩, List.mem_of_getElem? (i := 46) (by decide +kernel), List.mem_of_getElem? (i := 562) (by decide +kernel), List.mem_of_getElem? (i := 563) (by decide +kernel)⟩
theorem lw_p10 : lw_okq (⟨"LoshuHall$Search", "tally", "(III)V"⟩, 14) := ⟨⟨by decide +kernel, by decide +kernel⟩, List.mem_of_getElem? (i := 46) (by decide +kernel), List.mem_of_getElem? (i := 566) (by decide +kernel), List.mem_of_getElem? (i := 567) (by decide +kernel)⟩
theorem lw_p11 : lw_okq (⟨"LoshuHall$Search", "lineAt", "(II)I"⟩, 14) := ⟨⟨by decide +kernel, by decide +kernel⟩, List.mem_of_getElem? (i := 46) (by decide +kernel), List.mem_of_getElem? (i := 570) (by decide +kernel), List.mem_of_getElem? (i := 571) (by decide +kernel)⟩
theorem lw_p12 : lw_okq (⟨"LoshuHall$Search", "isLine", "(I)Z"⟩, 14) := ⟨⟨by decide +kernel, by decide +kernel⟩, List.mem_of_getElem? (i := 46) (by decide +kernel), List.mem_of_getElem? (i := 574) (by decide +kernel), List.mem_of_getElem? (i := 575) (by decide +kernel)⟩
theorem lw_p13 : lw_okq (⟨"LoshuHall$Search", "seek", "(II)V"⟩, 14) := ⟨⟨by decide +kernel, by decide +kernel⟩, List.mem_of_getElem? (i := 46) (by decide +kernel), List.mem_of_getElem? (i := 582) (by decide +kernel), List.mem_of_getElem? (i := 583) (by decide +kernel)⟩
theorem lw_p14 : lw_okq (⟨"LoshuHall$Search", "fits", "()Z"⟩, 14) := ⟨⟨by decide +kernel, by decide +kernel⟩, List.mem_of_getElem? (i := 46) (by decide +kernel), List.mem_of_getElem? (i := 586) (by decide +kernel), List.mem_of_getElem? (i := 587) (by decide +kernel)⟩
theorem lw_p15 : lw_okq (⟨"LoshuHall$Search", "meet", "()V"⟩, 14) := ⟨⟨by decide +kernel, by decide +kernel⟩, List.mem_of_getElem? (i := 46) (by decide +kernel), List.mem_of_getElem? (i := 593) (by decide +kernel), List.mem_of_getElem? (i := 594) (by decide +kernel)⟩
def lw_privs_1 : List (MethodName × Nat) := [(⟨"LoshuHall", "hasEarlierKin", "(I)Z"⟩, 6), (⟨"LoshuHall", "figureOf", "(I)LLoshuHall$Figure;"⟩, 6), (⟨"java/lang/Throwable", "fillInStackTrace", "(I)Ljava/lang/Throwable;"⟩, 6), (⟨"LoshuHall", "requireRoom", "()V"⟩, 6), (⟨"LoshuHall", "addFigure", "(I)I"⟩, 6), (⟨"LoshuHall$Search", "begin", "(I)V"⟩, 14), (⟨"LoshuHall$Search", "lineThrough", "(II)I"⟩, 14), (⟨"LoshuHall$Search", "addEmpty", "(I)V"⟩, 14), (⟨"LoshuHall$Search", "isFree", "(I)Z"⟩, 14), (⟨"LoshuHall$Search", "lay", "(II)V"⟩, 14), (⟨"LoshuHall$Search", "tally", "(III)V"⟩, 14), (⟨"LoshuHall$Search", "lineAt", "(II)I"⟩, 14), (⟨"LoshuHall$Search", "isLine", "(I)Z"⟩, 14), (⟨"LoshuHall$Search", "seek", "(II)V"⟩, 14), (⟨"LoshuHall$Search", "fits", "()Z"⟩, 14), (⟨"LoshuHall$Search", "meet", "()V"⟩, 14)]
theorem lw_r1 : ∀ q ∈ lw_privs_1, lw_okq q := List.forall_mem_cons.mpr ⟨lw_p0, List.forall_mem_cons.mpr ⟨lw_p1, List.forall_mem_cons.mpr ⟨lw_p2, List.forall_mem_cons.mpr ⟨lw_p3, List.forall_mem_cons.mpr ⟨lw_p4, List.forall_mem_cons.mpr ⟨lw_p5, List.forall_mem_cons.mpr ⟨lw_p6, List.forall_mem_cons.mpr ⟨lw_p7, List.forall_mem_cons.mpr ⟨lw_p8, List.forall_mem_cons.mpr ⟨lw_p9, List.forall_mem_cons.mpr ⟨lw_p10, List.forall_mem_cons.mpr ⟨lw_p11, List.forall_mem_cons.mpr ⟨lw_p12, List.forall_mem_cons.mpr ⟨lw_p13, List.forall_mem_cons.mpr ⟨lw_p14, List.forall_mem_cons.mpr ⟨lw_p15, fun _ h => absurd h List.not_mem_nil⟩⟩⟩⟩⟩⟩⟩⟩⟩⟩⟩⟩⟩⟩⟩⟩
theorem lw_p16 : lw_okq (⟨"LoshuHall$Search", "highestAt", "(I)I"⟩, 14) := ⟨⟨by decide +kernel, by decide +kernel⟩, List.mem_of_getElem? (i := 46) (by decide +kernel), List.mem_of_getElem? (i := 597) (by decide +kernel), List.mem_of_getElem? (i := 598) (by decide +kernel)⟩
theorem lw_p17 : lw_okq (⟨"LoshuHall$Search", "lowestAt", "(I)I"⟩, 14) := ⟨⟨by decide +kernel, by decide +kernel⟩, List.mem_of_getElem? (i := 46) (by decide +kernel), List.mem_of_getElem? (i := 604) (by decide +kernel), List.mem_of_getElem? (i := 605) (by decide +kernel)⟩
theorem lw_p18 : lw_okq (⟨"LoshuHall$Search", "lift", "(II)V"⟩, 14) := ⟨⟨by decide +kernel, by decide +kernel⟩, List.mem_of_getElem? (i := 46) (by decide +kernel), List.mem_of_getElem? (i := 611) (by decide +kernel), List.mem_of_getElem? (i := 612) (by decide +kernel)⟩
theorem lw_p19 : lw_okq (⟨"LoshuHall$Search", "countChoices", "(I)I"⟩, 14) := ⟨⟨by decide +kernel, by decide +kernel⟩, List.mem_of_getElem? (i := 46) (by decide +kernel), List.mem_of_getElem? (i := 639) (by decide +kernel), List.mem_of_getElem? (i := 640) (by decide +kernel)⟩
theorem lw_p20 : lw_okq (⟨"LoshuHall$Search", "choiceAt", "(II)I"⟩, 14) := ⟨⟨by decide +kernel, by decide +kernel⟩, List.mem_of_getElem? (i := 46) (by decide +kernel), List.mem_of_getElem? (i := 644) (by decide +kernel), List.mem_of_getElem? (i := 645) (by decide +kernel)⟩
theorem lw_p21 : lw_okq (⟨"LoshuHall$Givens", "tellsAllApart", "(I)Z"⟩, 1) := ⟨⟨by decide +kernel, by decide +kernel⟩, List.mem_of_getElem? (i := 96) (by decide +kernel), List.mem_of_getElem? (i := 675) (by decide +kernel), List.mem_of_getElem? (i := 676) (by decide +kernel)⟩
theorem lw_p22 : lw_okq (⟨"LoshuHall$Space", "addLines", "(I)V"⟩, 5) := ⟨⟨by decide +kernel, by decide +kernel⟩, List.mem_of_getElem? (i := 106) (by decide +kernel), List.mem_of_getElem? (i := 781) (by decide +kernel), List.mem_of_getElem? (i := 782) (by decide +kernel)⟩
theorem lw_p23 : lw_okq (⟨"LoshuHall$Space", "addLine", "(II)V"⟩, 5) := ⟨⟨by decide +kernel, by decide +kernel⟩, List.mem_of_getElem? (i := 106) (by decide +kernel), List.mem_of_getElem? (i := 785) (by decide +kernel), List.mem_of_getElem? (i := 786) (by decide +kernel)⟩
theorem lw_p24 : lw_okq (⟨"LoshuHall$Space", "clearRow", "()V"⟩, 5) := ⟨⟨by decide +kernel, by decide +kernel⟩, List.mem_of_getElem? (i := 106) (by decide +kernel), List.mem_of_getElem? (i := 789) (by decide +kernel), List.mem_of_getElem? (i := 790) (by decide +kernel)⟩
theorem lw_p25 : lw_okq (⟨"LoshuHall$Space", "addToRow", "(II)V"⟩, 5) := ⟨⟨by decide +kernel, by decide +kernel⟩, List.mem_of_getElem? (i := 106) (by decide +kernel), List.mem_of_getElem? (i := 794) (by decide +kernel), List.mem_of_getElem? (i := 795) (by decide +kernel)⟩
theorem lw_p26 : lw_okq (⟨"LoshuHall$Space", "addRow", "()V"⟩, 5) := ⟨⟨by decide +kernel, by decide +kernel⟩, List.mem_of_getElem? (i := 106) (by decide +kernel), List.mem_of_getElem? (i := 799) (by decide +kernel), List.mem_of_getElem? (i := 800) (by decide +kernel)⟩
theorem lw_p27 : lw_okq (⟨"LoshuHall$Space", "reduceBy", "([II)V"⟩, 5) := ⟨⟨by decide +kernel, by decide +kernel⟩, List.mem_of_getElem? (i := 106) (by decide +kernel), List.mem_of_getElem? (i := 803) (by decide +kernel), List.mem_of_getElem? (i := 804) (by decide +kernel)⟩
theorem lw_p28 : lw_okq (⟨"LoshuHall$Space", "leadOfRow", "()I"⟩, 5) := ⟨⟨by decide +kernel, by decide +kernel⟩, List.mem_of_getElem? (i := 106) (by decide +kernel), List.mem_of_getElem? (i := 811) (by decide +kernel), List.mem_of_getElem? (i := 812) (by decide +kernel)⟩
theorem lw_p29 : lw_okq (⟨"LoshuHall$Space", "copyRowTo", "([I)V"⟩, 5) := ⟨⟨by decide +kernel, by decide +kernel⟩, List.mem_of_getElem? (i := 106) (by decide +kernel), List.mem_of_getElem? (i := 815) (by decide +kernel), List.mem_of_getElem? (i := 816) (by decide +kernel)⟩
theorem lw_p30 : lw_okq (⟨"LoshuHall$Space", "addOpposites", "()V"⟩, 5) := ⟨⟨by decide +kernel, by decide +kernel⟩, List.mem_of_getElem? (i := 106) (by decide +kernel), List.mem_of_getElem? (i := 819) (by decide +kernel), List.mem_of_getElem? (i := 820) (by decide +kernel)⟩
theorem lw_p31 : lw_okq (⟨"LoshuHallModel", "isFine", "(I)Z"⟩, 16) := ⟨⟨by decide +kernel, by decide +kernel⟩, List.mem_of_getElem? (i := 823) (by decide +kernel), List.mem_of_getElem? (i := 890) (by decide +kernel), List.mem_of_getElem? (i := 891) (by decide +kernel)⟩
def lw_privs_2 : List (MethodName × Nat) := [(⟨"LoshuHall$Search", "highestAt", "(I)I"⟩, 14), (⟨"LoshuHall$Search", "lowestAt", "(I)I"⟩, 14), (⟨"LoshuHall$Search", "lift", "(II)V"⟩, 14), (⟨"LoshuHall$Search", "countChoices", "(I)I"⟩, 14), (⟨"LoshuHall$Search", "choiceAt", "(II)I"⟩, 14), (⟨"LoshuHall$Givens", "tellsAllApart", "(I)Z"⟩, 1), (⟨"LoshuHall$Space", "addLines", "(I)V"⟩, 5), (⟨"LoshuHall$Space", "addLine", "(II)V"⟩, 5), (⟨"LoshuHall$Space", "clearRow", "()V"⟩, 5), (⟨"LoshuHall$Space", "addToRow", "(II)V"⟩, 5), (⟨"LoshuHall$Space", "addRow", "()V"⟩, 5), (⟨"LoshuHall$Space", "reduceBy", "([II)V"⟩, 5), (⟨"LoshuHall$Space", "leadOfRow", "()I"⟩, 5), (⟨"LoshuHall$Space", "copyRowTo", "([I)V"⟩, 5), (⟨"LoshuHall$Space", "addOpposites", "()V"⟩, 5), (⟨"LoshuHallModel", "isFine", "(I)Z"⟩, 16)]
theorem lw_r2 : ∀ q ∈ lw_privs_2, lw_okq q := List.forall_mem_cons.mpr ⟨lw_p16, List.forall_mem_cons.mpr ⟨lw_p17, List.forall_mem_cons.mpr ⟨lw_p18, List.forall_mem_cons.mpr ⟨lw_p19, List.forall_mem_cons.mpr ⟨lw_p20, List.forall_mem_cons.mpr ⟨lw_p21, List.forall_mem_cons.mpr ⟨lw_p22, List.forall_mem_cons.mpr ⟨lw_p23, List.forall_mem_cons.mpr ⟨lw_p24, List.forall_mem_cons.mpr ⟨lw_p25, List.forall_mem_cons.mpr ⟨lw_p26, List.forall_mem_cons.mpr ⟨lw_p27, List.forall_mem_cons.mpr ⟨lw_p28, List.forall_mem_cons.mpr ⟨lw_p29, List.forall_mem_cons.mpr ⟨lw_p30, List.forall_mem_cons.mpr ⟨lw_p31, fun _ h => absurd h List.not_mem_nil⟩⟩⟩⟩⟩⟩⟩⟩⟩⟩⟩⟩⟩⟩⟩⟩
theorem lw_p32 : lw_okq (⟨"LoshuHallModel", "wipe", "()V"⟩, 16) := ⟨⟨by decide +kernel, by decide +kernel⟩, List.mem_of_getElem? (i := 823) (by decide +kernel), List.mem_of_getElem? (i := 894) (by decide +kernel), List.mem_of_getElem? (i := 895) (by decide +kernel)⟩
theorem lw_p33 : lw_okq (⟨"LoshuHallModel", "lay", "(I)I"⟩, 16) := ⟨⟨by decide +kernel, by decide +kernel⟩, List.mem_of_getElem? (i := 823) (by decide +kernel), List.mem_of_getElem? (i := 898) (by decide +kernel), List.mem_of_getElem? (i := 899) (by decide +kernel)⟩
theorem lw_p34 : lw_okq (⟨"LoshuHallModel", "isPoint", "(III)Z"⟩, 16) := ⟨⟨by decide +kernel, by decide +kernel⟩, List.mem_of_getElem? (i := 823) (by decide +kernel), List.mem_of_getElem? (i := 906) (by decide +kernel), List.mem_of_getElem? (i := 907) (by decide +kernel)⟩
theorem lw_p35 : lw_okq (⟨"LoshuHallModel", "isSquare", "(I)Z"⟩, 16) := ⟨⟨by decide +kernel, by decide +kernel⟩, List.mem_of_getElem? (i := 823) (by decide +kernel), List.mem_of_getElem? (i := 910) (by decide +kernel), List.mem_of_getElem? (i := 911) (by decide +kernel)⟩
theorem lw_p36 : lw_okq (⟨"LoshuHallModel", "numberAt", "(III)I"⟩, 16) := ⟨⟨by decide +kernel, by decide +kernel⟩, List.mem_of_getElem? (i := 823) (by decide +kernel), List.mem_of_getElem? (i := 918) (by decide +kernel), List.mem_of_getElem? (i := 919) (by decide +kernel)⟩
theorem lw_p37 : lw_okq (⟨"LoshuHallModel", "siege", "(I)V"⟩, 16) := ⟨⟨by decide +kernel, by decide +kernel⟩, List.mem_of_getElem? (i := 823) (by decide +kernel), List.mem_of_getElem? (i := 929) (by decide +kernel), List.mem_of_getElem? (i := 930) (by decide +kernel)⟩
theorem lw_p38 : lw_okq (⟨"LoshuHallModel", "cross", "(I)V"⟩, 16) := ⟨⟨by decide +kernel, by decide +kernel⟩, List.mem_of_getElem? (i := 823) (by decide +kernel), List.mem_of_getElem? (i := 933) (by decide +kernel), List.mem_of_getElem? (i := 934) (by decide +kernel)⟩
theorem lw_p39 : lw_okq (⟨"LoshuHallModel", "digits", "(I)V"⟩, 16) := ⟨⟨by decide +kernel, by decide +kernel⟩, List.mem_of_getElem? (i := 823) (by decide +kernel), List.mem_of_getElem? (i := 937) (by decide +kernel), List.mem_of_getElem? (i := 938) (by decide +kernel)⟩
theorem lw_p40 : lw_okq (⟨"LoshuHallModel", "lux", "()V"⟩, 16) := ⟨⟨by decide +kernel, by decide +kernel⟩, List.mem_of_getElem? (i := 823) (by decide +kernel), List.mem_of_getElem? (i := 941) (by decide +kernel), List.mem_of_getElem? (i := 942) (by decide +kernel)⟩
theorem lw_p41 : lw_okq (⟨"LoshuHallModel", "lawsOf", "(I)I"⟩, 16) := ⟨⟨by decide +kernel, by decide +kernel⟩, List.mem_of_getElem? (i := 823) (by decide +kernel), List.mem_of_getElem? (i := 949) (by decide +kernel), List.mem_of_getElem? (i := 950) (by decide +kernel)⟩
theorem lw_p42 : lw_okq (⟨"LoshuHallModel", "areaOf", "(I)I"⟩, 16) := ⟨⟨by decide +kernel, by decide +kernel⟩, List.mem_of_getElem? (i := 823) (by decide +kernel), List.mem_of_getElem? (i := 953) (by decide +kernel), List.mem_of_getElem? (i := 954) (by decide +kernel)⟩
theorem lw_p43 : lw_okq (⟨"LoshuHallModel", "squaresOf", "(III)I"⟩, 16) := ⟨⟨by decide +kernel, by decide +kernel⟩, List.mem_of_getElem? (i := 823) (by decide +kernel), List.mem_of_getElem? (i := 957) (by decide +kernel), List.mem_of_getElem? (i := 958) (by decide +kernel)⟩
theorem lw_p44 : lw_okq (⟨"LoshuHallModel", "areAlike", "(II)Z"⟩, 16) := ⟨⟨by decide +kernel, by decide +kernel⟩, List.mem_of_getElem? (i := 823) (by decide +kernel), List.mem_of_getElem? (i := 961) (by decide +kernel), List.mem_of_getElem? (i := 962) (by decide +kernel)⟩
theorem lw_p45 : lw_okq (⟨"LoshuHallModel", "sumOf", "(III)I"⟩, 16) := ⟨⟨by decide +kernel, by decide +kernel⟩, List.mem_of_getElem? (i := 823) (by decide +kernel), List.mem_of_getElem? (i := 965) (by decide +kernel), List.mem_of_getElem? (i := 966) (by decide +kernel)⟩
theorem lw_p46 : lw_okq (⟨"LoshuHallModel", "areDiagonals", "(I)Z"⟩, 16) := ⟨⟨by decide +kernel, by decide +kernel⟩, List.mem_of_getElem? (i := 823) (by decide +kernel), List.mem_of_getElem? (i := 969) (by decide +kernel), List.mem_of_getElem? (i := 970) (by decide +kernel)⟩
theorem lw_p47 : lw_okq (⟨"LoshuHallModel", "areOpposite", "(I)Z"⟩, 16) := ⟨⟨by decide +kernel, by decide +kernel⟩, List.mem_of_getElem? (i := 823) (by decide +kernel), List.mem_of_getElem? (i := 973) (by decide +kernel), List.mem_of_getElem? (i := 974) (by decide +kernel)⟩
def lw_privs_3 : List (MethodName × Nat) := [(⟨"LoshuHallModel", "wipe", "()V"⟩, 16), (⟨"LoshuHallModel", "lay", "(I)I"⟩, 16), (⟨"LoshuHallModel", "isPoint", "(III)Z"⟩, 16), (⟨"LoshuHallModel", "isSquare", "(I)Z"⟩, 16), (⟨"LoshuHallModel", "numberAt", "(III)I"⟩, 16), (⟨"LoshuHallModel", "siege", "(I)V"⟩, 16), (⟨"LoshuHallModel", "cross", "(I)V"⟩, 16), (⟨"LoshuHallModel", "digits", "(I)V"⟩, 16), (⟨"LoshuHallModel", "lux", "()V"⟩, 16), (⟨"LoshuHallModel", "lawsOf", "(I)I"⟩, 16), (⟨"LoshuHallModel", "areaOf", "(I)I"⟩, 16), (⟨"LoshuHallModel", "squaresOf", "(III)I"⟩, 16), (⟨"LoshuHallModel", "areAlike", "(II)Z"⟩, 16), (⟨"LoshuHallModel", "sumOf", "(III)I"⟩, 16), (⟨"LoshuHallModel", "areDiagonals", "(I)Z"⟩, 16), (⟨"LoshuHallModel", "areOpposite", "(I)Z"⟩, 16)]
theorem lw_r3 : ∀ q ∈ lw_privs_3, lw_okq q := List.forall_mem_cons.mpr ⟨lw_p32, List.forall_mem_cons.mpr ⟨lw_p33, List.forall_mem_cons.mpr ⟨lw_p34, List.forall_mem_cons.mpr ⟨lw_p35, List.forall_mem_cons.mpr ⟨lw_p36, List.forall_mem_cons.mpr ⟨lw_p37, List.forall_mem_cons.mpr ⟨lw_p38, List.forall_mem_cons.mpr ⟨lw_p39, List.forall_mem_cons.mpr ⟨lw_p40, List.forall_mem_cons.mpr ⟨lw_p41, List.forall_mem_cons.mpr ⟨lw_p42, List.forall_mem_cons.mpr ⟨lw_p43, List.forall_mem_cons.mpr ⟨lw_p44, List.forall_mem_cons.mpr ⟨lw_p45, List.forall_mem_cons.mpr ⟨lw_p46, List.forall_mem_cons.mpr ⟨lw_p47, fun _ h => absurd h List.not_mem_nil⟩⟩⟩⟩⟩⟩⟩⟩⟩⟩⟩⟩⟩⟩⟩⟩
theorem lw_p48 : lw_okq (⟨"LoshuHallModel", "isNormal", "(I)Z"⟩, 16) := ⟨⟨by decide +kernel, by decide +kernel⟩, List.mem_of_getElem? (i := 823) (by decide +kernel), List.mem_of_getElem? (i := 977) (by decide +kernel), List.mem_of_getElem? (i := 978) (by decide +kernel)⟩
theorem lw_p49 : lw_okq (⟨"LoshuHallModel", "mostBy", "(II)I"⟩, 16) := ⟨⟨by decide +kernel, by decide +kernel⟩, List.mem_of_getElem? (i := 823) (by decide +kernel), List.mem_of_getElem? (i := 989) (by decide +kernel), List.mem_of_getElem? (i := 990) (by decide +kernel)⟩
theorem lw_p50 : lw_okq (⟨"LoshuHallModel", "canComplement", "(II)Z"⟩, 16) := ⟨⟨by decide +kernel, by decide +kernel⟩, List.mem_of_getElem? (i := 823) (by decide +kernel), List.mem_of_getElem? (i := 993) (by decide +kernel), List.mem_of_getElem? (i := 994) (by decide +kernel)⟩
theorem lw_p51 : lw_okq (⟨"LoshuHallModel", "areKin", "(II)Z"⟩, 16) := ⟨⟨by decide +kernel, by decide +kernel⟩, List.mem_of_getElem? (i := 823) (by decide +kernel), List.mem_of_getElem? (i := 1010) (by decide +kernel), List.mem_of_getElem? (i := 1011) (by decide +kernel)⟩
theorem lw_p52 : lw_okq (⟨"LoshuHallModel", "isForm", "(III)Z"⟩, 16) := ⟨⟨by decide +kernel, by decide +kernel⟩, List.mem_of_getElem? (i := 823) (by decide +kernel), List.mem_of_getElem? (i := 1014) (by decide +kernel), List.mem_of_getElem? (i := 1015) (by decide +kernel)⟩
theorem lw_p53 : lw_okq (⟨"LoshuHallModel", "formAt", "(III)I"⟩, 16) := ⟨⟨by decide +kernel, by decide +kernel⟩, List.mem_of_getElem? (i := 823) (by decide +kernel), List.mem_of_getElem? (i := 1018) (by decide +kernel), List.mem_of_getElem? (i := 1019) (by decide +kernel)⟩
theorem lw_p54 : lw_okq (⟨"LoshuHallModel", "isLess", "(III)Z"⟩, 16) := ⟨⟨by decide +kernel, by decide +kernel⟩, List.mem_of_getElem? (i := 823) (by decide +kernel), List.mem_of_getElem? (i := 1026) (by decide +kernel), List.mem_of_getElem? (i := 1027) (by decide +kernel)⟩
theorem lw_p55 : lw_okq (⟨"LoshuHallModel", "isSearched", "(I)Z"⟩, 16) := ⟨⟨by decide +kernel, by decide +kernel⟩, List.mem_of_getElem? (i := 823) (by decide +kernel), List.mem_of_getElem? (i := 1042) (by decide +kernel), List.mem_of_getElem? (i := 1043) (by decide +kernel)⟩
theorem lw_p56 : lw_okq (⟨"LoshuHallModel", "emptyOf", "(I)I"⟩, 16) := ⟨⟨by decide +kernel, by decide +kernel⟩, List.mem_of_getElem? (i := 823) (by decide +kernel), List.mem_of_getElem? (i := 1046) (by decide +kernel), List.mem_of_getElem? (i := 1047) (by decide +kernel)⟩
theorem lw_p57 : lw_okq (⟨"LoshuHallModel", "take", "(II)V"⟩, 16) := ⟨⟨by decide +kernel, by decide +kernel⟩, List.mem_of_getElem? (i := 823) (by decide +kernel), List.mem_of_getElem? (i := 1051) (by decide +kernel), List.mem_of_getElem? (i := 1052) (by decide +kernel)⟩
theorem lw_p58 : lw_okq (⟨"LoshuHallModel", "search", "(I)I"⟩, 16) := ⟨⟨by decide +kernel, by decide +kernel⟩, List.mem_of_getElem? (i := 823) (by decide +kernel), List.mem_of_getElem? (i := 1056) (by decide +kernel), List.mem_of_getElem? (i := 1057) (by decide +kernel)⟩
theorem lw_p59 : lw_okq (⟨"LoshuHallModel", "isFit", "()Z"⟩, 16) := ⟨⟨by decide +kernel, by decide +kernel⟩, List.mem_of_getElem? (i := 823) (by decide +kernel), List.mem_of_getElem? (i := 1060) (by decide +kernel), List.mem_of_getElem? (i := 1061) (by decide +kernel)⟩
theorem lw_p60 : lw_okq (⟨"LoshuHallModel", "isLineFit", "(II)Z"⟩, 16) := ⟨⟨by decide +kernel, by decide +kernel⟩, List.mem_of_getElem? (i := 823) (by decide +kernel), List.mem_of_getElem? (i := 1064) (by decide +kernel), List.mem_of_getElem? (i := 1065) (by decide +kernel)⟩
theorem lw_p61 : lw_okq (⟨"LoshuHallModel", "goesOn", "(I)Z"⟩, 16) := ⟨⟨by decide +kernel, by decide +kernel⟩, List.mem_of_getElem? (i := 823) (by decide +kernel), List.mem_of_getElem? (i := 1068) (by decide +kernel), List.mem_of_getElem? (i := 1069) (by decide +kernel)⟩
theorem lw_p62 : lw_okq (⟨"LoshuHallModel", "mended", "(II)I"⟩, 16) := ⟨⟨by decide +kernel, by decide +kernel⟩, List.mem_of_getElem? (i := 823) (by decide +kernel), List.mem_of_getElem? (i := 1094) (by decide +kernel), List.mem_of_getElem? (i := 1095) (by decide +kernel)⟩
theorem lw_p63 : lw_okq (⟨"LoshuHallModel", "isSlip", "(III)Z"⟩, 16) := ⟨⟨by decide +kernel, by decide +kernel⟩, List.mem_of_getElem? (i := 823) (by decide +kernel), List.mem_of_getElem? (i := 1098) (by decide +kernel), List.mem_of_getElem? (i := 1099) (by decide +kernel)⟩
def lw_privs_4 : List (MethodName × Nat) := [(⟨"LoshuHallModel", "isNormal", "(I)Z"⟩, 16), (⟨"LoshuHallModel", "mostBy", "(II)I"⟩, 16), (⟨"LoshuHallModel", "canComplement", "(II)Z"⟩, 16), (⟨"LoshuHallModel", "areKin", "(II)Z"⟩, 16), (⟨"LoshuHallModel", "isForm", "(III)Z"⟩, 16), (⟨"LoshuHallModel", "formAt", "(III)I"⟩, 16), (⟨"LoshuHallModel", "isLess", "(III)Z"⟩, 16), (⟨"LoshuHallModel", "isSearched", "(I)Z"⟩, 16), (⟨"LoshuHallModel", "emptyOf", "(I)I"⟩, 16), (⟨"LoshuHallModel", "take", "(II)V"⟩, 16), (⟨"LoshuHallModel", "search", "(I)I"⟩, 16), (⟨"LoshuHallModel", "isFit", "()Z"⟩, 16), (⟨"LoshuHallModel", "isLineFit", "(II)Z"⟩, 16), (⟨"LoshuHallModel", "goesOn", "(I)Z"⟩, 16), (⟨"LoshuHallModel", "mended", "(II)I"⟩, 16), (⟨"LoshuHallModel", "isSlip", "(III)Z"⟩, 16)]
theorem lw_r4 : ∀ q ∈ lw_privs_4, lw_okq q := List.forall_mem_cons.mpr ⟨lw_p48, List.forall_mem_cons.mpr ⟨lw_p49, List.forall_mem_cons.mpr ⟨lw_p50, List.forall_mem_cons.mpr ⟨lw_p51, List.forall_mem_cons.mpr ⟨lw_p52, List.forall_mem_cons.mpr ⟨lw_p53, List.forall_mem_cons.mpr ⟨lw_p54, List.forall_mem_cons.mpr ⟨lw_p55, List.forall_mem_cons.mpr ⟨lw_p56, List.forall_mem_cons.mpr ⟨lw_p57, List.forall_mem_cons.mpr ⟨lw_p58, List.forall_mem_cons.mpr ⟨lw_p59, List.forall_mem_cons.mpr ⟨lw_p60, List.forall_mem_cons.mpr ⟨lw_p61, List.forall_mem_cons.mpr ⟨lw_p62, List.forall_mem_cons.mpr ⟨lw_p63, fun _ h => absurd h List.not_mem_nil⟩⟩⟩⟩⟩⟩⟩⟩⟩⟩⟩⟩⟩⟩⟩⟩
theorem lw_p64 : lw_okq (⟨"LoshuHallModel", "isRight", "(I)Z"⟩, 16) := ⟨⟨by decide +kernel, by decide +kernel⟩, List.mem_of_getElem? (i := 823) (by decide +kernel), List.mem_of_getElem? (i := 1102) (by decide +kernel), List.mem_of_getElem? (i := 1103) (by decide +kernel)⟩
theorem lw_p65 : lw_okq (⟨"LoshuHallModel", "isWithin", "(II)Z"⟩, 16) := ⟨⟨by decide +kernel, by decide +kernel⟩, List.mem_of_getElem? (i := 823) (by decide +kernel), List.mem_of_getElem? (i := 1114) (by decide +kernel), List.mem_of_getElem? (i := 1115) (by decide +kernel)⟩
theorem lw_p66 : lw_okq (⟨"LoshuHallModel", "greatest", "(I)I"⟩, 16) := ⟨⟨by decide +kernel, by decide +kernel⟩, List.mem_of_getElem? (i := 823) (by decide +kernel), List.mem_of_getElem? (i := 1122) (by decide +kernel), List.mem_of_getElem? (i := 1123) (by decide +kernel)⟩
theorem lw_p67 : lw_okq (⟨"LoshuHallModel", "layLine", "([JIII)V"⟩, 16) := ⟨⟨by decide +kernel, by decide +kernel⟩, List.mem_of_getElem? (i := 823) (by decide +kernel), List.mem_of_getElem? (i := 1137) (by decide +kernel), List.mem_of_getElem? (i := 1138) (by decide +kernel)⟩
theorem lw_p68 : lw_okq (⟨"LoshuHallModel", "begin", "([J)V"⟩, 16) := ⟨⟨by decide +kernel, by decide +kernel⟩, List.mem_of_getElem? (i := 823) (by decide +kernel), List.mem_of_getElem? (i := 1141) (by decide +kernel), List.mem_of_getElem? (i := 1142) (by decide +kernel)⟩
theorem lw_p69 : lw_okq (⟨"LoshuHallModel", "independent", "()I"⟩, 16) := ⟨⟨by decide +kernel, by decide +kernel⟩, List.mem_of_getElem? (i := 823) (by decide +kernel), List.mem_of_getElem? (i := 1145) (by decide +kernel), List.mem_of_getElem? (i := 1146) (by decide +kernel)⟩
def lw_privs_5 : List (MethodName × Nat) := [(⟨"LoshuHallModel", "isRight", "(I)Z"⟩, 16), (⟨"LoshuHallModel", "isWithin", "(II)Z"⟩, 16), (⟨"LoshuHallModel", "greatest", "(I)I"⟩, 16), (⟨"LoshuHallModel", "layLine", "([JIII)V"⟩, 16), (⟨"LoshuHallModel", "begin", "([J)V"⟩, 16), (⟨"LoshuHallModel", "independent", "()I"⟩, 16)]
theorem lw_r5 : ∀ q ∈ lw_privs_5, lw_okq q := List.forall_mem_cons.mpr ⟨lw_p64, List.forall_mem_cons.mpr ⟨lw_p65, List.forall_mem_cons.mpr ⟨lw_p66, List.forall_mem_cons.mpr ⟨lw_p67, List.forall_mem_cons.mpr ⟨lw_p68, List.forall_mem_cons.mpr ⟨lw_p69, fun _ h => absurd h List.not_mem_nil⟩⟩⟩⟩⟩⟩
def lw_privs : List (MethodName × Nat) := lw_privs_1 ++ (lw_privs_2 ++ (lw_privs_3 ++ (lw_privs_4 ++ (lw_privs_5))))
def lw_tbl : List Cond := k2_sels lw_privs ++ tables_1
theorem lw_privs_ok : ∀ q ∈ lw_privs, lw_okq q := by
  show ∀ q ∈ lw_privs_1 ++ (lw_privs_2 ++ (lw_privs_3 ++ (lw_privs_4 ++ (lw_privs_5)))), lw_okq q
  exact List.forall_mem_append.mpr ⟨lw_r1, List.forall_mem_append.mpr ⟨lw_r2, List.forall_mem_append.mpr ⟨lw_r3, List.forall_mem_append.mpr ⟨lw_r4, lw_r5⟩⟩⟩⟩
end
section
def RX0 : String := "LoshuHall$Changes"
def TX0 : u_T := fun k => match k with
  | _ => ("", "", "", false)
def tyX0 : Nat → FieldType := fun k => match k with
  | _ => .int
theorem nmX0 : ∀ a, a < 0 → ∀ b, b < 0 → a ≠ b → (TX0 a).2.1 ≠ (TX0 b).2.1 := by decide +kernel
theorem tyX0_ok : ∀ k, k < 0 → parseFieldDescriptor (TX0 k).2.2.1 = some (tyX0 k) := by decide +kernel
abbrev cX0_mostBy : ByteArray := prog_2_method_2_code
def yX0_mostBy : MethodName := ⟨RX0, "mostBy", "(II)I"⟩
abbrev cX0_move : ByteArray := prog_2_method_3_code
def yX0_move : MethodName := ⟨RX0, "move", "(LLoshuHall$Figure;LLoshuHall$Figure;II)I"⟩
abbrev cX0_aheadOf : ByteArray := prog_2_method_4_code
def yX0_aheadOf : MethodName := ⟨RX0, "aheadOf", "(IIII)I"⟩
abbrev cX0_canComplement : ByteArray := prog_2_method_5_code
def yX0_canComplement : MethodName := ⟨RX0, "canComplement", "(LLoshuHall$Figure;I)Z"⟩
abbrev cX0_complement : ByteArray := prog_2_method_6_code
def yX0_complement : MethodName := ⟨RX0, "complement", "(LLoshuHall$Figure;I)I"⟩
def RX1 : String := "LoshuHall$Figure"
def TX1 : u_T := fun k => match k with
  | 0 => ("LoshuHall$Figure", "numbers", "[I", true)
  | _ => ("LoshuHall$Figure", "side", "I", false)
def tyX1 : Nat → FieldType := fun k => match k with
  | 0 => .array .int
  | _ => .int
theorem nmX1 : ∀ a, a < 2 → ∀ b, b < 2 → a ≠ b → (TX1 a).2.1 ≠ (TX1 b).2.1 := by decide +kernel
theorem tyX1_ok : ∀ k, k < 2 → parseFieldDescriptor (TX1 k).2.2.1 = some (tyX1 k) := by decide +kernel
abbrev cX1_init : ByteArray := prog_3_method_1_code
def yX1_init : MethodName := ⟨RX1, "<init>", "()V"⟩
abbrev cX1_begin : ByteArray := prog_3_method_2_code
def yX1_begin : MethodName := ⟨RX1, "begin", "(I)V"⟩
abbrev cX1_copyFrom : ByteArray := prog_3_method_3_code
def yX1_copyFrom : MethodName := ⟨RX1, "copyFrom", "(LLoshuHall$Figure;)V"⟩
abbrev cX1_side : ByteArray := prog_3_method_4_code
def yX1_side : MethodName := ⟨RX1, "side", "()I"⟩
abbrev cX1_size : ByteArray := prog_3_method_5_code
def yX1_size : MethodName := ⟨RX1, "size", "()I"⟩
abbrev cX1_placeOf : ByteArray := prog_3_method_6_code
def yX1_placeOf : MethodName := ⟨RX1, "placeOf", "(II)I"⟩
abbrev cX1_read : ByteArray := prog_3_method_7_code
def yX1_read : MethodName := ⟨RX1, "read", "(I)I"⟩
abbrev cX1_write : ByteArray := prog_3_method_8_code
def yX1_write : MethodName := ⟨RX1, "write", "(II)I"⟩
abbrev cX1_countOf : ByteArray := prog_3_method_9_code
def yX1_countOf : MethodName := ⟨RX1, "countOf", "(I)I"⟩
abbrev cX1_highest : ByteArray := prog_3_method_10_code
def yX1_highest : MethodName := ⟨RX1, "highest", "()I"⟩
abbrev cX1_lineSum : ByteArray := prog_3_method_11_code
def yX1_lineSum : MethodName := ⟨RX1, "lineSum", "(II)I"⟩
abbrev cX1_linePower : ByteArray := prog_3_method_12_code
def yX1_linePower : MethodName := ⟨RX1, "linePower", "(II)I"⟩
def RX2 : String := "LoshuHall$Forms"
def TX2 : u_T := fun k => match k with
  | _ => ("", "", "", false)
def tyX2 : Nat → FieldType := fun k => match k with
  | _ => .int
theorem nmX2 : ∀ a, a < 0 → ∀ b, b < 0 → a ≠ b → (TX2 a).2.1 ≠ (TX2 b).2.1 := by decide +kernel
theorem tyX2_ok : ∀ k, k < 0 → parseFieldDescriptor (TX2 k).2.2.1 = some (tyX2 k) := by decide +kernel
abbrev cX2_numberIn : ByteArray := prog_4_method_2_code
def yX2_numberIn : MethodName := ⟨RX2, "numberIn", "(LLoshuHall$Figure;II)I"⟩
abbrev cX2_areKin : ByteArray := prog_4_method_3_code
def yX2_areKin : MethodName := ⟨RX2, "areKin", "(LLoshuHall$Figure;LLoshuHall$Figure;)Z"⟩
abbrev cX2_countLike : ByteArray := prog_4_method_4_code
def yX2_countLike : MethodName := ⟨RX2, "countLike", "(LLoshuHall$Figure;)I"⟩
abbrev cX2_isForm : ByteArray := prog_4_method_5_code
def yX2_isForm : MethodName := ⟨RX2, "isForm", "(LLoshuHall$Figure;ILLoshuHall$Figure;)Z"⟩
abbrev cX2_leastOf : ByteArray := prog_4_method_6_code
def yX2_leastOf : MethodName := ⟨RX2, "leastOf", "(LLoshuHall$Figure;)I"⟩
abbrev cX2_isLower : ByteArray := prog_4_method_7_code
def yX2_isLower : MethodName := ⟨RX2, "isLower", "(LLoshuHall$Figure;II)Z"⟩
def RX3 : String := "LoshuHall$Givens"
def TX3 : u_T := fun k => match k with
  | _ => ("LoshuHall$Givens", "differences", "[I", true)
def tyX3 : Nat → FieldType := fun k => match k with
  | _ => .array .int
theorem nmX3 : ∀ a, a < 1 → ∀ b, b < 1 → a ≠ b → (TX3 a).2.1 ≠ (TX3 b).2.1 := by decide +kernel
theorem tyX3_ok : ∀ k, k < 1 → parseFieldDescriptor (TX3 k).2.2.1 = some (tyX3 k) := by decide +kernel
abbrev cX3_init : ByteArray := prog_5_method_1_code
def yX3_init : MethodName := ⟨RX3, "<init>", "()V"⟩
abbrev cX3_fewestOf : ByteArray := prog_5_method_2_code
def yX3_fewestOf : MethodName := ⟨RX3, "fewestOf", "(LLoshuHall$Figure;)I"⟩
abbrev cX3_differenceOf : ByteArray := prog_5_method_3_code
def yX3_differenceOf : MethodName := ⟨RX3, "differenceOf", "(LLoshuHall$Figure;I)I"⟩
abbrev cX3_tellsAllApart : ByteArray := prog_5_method_4_code
def yX3_tellsAllApart : MethodName := ⟨RX3, "tellsAllApart", "(I)Z"⟩
def RX4 : String := "LoshuHall$Laws"
def TX4 : u_T := fun k => match k with
  | _ => ("", "", "", false)
def tyX4 : Nat → FieldType := fun k => match k with
  | _ => .int
theorem nmX4 : ∀ a, a < 0 → ∀ b, b < 0 → a ≠ b → (TX4 a).2.1 ≠ (TX4 b).2.1 := by decide +kernel
theorem tyX4_ok : ∀ k, k < 0 → parseFieldDescriptor (TX4 k).2.2.1 = some (tyX4 k) := by decide +kernel
abbrev cX4_heldBy : ByteArray := prog_6_method_2_code
def yX4_heldBy : MethodName := ⟨RX4, "heldBy", "(LLoshuHall$Figure;)I"⟩
abbrev cX4_isMagic : ByteArray := prog_6_method_3_code
def yX4_isMagic : MethodName := ⟨RX4, "isMagic", "(LLoshuHall$Figure;)Z"⟩
abbrev cX4_isNormal : ByteArray := prog_6_method_4_code
def yX4_isNormal : MethodName := ⟨RX4, "isNormal", "(LLoshuHall$Figure;)Z"⟩
abbrev cX4_holds : ByteArray := prog_6_method_5_code
def yX4_holds : MethodName := ⟨RX4, "holds", "(LLoshuHall$Figure;I)Z"⟩
abbrev cX4_areDiagonalsAt : ByteArray := prog_6_method_6_code
def yX4_areDiagonalsAt : MethodName := ⟨RX4, "areDiagonalsAt", "(LLoshuHall$Figure;I)Z"⟩
abbrev cX4_areLinesAt : ByteArray := prog_6_method_7_code
def yX4_areLinesAt : MethodName := ⟨RX4, "areLinesAt", "(LLoshuHall$Figure;II)Z"⟩
abbrev cX4_areOppositesAlike : ByteArray := prog_6_method_8_code
def yX4_areOppositesAlike : MethodName := ⟨RX4, "areOppositesAlike", "(LLoshuHall$Figure;)Z"⟩
abbrev cX4_arePowersAlike : ByteArray := prog_6_method_9_code
def yX4_arePowersAlike : MethodName := ⟨RX4, "arePowersAlike", "(LLoshuHall$Figure;)Z"⟩
def RX5 : String := "LoshuHall$Makers"
def TX5 : u_T := fun k => match k with
  | _ => ("", "", "", false)
def tyX5 : Nat → FieldType := fun k => match k with
  | _ => .int
theorem nmX5 : ∀ a, a < 0 → ∀ b, b < 0 → a ≠ b → (TX5 a).2.1 ≠ (TX5 b).2.1 := by decide +kernel
theorem tyX5_ok : ∀ k, k < 0 → parseFieldDescriptor (TX5 k).2.2.1 = some (tyX5 k) := by decide +kernel
abbrev cX5_holdsFor : ByteArray := prog_7_method_2_code
def yX5_holdsFor : MethodName := ⟨RX5, "holdsFor", "(II)Z"⟩
abbrev cX5_lay : ByteArray := prog_7_method_3_code
def yX5_lay : MethodName := ⟨RX5, "lay", "(ILLoshuHall$Figure;LLoshuHall$Figure;)V"⟩
abbrev cX5_laySiege : ByteArray := prog_7_method_4_code
def yX5_laySiege : MethodName := ⟨RX5, "laySiege", "(LLoshuHall$Figure;)V"⟩
abbrev cX5_layCross : ByteArray := prog_7_method_5_code
def yX5_layCross : MethodName := ⟨RX5, "layCross", "(LLoshuHall$Figure;)V"⟩
abbrev cX5_layDigits : ByteArray := prog_7_method_6_code
def yX5_layDigits : MethodName := ⟨RX5, "layDigits", "(LLoshuHall$Figure;)V"⟩
abbrev cX5_layLux : ByteArray := prog_7_method_7_code
def yX5_layLux : MethodName := ⟨RX5, "layLux", "(LLoshuHall$Figure;LLoshuHall$Figure;)V"⟩
def RX6 : String := "LoshuHall$Pairs"
def TX6 : u_T := fun k => match k with
  | _ => ("", "", "", false)
def tyX6 : Nat → FieldType := fun k => match k with
  | _ => .int
theorem nmX6 : ∀ a, a < 0 → ∀ b, b < 0 → a ≠ b → (TX6 a).2.1 ≠ (TX6 b).2.1 := by decide +kernel
theorem tyX6_ok : ∀ k, k < 0 → parseFieldDescriptor (TX6 k).2.2.1 = some (tyX6 k) := by decide +kernel
abbrev cX6_areOrthogonal : ByteArray := prog_8_method_2_code
def yX6_areOrthogonal : MethodName := ⟨RX6, "areOrthogonal", "(LLoshuHall$Figure;LLoshuHall$Figure;)Z"⟩
abbrev cX6_canStack : ByteArray := prog_8_method_3_code
def yX6_canStack : MethodName := ⟨RX6, "canStack", "(LLoshuHall$Figure;LLoshuHall$Figure;)Z"⟩
abbrev cX6_layStack : ByteArray := prog_8_method_4_code
def yX6_layStack : MethodName := ⟨RX6, "layStack", "(LLoshuHall$Figure;LLoshuHall$Figure;LLoshuHall$Figure;)V"⟩
abbrev cX6_canMultiply : ByteArray := prog_8_method_5_code
def yX6_canMultiply : MethodName := ⟨RX6, "canMultiply", "(LLoshuHall$Figure;LLoshuHall$Figure;)Z"⟩
abbrev cX6_layProduct : ByteArray := prog_8_method_6_code
def yX6_layProduct : MethodName := ⟨RX6, "layProduct", "(LLoshuHall$Figure;LLoshuHall$Figure;LLoshuHall$Figure;)V"⟩
abbrev cX6_multiplied : ByteArray := prog_8_method_7_code
def yX6_multiplied : MethodName := ⟨RX6, "multiplied", "(LLoshuHall$Figure;II)I"⟩
abbrev cX6_areBothFull : ByteArray := prog_8_method_8_code
def yX6_areBothFull : MethodName := ⟨RX6, "areBothFull", "(LLoshuHall$Figure;LLoshuHall$Figure;)Z"⟩
def RX7 : String := "LoshuHall$Places"
def TX7 : u_T := fun k => match k with
  | _ => ("", "", "", false)
def tyX7 : Nat → FieldType := fun k => match k with
  | _ => .int
theorem nmX7 : ∀ a, a < 0 → ∀ b, b < 0 → a ≠ b → (TX7 a).2.1 ≠ (TX7 b).2.1 := by decide +kernel
theorem tyX7_ok : ∀ k, k < 0 → parseFieldDescriptor (TX7 k).2.2.1 = some (tyX7 k) := by decide +kernel
abbrev cX7_of : ByteArray := prog_9_method_2_code
def yX7_of : MethodName := ⟨RX7, "of", "(III)I"⟩
abbrev cX7_rowOf : ByteArray := prog_9_method_3_code
def yX7_rowOf : MethodName := ⟨RX7, "rowOf", "(II)I"⟩
abbrev cX7_columnOf : ByteArray := prog_9_method_4_code
def yX7_columnOf : MethodName := ⟨RX7, "columnOf", "(II)I"⟩
abbrev cX7_wrap : ByteArray := prog_9_method_5_code
def yX7_wrap : MethodName := ⟨RX7, "wrap", "(II)I"⟩
abbrev cX7_onLine : ByteArray := prog_9_method_6_code
def yX7_onLine : MethodName := ⟨RX7, "onLine", "(IIII)I"⟩
abbrev cX7_aheadOfTurn : ByteArray := prog_9_method_7_code
def yX7_aheadOfTurn : MethodName := ⟨RX7, "aheadOfTurn", "(III)I"⟩
abbrev cX7_aheadOfFlip : ByteArray := prog_9_method_8_code
def yX7_aheadOfFlip : MethodName := ⟨RX7, "aheadOfFlip", "(III)I"⟩
abbrev cX7_aheadOfShift : ByteArray := prog_9_method_9_code
def yX7_aheadOfShift : MethodName := ⟨RX7, "aheadOfShift", "(IIII)I"⟩
abbrev cX7_aheadOfPairs : ByteArray := prog_9_method_10_code
def yX7_aheadOfPairs : MethodName := ⟨RX7, "aheadOfPairs", "(III)I"⟩
abbrev cX7_swapped : ByteArray := prog_9_method_11_code
def yX7_swapped : MethodName := ⟨RX7, "swapped", "(III)I"⟩
def RX8 : String := "LoshuHall$Search"
def TX8 : u_T := fun k => match k with
  | 0 => ("LoshuHall$Search", "numbers", "[I", true)
  | 1 => ("LoshuHall$Search", "isUsed", "[Z", true)
  | 2 => ("LoshuHall$Search", "sums", "[I", true)
  | 3 => ("LoshuHall$Search", "lacks", "[I", true)
  | 4 => ("LoshuHall$Search", "linesAtPlaces", "[I", true)
  | 5 => ("LoshuHall$Search", "empties", "[I", true)
  | 6 => ("LoshuHall$Search", "emptyCount", "I", false)
  | 7 => ("LoshuHall$Search", "side", "I", false)
  | 8 => ("LoshuHall$Search", "due", "I", false)
  | 9 => ("LoshuHall$Search", "isClashing", "Z", false)
  | 10 => ("LoshuHall$Search", "wanted", "I", false)
  | 11 => ("LoshuHall$Search", "wantedPlace", "I", false)
  | 12 => ("LoshuHall$Search", "found", "I", false)
  | _ => ("LoshuHall$Search", "answer", "I", false)
def tyX8 : Nat → FieldType := fun k => match k with
  | 0 => .array .int
  | 1 => .array .boolean
  | 2 => .array .int
  | 3 => .array .int
  | 4 => .array .int
  | 5 => .array .int
  | 6 => .int
  | 7 => .int
  | 8 => .int
  | 9 => .boolean
  | 10 => .int
  | 11 => .int
  | 12 => .int
  | _ => .int
theorem nmX8 : ∀ a, a < 14 → ∀ b, b < 14 → a ≠ b → (TX8 a).2.1 ≠ (TX8 b).2.1 := by decide +kernel
theorem tyX8_ok : ∀ k, k < 14 → parseFieldDescriptor (TX8 k).2.2.1 = some (tyX8 k) := by decide +kernel
abbrev cX8_init : ByteArray := prog_10_method_1_code
def yX8_init : MethodName := ⟨RX8, "<init>", "()V"⟩
abbrev cX8_load : ByteArray := prog_10_method_2_code
def yX8_load : MethodName := ⟨RX8, "load", "(LLoshuHall$Figure;)V"⟩
abbrev cX8_begin : ByteArray := prog_10_method_3_code
def yX8_begin : MethodName := ⟨RX8, "begin", "(I)V"⟩
abbrev cX8_lineThrough : ByteArray := prog_10_method_4_code
def yX8_lineThrough : MethodName := ⟨RX8, "lineThrough", "(II)I"⟩
abbrev cX8_addEmpty : ByteArray := prog_10_method_5_code
def yX8_addEmpty : MethodName := ⟨RX8, "addEmpty", "(I)V"⟩
abbrev cX8_countAll : ByteArray := prog_10_method_6_code
def yX8_countAll : MethodName := ⟨RX8, "countAll", "()I"⟩
abbrev cX8_numberIn : ByteArray := prog_10_method_7_code
def yX8_numberIn : MethodName := ⟨RX8, "numberIn", "(II)I"⟩
abbrev cX8_seek : ByteArray := prog_10_method_8_code
def yX8_seek : MethodName := ⟨RX8, "seek", "(II)V"⟩
abbrev cX8_fillFrom : ByteArray := prog_10_method_9_code
def yX8_fillFrom : MethodName := ⟨RX8, "fillFrom", "(LLoshuHall$Search;I)V"⟩
abbrev cX8_meet : ByteArray := prog_10_method_10_code
def yX8_meet : MethodName := ⟨RX8, "meet", "()V"⟩
abbrev cX8_estimateFrom : ByteArray := prog_10_method_11_code
def yX8_estimateFrom : MethodName := ⟨RX8, "estimateFrom", "(I)J"⟩
abbrev cX8_countChoices : ByteArray := prog_10_method_12_code
def yX8_countChoices : MethodName := ⟨RX8, "countChoices", "(I)I"⟩
abbrev cX8_choiceAt : ByteArray := prog_10_method_13_code
def yX8_choiceAt : MethodName := ⟨RX8, "choiceAt", "(II)I"⟩
abbrev cX8_fits : ByteArray := prog_10_method_14_code
def yX8_fits : MethodName := ⟨RX8, "fits", "()Z"⟩
abbrev cX8_lowestAt : ByteArray := prog_10_method_15_code
def yX8_lowestAt : MethodName := ⟨RX8, "lowestAt", "(I)I"⟩
abbrev cX8_highestAt : ByteArray := prog_10_method_16_code
def yX8_highestAt : MethodName := ⟨RX8, "highestAt", "(I)I"⟩
abbrev cX8_lay : ByteArray := prog_10_method_17_code
def yX8_lay : MethodName := ⟨RX8, "lay", "(II)V"⟩
abbrev cX8_lift : ByteArray := prog_10_method_18_code
def yX8_lift : MethodName := ⟨RX8, "lift", "(II)V"⟩
abbrev cX8_tally : ByteArray := prog_10_method_19_code
def yX8_tally : MethodName := ⟨RX8, "tally", "(III)V"⟩
abbrev cX8_lineAt : ByteArray := prog_10_method_20_code
def yX8_lineAt : MethodName := ⟨RX8, "lineAt", "(II)I"⟩
abbrev cX8_isLine : ByteArray := prog_10_method_21_code
def yX8_isLine : MethodName := ⟨RX8, "isLine", "(I)Z"⟩
abbrev cX8_isFree : ByteArray := prog_10_method_22_code
def yX8_isFree : MethodName := ⟨RX8, "isFree", "(I)Z"⟩
def RX9 : String := "LoshuHall$Slips"
def TX9 : u_T := fun k => match k with
  | _ => ("", "", "", false)
def tyX9 : Nat → FieldType := fun k => match k with
  | _ => .int
theorem nmX9 : ∀ a, a < 0 → ∀ b, b < 0 → a ≠ b → (TX9 a).2.1 ≠ (TX9 b).2.1 := by decide +kernel
theorem tyX9_ok : ∀ k, k < 0 → parseFieldDescriptor (TX9 k).2.2.1 = some (tyX9 k) := by decide +kernel
abbrev cX9_tell : ByteArray := prog_11_method_2_code
def yX9_tell : MethodName := ⟨RX9, "tell", "(LLoshuHall$Figure;I)I"⟩
abbrev cX9_tellOfOnePoint : ByteArray := prog_11_method_3_code
def yX9_tellOfOnePoint : MethodName := ⟨RX9, "tellOfOnePoint", "(II)I"⟩
abbrev cX9_mendingAt : ByteArray := prog_11_method_4_code
def yX9_mendingAt : MethodName := ⟨RX9, "mendingAt", "(LLoshuHall$Figure;I)I"⟩
def RX10 : String := "LoshuHall$Space"
def TX10 : u_T := fun k => match k with
  | 0 => ("LoshuHall$Space", "rows", "[[I", true)
  | 1 => ("LoshuHall$Space", "leads", "[I", true)
  | 2 => ("LoshuHall$Space", "row", "[I", true)
  | 3 => ("LoshuHall$Space", "rank", "I", false)
  | _ => ("LoshuHall$Space", "side", "I", false)
def tyX10 : Nat → FieldType := fun k => match k with
  | 0 => .array (.array .int)
  | 1 => .array .int
  | 2 => .array .int
  | 3 => .int
  | _ => .int
theorem nmX10 : ∀ a, a < 5 → ∀ b, b < 5 → a ≠ b → (TX10 a).2.1 ≠ (TX10 b).2.1 := by decide +kernel
theorem tyX10_ok : ∀ k, k < 5 → parseFieldDescriptor (TX10 k).2.2.1 = some (tyX10 k) := by decide +kernel
abbrev cX10_init : ByteArray := prog_12_method_1_code
def yX10_init : MethodName := ⟨RX10, "<init>", "()V"⟩
abbrev cX10_dimensionOf : ByteArray := prog_12_method_2_code
def yX10_dimensionOf : MethodName := ⟨RX10, "dimensionOf", "(II)I"⟩
abbrev cX10_addLines : ByteArray := prog_12_method_3_code
def yX10_addLines : MethodName := ⟨RX10, "addLines", "(I)V"⟩
abbrev cX10_addLine : ByteArray := prog_12_method_4_code
def yX10_addLine : MethodName := ⟨RX10, "addLine", "(II)V"⟩
abbrev cX10_addOpposites : ByteArray := prog_12_method_5_code
def yX10_addOpposites : MethodName := ⟨RX10, "addOpposites", "()V"⟩
abbrev cX10_clearRow : ByteArray := prog_12_method_6_code
def yX10_clearRow : MethodName := ⟨RX10, "clearRow", "()V"⟩
abbrev cX10_addToRow : ByteArray := prog_12_method_7_code
def yX10_addToRow : MethodName := ⟨RX10, "addToRow", "(II)V"⟩
abbrev cX10_addRow : ByteArray := prog_12_method_8_code
def yX10_addRow : MethodName := ⟨RX10, "addRow", "()V"⟩
abbrev cX10_reduceBy : ByteArray := prog_12_method_9_code
def yX10_reduceBy : MethodName := ⟨RX10, "reduceBy", "([II)V"⟩
abbrev cX10_leadOfRow : ByteArray := prog_12_method_10_code
def yX10_leadOfRow : MethodName := ⟨RX10, "leadOfRow", "()I"⟩
abbrev cX10_copyRowTo : ByteArray := prog_12_method_11_code
def yX10_copyRowTo : MethodName := ⟨RX10, "copyRowTo", "([I)V"⟩
def RX11 : String := "LoshuHall"
def TX11 : u_T := fun k => match k with
  | 0 => ("LoshuHall", "figures", "[LLoshuHall$Figure;", true)
  | 1 => ("LoshuHall", "spare", "LLoshuHall$Figure;", true)
  | 2 => ("LoshuHall", "search", "LLoshuHall$Search;", true)
  | 3 => ("LoshuHall", "givensFinder", "LLoshuHall$Givens;", true)
  | 4 => ("LoshuHall", "space", "LLoshuHall$Space;", true)
  | _ => ("LoshuHall", "figureCount", "I", false)
def tyX11 : Nat → FieldType := fun k => match k with
  | 0 => .array (.object "LoshuHall$Figure")
  | 1 => .object "LoshuHall$Figure"
  | 2 => .object "LoshuHall$Search"
  | 3 => .object "LoshuHall$Givens"
  | 4 => .object "LoshuHall$Space"
  | _ => .int
theorem nmX11 : ∀ a, a < 6 → ∀ b, b < 6 → a ≠ b → (TX11 a).2.1 ≠ (TX11 b).2.1 := by decide +kernel
theorem tyX11_ok : ∀ k, k < 6 → parseFieldDescriptor (TX11 k).2.2.1 = some (tyX11 k) := by decide +kernel
abbrev cX11_init : ByteArray := prog_1_method_1_code
def yX11_init : MethodName := ⟨RX11, "<init>", "()V"⟩
abbrev cX11_square : ByteArray := prog_1_method_2_code
def yX11_square : MethodName := ⟨RX11, "square", "(I)I"⟩
abbrev cX11_put : ByteArray := prog_1_method_3_code
def yX11_put : MethodName := ⟨RX11, "put", "(IIII)I"⟩
abbrev cX11_at : ByteArray := prog_1_method_4_code
def yX11_at : MethodName := ⟨RX11, "at", "(III)I"⟩
abbrev cX11_make : ByteArray := prog_1_method_5_code
def yX11_make : MethodName := ⟨RX11, "make", "(II)I"⟩
abbrev cX11_laws : ByteArray := prog_1_method_6_code
def yX11_laws : MethodName := ⟨RX11, "laws", "(I)I"⟩
abbrev cX11_sum : ByteArray := prog_1_method_7_code
def yX11_sum : MethodName := ⟨RX11, "sum", "(III)I"⟩
abbrev cX11_change : ByteArray := prog_1_method_8_code
def yX11_change : MethodName := ⟨RX11, "change", "(III)I"⟩
abbrev cX11_same : ByteArray := prog_1_method_9_code
def yX11_same : MethodName := ⟨RX11, "same", "(II)Z"⟩
abbrev cX11_least : ByteArray := prog_1_method_10_code
def yX11_least : MethodName := ⟨RX11, "least", "(III)I"⟩
abbrev cX11_kin : ByteArray := prog_1_method_11_code
def yX11_kin : MethodName := ⟨RX11, "kin", "(I)I"⟩
abbrev cX11_classes : ByteArray := prog_1_method_12_code
def yX11_classes : MethodName := ⟨RX11, "classes", "()I"⟩
abbrev cX11_completions : ByteArray := prog_1_method_13_code
def yX11_completions : MethodName := ⟨RX11, "completions", "(I)I"⟩
abbrev cX11_completion : ByteArray := prog_1_method_14_code
def yX11_completion : MethodName := ⟨RX11, "completion", "(IIII)I"⟩
abbrev cX11_estimate : ByteArray := prog_1_method_15_code
def yX11_estimate : MethodName := ⟨RX11, "estimate", "(II)J"⟩
abbrev cX11_givens : ByteArray := prog_1_method_16_code
def yX11_givens : MethodName := ⟨RX11, "givens", "(IZ)I"⟩
abbrev cX11_slip : ByteArray := prog_1_method_17_code
def yX11_slip : MethodName := ⟨RX11, "slip", "(II)I"⟩
abbrev cX11_orthogonal : ByteArray := prog_1_method_18_code
def yX11_orthogonal : MethodName := ⟨RX11, "orthogonal", "(II)Z"⟩
abbrev cX11_stack : ByteArray := prog_1_method_19_code
def yX11_stack : MethodName := ⟨RX11, "stack", "(II)I"⟩
abbrev cX11_product : ByteArray := prog_1_method_20_code
def yX11_product : MethodName := ⟨RX11, "product", "(II)I"⟩
abbrev cX11_crossings : ByteArray := prog_1_method_21_code
def yX11_crossings : MethodName := ⟨RX11, "crossings", "(II)I"⟩
abbrev cX11_dimension : ByteArray := prog_1_method_22_code
def yX11_dimension : MethodName := ⟨RX11, "dimension", "(II)I"⟩
abbrev cX11_requireRange : ByteArray := prog_1_method_23_code
def yX11_requireRange : MethodName := ⟨RX11, "requireRange", "(III)V"⟩
abbrev cX11_requirePoint : ByteArray := prog_1_method_24_code
def yX11_requirePoint : MethodName := ⟨RX11, "requirePoint", "(LLoshuHall$Figure;II)V"⟩
abbrev cX11_requireState : ByteArray := prog_1_method_25_code
def yX11_requireState : MethodName := ⟨RX11, "requireState", "(Z)V"⟩
abbrev cX11_requireRoom : ByteArray := prog_1_method_26_code
def yX11_requireRoom : MethodName := ⟨RX11, "requireRoom", "()V"⟩
abbrev cX11_canBeCompleted : ByteArray := prog_1_method_27_code
def yX11_canBeCompleted : MethodName := ⟨RX11, "canBeCompleted", "(LLoshuHall$Figure;)Z"⟩
abbrev cX11_figureOf : ByteArray := prog_1_method_28_code
def yX11_figureOf : MethodName := ⟨RX11, "figureOf", "(I)LLoshuHall$Figure;"⟩
abbrev cX11_addFigure : ByteArray := prog_1_method_29_code
def yX11_addFigure : MethodName := ⟨RX11, "addFigure", "(I)I"⟩
abbrev cX11_hasEarlierKin : ByteArray := prog_1_method_30_code
def yX11_hasEarlierKin : MethodName := ⟨RX11, "hasEarlierKin", "(I)Z"⟩
abbrev cX11_countCrossings : ByteArray := prog_1_method_31_code
def yX11_countCrossings : MethodName := ⟨RX11, "countCrossings", "(LLoshuHall$Figure;III)I"⟩
def RX12 : String := "LoshuHallModel"
def TX12 : u_T := fun k => match k with
  | 0 => ("LoshuHallModel", "thrown", "I", false)
  | 1 => ("LoshuHallModel", "squares", "I", false)
  | 2 => ("LoshuHallModel", "sideOf", "[I", true)
  | 3 => ("LoshuHallModel", "numbers", "[I", true)
  | 4 => ("LoshuHallModel", "made", "[I", true)
  | 5 => ("LoshuHallModel", "side", "I", false)
  | 6 => ("LoshuHallModel", "work", "[I", true)
  | 7 => ("LoshuHallModel", "empties", "I", false)
  | 8 => ("LoshuHallModel", "empty", "[I", true)
  | 9 => ("LoshuHallModel", "tried", "[I", true)
  | 10 => ("LoshuHallModel", "found", "[I", true)
  | 11 => ("LoshuHallModel", "picked", "[I", true)
  | 12 => ("LoshuHallModel", "line", "[J", true)
  | 13 => ("LoshuHallModel", "first", "[J", true)
  | 14 => ("LoshuHallModel", "rows", "[J", true)
  | _ => ("LoshuHallModel", "isBegun", "[Z", true)
def tyX12 : Nat → FieldType := fun k => match k with
  | 0 => .int
  | 1 => .int
  | 2 => .array .int
  | 3 => .array .int
  | 4 => .array .int
  | 5 => .int
  | 6 => .array .int
  | 7 => .int
  | 8 => .array .int
  | 9 => .array .int
  | 10 => .array .int
  | 11 => .array .int
  | 12 => .array .long
  | 13 => .array .long
  | 14 => .array .long
  | _ => .array .boolean
theorem nmX12 : ∀ a, a < 16 → ∀ b, b < 16 → a ≠ b → (TX12 a).2.1 ≠ (TX12 b).2.1 := by decide +kernel
theorem tyX12_ok : ∀ k, k < 16 → parseFieldDescriptor (TX12 k).2.2.1 = some (tyX12 k) := by decide +kernel
abbrev cX12_init : ByteArray := prog_14_method_1_code
def yX12_init : MethodName := ⟨RX12, "<init>", "()V"⟩
abbrev cX12_thrown : ByteArray := prog_14_method_2_code
def yX12_thrown : MethodName := ⟨RX12, "thrown", "()I"⟩
abbrev cX12_isFine : ByteArray := prog_14_method_3_code
def yX12_isFine : MethodName := ⟨RX12, "isFine", "(I)Z"⟩
abbrev cX12_in : ByteArray := prog_14_method_4_code
def yX12_in : MethodName := ⟨RX12, "in", "(III)Z"⟩
abbrev cX12_isSquare : ByteArray := prog_14_method_5_code
def yX12_isSquare : MethodName := ⟨RX12, "isSquare", "(I)Z"⟩
abbrev cX12_isPoint : ByteArray := prog_14_method_6_code
def yX12_isPoint : MethodName := ⟨RX12, "isPoint", "(III)Z"⟩
abbrev cX12_areaOf : ByteArray := prog_14_method_7_code
def yX12_areaOf : MethodName := ⟨RX12, "areaOf", "(I)I"⟩
abbrev cX12_numberAt : ByteArray := prog_14_method_8_code
def yX12_numberAt : MethodName := ⟨RX12, "numberAt", "(III)I"⟩
abbrev cX12_lay : ByteArray := prog_14_method_9_code
def yX12_lay : MethodName := ⟨RX12, "lay", "(I)I"⟩
abbrev cX12_wipe : ByteArray := prog_14_method_10_code
def yX12_wipe : MethodName := ⟨RX12, "wipe", "()V"⟩
abbrev cX12_square : ByteArray := prog_14_method_11_code
def yX12_square : MethodName := ⟨RX12, "square", "(I)I"⟩
abbrev cX12_put : ByteArray := prog_14_method_12_code
def yX12_put : MethodName := ⟨RX12, "put", "(IIII)I"⟩
abbrev cX12_at : ByteArray := prog_14_method_13_code
def yX12_at : MethodName := ⟨RX12, "at", "(III)I"⟩
abbrev cX12_siege : ByteArray := prog_14_method_14_code
def yX12_siege : MethodName := ⟨RX12, "siege", "(I)V"⟩
abbrev cX12_cross : ByteArray := prog_14_method_15_code
def yX12_cross : MethodName := ⟨RX12, "cross", "(I)V"⟩
abbrev cX12_digits : ByteArray := prog_14_method_16_code
def yX12_digits : MethodName := ⟨RX12, "digits", "(I)V"⟩
abbrev cX12_lux : ByteArray := prog_14_method_17_code
def yX12_lux : MethodName := ⟨RX12, "lux", "()V"⟩
abbrev cX12_doesHold : ByteArray := prog_14_method_18_code
def yX12_doesHold : MethodName := ⟨RX12, "doesHold", "(II)Z"⟩
abbrev cX12_make : ByteArray := prog_14_method_19_code
def yX12_make : MethodName := ⟨RX12, "make", "(II)I"⟩
abbrev cX12_sumOf : ByteArray := prog_14_method_20_code
def yX12_sumOf : MethodName := ⟨RX12, "sumOf", "(III)I"⟩
abbrev cX12_squaresOf : ByteArray := prog_14_method_21_code
def yX12_squaresOf : MethodName := ⟨RX12, "squaresOf", "(III)I"⟩
abbrev cX12_areAlike : ByteArray := prog_14_method_22_code
def yX12_areAlike : MethodName := ⟨RX12, "areAlike", "(II)Z"⟩
abbrev cX12_areDiagonals : ByteArray := prog_14_method_23_code
def yX12_areDiagonals : MethodName := ⟨RX12, "areDiagonals", "(I)Z"⟩
abbrev cX12_areOpposite : ByteArray := prog_14_method_24_code
def yX12_areOpposite : MethodName := ⟨RX12, "areOpposite", "(I)Z"⟩
abbrev cX12_isNormal : ByteArray := prog_14_method_25_code
def yX12_isNormal : MethodName := ⟨RX12, "isNormal", "(I)Z"⟩
abbrev cX12_lawsOf : ByteArray := prog_14_method_26_code
def yX12_lawsOf : MethodName := ⟨RX12, "lawsOf", "(I)I"⟩
abbrev cX12_laws : ByteArray := prog_14_method_27_code
def yX12_laws : MethodName := ⟨RX12, "laws", "(I)I"⟩
abbrev cX12_sum : ByteArray := prog_14_method_28_code
def yX12_sum : MethodName := ⟨RX12, "sum", "(III)I"⟩
abbrev cX12_turned : ByteArray := prog_14_method_29_code
def yX12_turned : MethodName := ⟨RX12, "turned", "(III)I"⟩
abbrev cX12_flipped : ByteArray := prog_14_method_30_code
def yX12_flipped : MethodName := ⟨RX12, "flipped", "(II)I"⟩
abbrev cX12_comesFrom : ByteArray := prog_14_method_31_code
def yX12_comesFrom : MethodName := ⟨RX12, "comesFrom", "(IIII)I"⟩
abbrev cX12_canComplement : ByteArray := prog_14_method_32_code
def yX12_canComplement : MethodName := ⟨RX12, "canComplement", "(II)Z"⟩
abbrev cX12_mostBy : ByteArray := prog_14_method_33_code
def yX12_mostBy : MethodName := ⟨RX12, "mostBy", "(II)I"⟩
abbrev cX12_change : ByteArray := prog_14_method_34_code
def yX12_change : MethodName := ⟨RX12, "change", "(III)I"⟩
abbrev cX12_formAt : ByteArray := prog_14_method_35_code
def yX12_formAt : MethodName := ⟨RX12, "formAt", "(III)I"⟩
abbrev cX12_isForm : ByteArray := prog_14_method_36_code
def yX12_isForm : MethodName := ⟨RX12, "isForm", "(III)Z"⟩
abbrev cX12_areKin : ByteArray := prog_14_method_37_code
def yX12_areKin : MethodName := ⟨RX12, "areKin", "(II)Z"⟩
abbrev cX12_same : ByteArray := prog_14_method_38_code
def yX12_same : MethodName := ⟨RX12, "same", "(II)Z"⟩
abbrev cX12_isLess : ByteArray := prog_14_method_39_code
def yX12_isLess : MethodName := ⟨RX12, "isLess", "(III)Z"⟩
abbrev cX12_least : ByteArray := prog_14_method_40_code
def yX12_least : MethodName := ⟨RX12, "least", "(III)I"⟩
abbrev cX12_kin : ByteArray := prog_14_method_41_code
def yX12_kin : MethodName := ⟨RX12, "kin", "(I)I"⟩
abbrev cX12_classes : ByteArray := prog_14_method_42_code
def yX12_classes : MethodName := ⟨RX12, "classes", "()I"⟩
abbrev cX12_isLineFit : ByteArray := prog_14_method_43_code
def yX12_isLineFit : MethodName := ⟨RX12, "isLineFit", "(II)Z"⟩
abbrev cX12_isFit : ByteArray := prog_14_method_44_code
def yX12_isFit : MethodName := ⟨RX12, "isFit", "()Z"⟩
abbrev cX12_take : ByteArray := prog_14_method_45_code
def yX12_take : MethodName := ⟨RX12, "take", "(II)V"⟩
abbrev cX12_goesOn : ByteArray := prog_14_method_46_code
def yX12_goesOn : MethodName := ⟨RX12, "goesOn", "(I)Z"⟩
abbrev cX12_search : ByteArray := prog_14_method_47_code
def yX12_search : MethodName := ⟨RX12, "search", "(I)I"⟩
abbrev cX12_emptyOf : ByteArray := prog_14_method_48_code
def yX12_emptyOf : MethodName := ⟨RX12, "emptyOf", "(I)I"⟩
abbrev cX12_isSearched : ByteArray := prog_14_method_49_code
def yX12_isSearched : MethodName := ⟨RX12, "isSearched", "(I)Z"⟩
abbrev cX12_completions : ByteArray := prog_14_method_50_code
def yX12_completions : MethodName := ⟨RX12, "completions", "(I)I"⟩
abbrev cX12_completion : ByteArray := prog_14_method_51_code
def yX12_completion : MethodName := ⟨RX12, "completion", "(IIII)I"⟩
abbrev cX12_estimate : ByteArray := prog_14_method_52_code
def yX12_estimate : MethodName := ⟨RX12, "estimate", "(II)J"⟩
abbrev cX12_ones : ByteArray := prog_14_method_53_code
def yX12_ones : MethodName := ⟨RX12, "ones", "(I)I"⟩
abbrev cX12_givens : ByteArray := prog_14_method_54_code
def yX12_givens : MethodName := ⟨RX12, "givens", "(IZ)I"⟩
abbrev cX12_isRight : ByteArray := prog_14_method_55_code
def yX12_isRight : MethodName := ⟨RX12, "isRight", "(I)Z"⟩
abbrev cX12_isSlip : ByteArray := prog_14_method_56_code
def yX12_isSlip : MethodName := ⟨RX12, "isSlip", "(III)Z"⟩
abbrev cX12_mended : ByteArray := prog_14_method_57_code
def yX12_mended : MethodName := ⟨RX12, "mended", "(II)I"⟩
abbrev cX12_slip : ByteArray := prog_14_method_58_code
def yX12_slip : MethodName := ⟨RX12, "slip", "(II)I"⟩
abbrev cX12_orthogonal : ByteArray := prog_14_method_59_code
def yX12_orthogonal : MethodName := ⟨RX12, "orthogonal", "(II)Z"⟩
abbrev cX12_isWithin : ByteArray := prog_14_method_60_code
def yX12_isWithin : MethodName := ⟨RX12, "isWithin", "(II)Z"⟩
abbrev cX12_stack : ByteArray := prog_14_method_61_code
def yX12_stack : MethodName := ⟨RX12, "stack", "(II)I"⟩
abbrev cX12_greatest : ByteArray := prog_14_method_62_code
def yX12_greatest : MethodName := ⟨RX12, "greatest", "(I)I"⟩
abbrev cX12_product : ByteArray := prog_14_method_63_code
def yX12_product : MethodName := ⟨RX12, "product", "(II)I"⟩
abbrev cX12_crossings : ByteArray := prog_14_method_64_code
def yX12_crossings : MethodName := ⟨RX12, "crossings", "(II)I"⟩
abbrev cX12_power : ByteArray := prog_14_method_65_code
def yX12_power : MethodName := ⟨RX12, "power", "(JJ)J"⟩
abbrev cX12_independent : ByteArray := prog_14_method_66_code
def yX12_independent : MethodName := ⟨RX12, "independent", "()I"⟩
abbrev cX12_begin : ByteArray := prog_14_method_67_code
def yX12_begin : MethodName := ⟨RX12, "begin", "([J)V"⟩
abbrev cX12_layLine : ByteArray := prog_14_method_68_code
def yX12_layLine : MethodName := ⟨RX12, "layLine", "([JIII)V"⟩
abbrev cX12_isOfLaws : ByteArray := prog_14_method_69_code
def yX12_isOfLaws : MethodName := ⟨RX12, "isOfLaws", "(IIII)Z"⟩
abbrev cX12_dimension : ByteArray := prog_14_method_70_code
def yX12_dimension : MethodName := ⟨RX12, "dimension", "(II)I"⟩
def RJ6 : String := "java/lang/Integer"
def TJ6 : u_T := fun k => match k with
  | _ => ("", "", "", false)
def tyJ6 : Nat → FieldType := fun k => match k with
  | _ => .int
theorem nmJ6 : ∀ a, a < 0 → ∀ b, b < 0 → a ≠ b → (TJ6 a).2.1 ≠ (TJ6 b).2.1 := by decide +kernel
theorem tyJ6_ok : ∀ k, k < 0 → parseFieldDescriptor (TJ6 k).2.2.1 = some (tyJ6 k) := by decide +kernel
abbrev cJ6_bitCount_0f7a4 : ByteArray := prog_19_method_49_code
def yJ6_bitCount_0f7a4 : MethodName := ⟨RJ6, "bitCount", "(I)I"⟩
def RJ9 : String := "java/lang/Math"
def TJ9 : u_T := fun k => match k with
  | _ => ("", "", "", false)
def tyJ9 : Nat → FieldType := fun k => match k with
  | _ => .int
theorem nmJ9 : ∀ a, a < 0 → ∀ b, b < 0 → a ≠ b → (TJ9 a).2.1 ≠ (TJ9 b).2.1 := by decide +kernel
theorem tyJ9_ok : ∀ k, k < 0 → parseFieldDescriptor (TJ9 k).2.2.1 = some (tyJ9 k) := by decide +kernel
abbrev cJ9_floorMod_7cf53 : ByteArray := prog_20_method_50_code
def yJ9_floorMod_7cf53 : MethodName := ⟨RJ9, "floorMod", "(II)I"⟩
abbrev cJ9_floorMod_f86c9 : ByteArray := prog_20_method_52_code
def yJ9_floorMod_f86c9 : MethodName := ⟨RJ9, "floorMod", "(JJ)J"⟩
abbrev cJ9_max_7cf53 : ByteArray := prog_20_method_65_code
def yJ9_max_7cf53 : MethodName := ⟨RJ9, "max", "(II)I"⟩
abbrev cJ9_min_7cf53 : ByteArray := prog_20_method_69_code
def yJ9_min_7cf53 : MethodName := ⟨RJ9, "min", "(II)I"⟩
def RJ0 : String := "java/lang/String"
def TJ0 : u_T := fun k => match k with
  | _ => ("", "", "", false)
def tyJ0 : Nat → FieldType := fun k => match k with
  | _ => .int
theorem nmJ0 : ∀ a, a < 0 → ∀ b, b < 0 → a ≠ b → (TJ0 a).2.1 ≠ (TJ0 b).2.1 := by decide +kernel
theorem tyJ0_ok : ∀ k, k < 0 → parseFieldDescriptor (TJ0 k).2.2.1 = some (tyJ0 k) := by decide +kernel
def RL : String := "LoshuHallLaw"
abbrev cL_square : ByteArray := method_3_code
def yL_square : MethodName := ⟨RL, "square", "(LLoshuHall;I[J)I"⟩
abbrev cL_put : ByteArray := method_4_code
def yL_put : MethodName := ⟨RL, "put", "(LLoshuHall;IIII[J)I"⟩
abbrev cL_at : ByteArray := method_5_code
def yL_at : MethodName := ⟨RL, "at", "(LLoshuHall;III[J)I"⟩
abbrev cL_make : ByteArray := method_6_code
def yL_make : MethodName := ⟨RL, "make", "(LLoshuHall;II[J)I"⟩
abbrev cL_laws : ByteArray := method_7_code
def yL_laws : MethodName := ⟨RL, "laws", "(LLoshuHall;I[J)I"⟩
abbrev cL_sum : ByteArray := method_8_code
def yL_sum : MethodName := ⟨RL, "sum", "(LLoshuHall;III[J)I"⟩
abbrev cL_change : ByteArray := method_9_code
def yL_change : MethodName := ⟨RL, "change", "(LLoshuHall;III[J)I"⟩
abbrev cL_same : ByteArray := method_10_code
def yL_same : MethodName := ⟨RL, "same", "(LLoshuHall;II[J)I"⟩
abbrev cL_least : ByteArray := method_11_code
def yL_least : MethodName := ⟨RL, "least", "(LLoshuHall;III[J)I"⟩
abbrev cL_kin : ByteArray := method_12_code
def yL_kin : MethodName := ⟨RL, "kin", "(LLoshuHall;I[J)I"⟩
abbrev cL_completions : ByteArray := method_13_code
def yL_completions : MethodName := ⟨RL, "completions", "(LLoshuHall;I[J)I"⟩
abbrev cL_completion : ByteArray := method_14_code
def yL_completion : MethodName := ⟨RL, "completion", "(LLoshuHall;IIII[J)I"⟩
abbrev cL_estimate : ByteArray := method_15_code
def yL_estimate : MethodName := ⟨RL, "estimate", "(LLoshuHall;II[J)I"⟩
abbrev cL_givens : ByteArray := method_16_code
def yL_givens : MethodName := ⟨RL, "givens", "(LLoshuHall;IZ[J)I"⟩
abbrev cL_slip : ByteArray := method_17_code
def yL_slip : MethodName := ⟨RL, "slip", "(LLoshuHall;II[J)I"⟩
abbrev cL_orthogonal : ByteArray := method_18_code
def yL_orthogonal : MethodName := ⟨RL, "orthogonal", "(LLoshuHall;II[J)I"⟩
abbrev cL_stack : ByteArray := method_19_code
def yL_stack : MethodName := ⟨RL, "stack", "(LLoshuHall;II[J)I"⟩
abbrev cL_product : ByteArray := method_20_code
def yL_product : MethodName := ⟨RL, "product", "(LLoshuHall;II[J)I"⟩
abbrev cL_crossings : ByteArray := method_21_code
def yL_crossings : MethodName := ⟨RL, "crossings", "(LLoshuHall;II[J)I"⟩
abbrev cL_dimension : ByteArray := method_22_code
def yL_dimension : MethodName := ⟨RL, "dimension", "(LLoshuHall;II[J)I"⟩
abbrev cL_law : ByteArray := code
def yL_law : MethodName := ⟨RL, "law", "([I)Z"⟩
abbrev vwCl : List vw_C := [(RX1, TX1, 2), (RX3, TX3, 1), (RX8, TX8, 14), (RX10, TX10, 5), (RX11, TX11, 6), (RX12, TX12, 16)]
end
section
theorem dX0_mostBy_0 : decode cX0_mostBy 0 = .ok (.iload_n 0, 1) := by decide +kernel
theorem dX0_mostBy_1 : decode cX0_mostBy 1 = .ok (.tableswitch 35 0 2 #[27, 29, 31], 27) := by decide +kernel
theorem dX0_mostBy_28 : decode cX0_mostBy 28 = .ok (.iconst 3, 1) := by decide +kernel
theorem dX0_mostBy_29 : decode cX0_mostBy 29 = .ok (.ireturn, 1) := by decide +kernel
theorem dX0_mostBy_30 : decode cX0_mostBy 30 = .ok (.iconst 1, 1) := by decide +kernel
theorem dX0_mostBy_31 : decode cX0_mostBy 31 = .ok (.ireturn, 1) := by decide +kernel
theorem dX0_mostBy_32 : decode cX0_mostBy 32 = .ok (.sipush 1998, 3) := by decide +kernel
theorem dX0_mostBy_35 : decode cX0_mostBy 35 = .ok (.ireturn, 1) := by decide +kernel
theorem dX0_mostBy_36 : decode cX0_mostBy 36 = .ok (.iload_n 1, 1) := by decide +kernel
theorem dX0_mostBy_37 : decode cX0_mostBy 37 = .ok (.iconst 1, 1) := by decide +kernel
theorem dX0_mostBy_38 : decode cX0_mostBy 38 = .ok (.isub, 1) := by decide +kernel
theorem dX0_mostBy_39 : decode cX0_mostBy 39 = .ok (.ireturn, 1) := by decide +kernel
theorem dX0_move_0 : decode cX0_move 0 = .ok (.aload_n 1, 1) := by decide +kernel
theorem dX0_move_1 : decode cX0_move 1 = .ok (.aload_n 0, 1) := by decide +kernel
theorem dX0_move_2 : decode cX0_move 2 = .ok (.invokevirtual 9, 3) := by decide +kernel
theorem dX0_move_5 : decode cX0_move 5 = .ok (.iconst 0, 1) := by decide +kernel
theorem dX0_move_6 : decode cX0_move 6 = .ok (.istore 4, 2) := by decide +kernel
theorem dX0_move_8 : decode cX0_move 8 = .ok (.iconst 0, 1) := by decide +kernel
theorem dX0_move_9 : decode cX0_move 9 = .ok (.istore 5, 2) := by decide +kernel
theorem dX0_move_11 : decode cX0_move 11 = .ok (.iload 5, 2) := by decide +kernel
theorem dX0_move_13 : decode cX0_move 13 = .ok (.aload_n 0, 1) := by decide +kernel
theorem dX0_move_14 : decode cX0_move 14 = .ok (.invokevirtual 15, 3) := by decide +kernel
theorem dX0_move_17 : decode cX0_move 17 = .ok (.if_icmp .ge 42, 3) := by decide +kernel
theorem dX0_move_20 : decode cX0_move 20 = .ok (.aload_n 1, 1) := by decide +kernel
theorem dX0_move_21 : decode cX0_move 21 = .ok (.aload_n 0, 1) := by decide +kernel
theorem dX0_move_22 : decode cX0_move 22 = .ok (.invokevirtual 19, 3) := by decide +kernel
theorem dX0_move_25 : decode cX0_move 25 = .ok (.iload_n 2, 1) := by decide +kernel
theorem dX0_move_26 : decode cX0_move 26 = .ok (.iload_n 3, 1) := by decide +kernel
theorem dX0_move_27 : decode cX0_move 27 = .ok (.iload 5, 2) := by decide +kernel
theorem dX0_move_29 : decode cX0_move 29 = .ok (.invokestatic 22, 3) := by decide +kernel
theorem dX0_move_32 : decode cX0_move 32 = .ok (.invokevirtual 28, 3) := by decide +kernel
theorem dX0_move_35 : decode cX0_move 35 = .ok (.istore 6, 2) := by decide +kernel
theorem dX0_move_37 : decode cX0_move 37 = .ok (.aload_n 0, 1) := by decide +kernel
theorem dX0_move_38 : decode cX0_move 38 = .ok (.iload 5, 2) := by decide +kernel
theorem dX0_move_40 : decode cX0_move 40 = .ok (.iload 6, 2) := by decide +kernel
theorem dX0_move_42 : decode cX0_move 42 = .ok (.invokevirtual 32, 3) := by decide +kernel
theorem dX0_move_45 : decode cX0_move 45 = .ok (.iload 6, 2) := by decide +kernel
theorem dX0_move_47 : decode cX0_move 47 = .ok (.if_icmp .eq 6, 3) := by decide +kernel
theorem dX0_move_50 : decode cX0_move 50 = .ok (.iinc 4 1, 3) := by decide +kernel
theorem dX0_move_53 : decode cX0_move 53 = .ok (.iinc 5 1, 3) := by decide +kernel
theorem dX0_move_56 : decode cX0_move 56 = .ok (.goto (-45), 3) := by decide +kernel
theorem dX0_move_59 : decode cX0_move 59 = .ok (.iload 4, 2) := by decide +kernel
theorem dX0_move_61 : decode cX0_move 61 = .ok (.ireturn, 1) := by decide +kernel
theorem dX0_aheadOf_0 : decode cX0_aheadOf 0 = .ok (.iload_n 1, 1) := by decide +kernel
theorem dX0_aheadOf_1 : decode cX0_aheadOf 1 = .ok (.tableswitch 76 0 5 #[39, 46, 76, 53, 61, 69], 39) := by decide +kernel
theorem dX0_aheadOf_40 : decode cX0_aheadOf 40 = .ok (.iload_n 0, 1) := by decide +kernel
theorem dX0_aheadOf_41 : decode cX0_aheadOf 41 = .ok (.iload_n 2, 1) := by decide +kernel
theorem dX0_aheadOf_42 : decode cX0_aheadOf 42 = .ok (.iload_n 3, 1) := by decide +kernel
theorem dX0_aheadOf_43 : decode cX0_aheadOf 43 = .ok (.invokestatic 36, 3) := by decide +kernel
theorem dX0_aheadOf_46 : decode cX0_aheadOf 46 = .ok (.ireturn, 1) := by decide +kernel
theorem dX0_aheadOf_47 : decode cX0_aheadOf 47 = .ok (.iload_n 0, 1) := by decide +kernel
theorem dX0_aheadOf_48 : decode cX0_aheadOf 48 = .ok (.iload_n 2, 1) := by decide +kernel
theorem dX0_aheadOf_49 : decode cX0_aheadOf 49 = .ok (.iload_n 3, 1) := by decide +kernel
theorem dX0_aheadOf_50 : decode cX0_aheadOf 50 = .ok (.invokestatic 42, 3) := by decide +kernel
theorem dX0_aheadOf_53 : decode cX0_aheadOf 53 = .ok (.ireturn, 1) := by decide +kernel
theorem dX0_aheadOf_54 : decode cX0_aheadOf 54 = .ok (.iload_n 0, 1) := by decide +kernel
theorem dX0_aheadOf_55 : decode cX0_aheadOf 55 = .ok (.iload_n 2, 1) := by decide +kernel
theorem dX0_aheadOf_56 : decode cX0_aheadOf 56 = .ok (.iconst 0, 1) := by decide +kernel
theorem dX0_aheadOf_57 : decode cX0_aheadOf 57 = .ok (.iload_n 3, 1) := by decide +kernel
theorem dX0_aheadOf_58 : decode cX0_aheadOf 58 = .ok (.invokestatic 45, 3) := by decide +kernel
theorem dX0_aheadOf_61 : decode cX0_aheadOf 61 = .ok (.ireturn, 1) := by decide +kernel
theorem dX0_aheadOf_62 : decode cX0_aheadOf 62 = .ok (.iload_n 0, 1) := by decide +kernel
theorem dX0_aheadOf_63 : decode cX0_aheadOf 63 = .ok (.iconst 0, 1) := by decide +kernel
theorem dX0_aheadOf_64 : decode cX0_aheadOf 64 = .ok (.iload_n 2, 1) := by decide +kernel
theorem dX0_aheadOf_65 : decode cX0_aheadOf 65 = .ok (.iload_n 3, 1) := by decide +kernel
theorem dX0_aheadOf_66 : decode cX0_aheadOf 66 = .ok (.invokestatic 45, 3) := by decide +kernel
theorem dX0_aheadOf_69 : decode cX0_aheadOf 69 = .ok (.ireturn, 1) := by decide +kernel
theorem dX0_aheadOf_70 : decode cX0_aheadOf 70 = .ok (.iload_n 0, 1) := by decide +kernel
theorem dX0_aheadOf_71 : decode cX0_aheadOf 71 = .ok (.iload_n 2, 1) := by decide +kernel
theorem dX0_aheadOf_72 : decode cX0_aheadOf 72 = .ok (.iload_n 3, 1) := by decide +kernel
theorem dX0_aheadOf_73 : decode cX0_aheadOf 73 = .ok (.invokestatic 48, 3) := by decide +kernel
theorem dX0_aheadOf_76 : decode cX0_aheadOf 76 = .ok (.ireturn, 1) := by decide +kernel
theorem dX0_aheadOf_77 : decode cX0_aheadOf 77 = .ok (.iload_n 3, 1) := by decide +kernel
theorem dX0_aheadOf_78 : decode cX0_aheadOf 78 = .ok (.ireturn, 1) := by decide +kernel
theorem dX0_canComplement_0 : decode cX0_canComplement 0 = .ok (.iconst 0, 1) := by decide +kernel
theorem dX0_canComplement_1 : decode cX0_canComplement 1 = .ok (.istore_n 2, 1) := by decide +kernel
theorem dX0_canComplement_2 : decode cX0_canComplement 2 = .ok (.iload_n 2, 1) := by decide +kernel
theorem dX0_canComplement_3 : decode cX0_canComplement 3 = .ok (.aload_n 0, 1) := by decide +kernel
theorem dX0_canComplement_4 : decode cX0_canComplement 4 = .ok (.invokevirtual 15, 3) := by decide +kernel
theorem dX0_canComplement_7 : decode cX0_canComplement 7 = .ok (.if_icmp .ge 37, 3) := by decide +kernel
theorem dX0_canComplement_10 : decode cX0_canComplement 10 = .ok (.aload_n 0, 1) := by decide +kernel
theorem dX0_canComplement_11 : decode cX0_canComplement 11 = .ok (.iload_n 2, 1) := by decide +kernel
theorem dX0_canComplement_12 : decode cX0_canComplement 12 = .ok (.invokevirtual 28, 3) := by decide +kernel
theorem dX0_canComplement_15 : decode cX0_canComplement 15 = .ok (.istore_n 3, 1) := by decide +kernel
theorem dX0_canComplement_16 : decode cX0_canComplement 16 = .ok (.iload_n 3, 1) := by decide +kernel
theorem dX0_canComplement_17 : decode cX0_canComplement 17 = .ok (.ifCond .eq 21, 3) := by decide +kernel
theorem dX0_canComplement_20 : decode cX0_canComplement 20 = .ok (.iload_n 1, 1) := by decide +kernel
theorem dX0_canComplement_21 : decode cX0_canComplement 21 = .ok (.iload_n 3, 1) := by decide +kernel
theorem dX0_canComplement_22 : decode cX0_canComplement 22 = .ok (.isub, 1) := by decide +kernel
theorem dX0_canComplement_23 : decode cX0_canComplement 23 = .ok (.iconst 1, 1) := by decide +kernel
theorem dX0_canComplement_24 : decode cX0_canComplement 24 = .ok (.if_icmp .lt 12, 3) := by decide +kernel
theorem dX0_canComplement_27 : decode cX0_canComplement 27 = .ok (.iload_n 1, 1) := by decide +kernel
theorem dX0_canComplement_28 : decode cX0_canComplement 28 = .ok (.iload_n 3, 1) := by decide +kernel
theorem dX0_canComplement_29 : decode cX0_canComplement 29 = .ok (.isub, 1) := by decide +kernel
theorem dX0_canComplement_30 : decode cX0_canComplement 30 = .ok (.sipush 999, 3) := by decide +kernel
theorem dX0_canComplement_33 : decode cX0_canComplement 33 = .ok (.if_icmp .le 5, 3) := by decide +kernel
theorem dX0_canComplement_36 : decode cX0_canComplement 36 = .ok (.iconst 0, 1) := by decide +kernel
theorem dX0_canComplement_37 : decode cX0_canComplement 37 = .ok (.ireturn, 1) := by decide +kernel
theorem dX0_canComplement_38 : decode cX0_canComplement 38 = .ok (.iinc 2 1, 3) := by decide +kernel
theorem dX0_canComplement_41 : decode cX0_canComplement 41 = .ok (.goto (-39), 3) := by decide +kernel
theorem dX0_canComplement_44 : decode cX0_canComplement 44 = .ok (.iconst 1, 1) := by decide +kernel
theorem dX0_canComplement_45 : decode cX0_canComplement 45 = .ok (.ireturn, 1) := by decide +kernel
theorem dX0_complement_0 : decode cX0_complement 0 = .ok (.iconst 0, 1) := by decide +kernel
theorem dX0_complement_1 : decode cX0_complement 1 = .ok (.istore_n 2, 1) := by decide +kernel
theorem dX0_complement_2 : decode cX0_complement 2 = .ok (.iconst 0, 1) := by decide +kernel
theorem dX0_complement_3 : decode cX0_complement 3 = .ok (.istore_n 3, 1) := by decide +kernel
theorem dX0_complement_4 : decode cX0_complement 4 = .ok (.iload_n 3, 1) := by decide +kernel
theorem dX0_complement_5 : decode cX0_complement 5 = .ok (.aload_n 0, 1) := by decide +kernel
theorem dX0_complement_6 : decode cX0_complement 6 = .ok (.invokevirtual 15, 3) := by decide +kernel
theorem dX0_complement_9 : decode cX0_complement 9 = .ok (.if_icmp .ge 40, 3) := by decide +kernel
theorem dX0_complement_12 : decode cX0_complement 12 = .ok (.aload_n 0, 1) := by decide +kernel
theorem dX0_complement_13 : decode cX0_complement 13 = .ok (.iload_n 3, 1) := by decide +kernel
theorem dX0_complement_14 : decode cX0_complement 14 = .ok (.invokevirtual 28, 3) := by decide +kernel
theorem dX0_complement_17 : decode cX0_complement 17 = .ok (.istore 4, 2) := by decide +kernel
theorem dX0_complement_19 : decode cX0_complement 19 = .ok (.iload 4, 2) := by decide +kernel
theorem dX0_complement_21 : decode cX0_complement 21 = .ok (.ifCond .eq 22, 3) := by decide +kernel
theorem dX0_complement_24 : decode cX0_complement 24 = .ok (.aload_n 0, 1) := by decide +kernel
theorem dX0_complement_25 : decode cX0_complement 25 = .ok (.iload_n 3, 1) := by decide +kernel
theorem dX0_complement_26 : decode cX0_complement 26 = .ok (.iload_n 1, 1) := by decide +kernel
theorem dX0_complement_27 : decode cX0_complement 27 = .ok (.iload 4, 2) := by decide +kernel
theorem dX0_complement_29 : decode cX0_complement 29 = .ok (.isub, 1) := by decide +kernel
theorem dX0_complement_30 : decode cX0_complement 30 = .ok (.invokevirtual 32, 3) := by decide +kernel
theorem dX0_complement_33 : decode cX0_complement 33 = .ok (.iload_n 1, 1) := by decide +kernel
theorem dX0_complement_34 : decode cX0_complement 34 = .ok (.iload 4, 2) := by decide +kernel
theorem dX0_complement_36 : decode cX0_complement 36 = .ok (.isub, 1) := by decide +kernel
theorem dX0_complement_37 : decode cX0_complement 37 = .ok (.if_icmp .eq 6, 3) := by decide +kernel
theorem dX0_complement_40 : decode cX0_complement 40 = .ok (.iinc 2 1, 3) := by decide +kernel
theorem dX0_complement_43 : decode cX0_complement 43 = .ok (.iinc 3 1, 3) := by decide +kernel
theorem dX0_complement_46 : decode cX0_complement 46 = .ok (.goto (-42), 3) := by decide +kernel
theorem dX0_complement_49 : decode cX0_complement 49 = .ok (.iload_n 2, 1) := by decide +kernel
theorem dX0_complement_50 : decode cX0_complement 50 = .ok (.ireturn, 1) := by decide +kernel
theorem dX1_init_0 : decode cX1_init 0 = .ok (.aload_n 0, 1) := by decide +kernel
theorem dX1_init_1 : decode cX1_init 1 = .ok (.invokespecial 3, 3) := by decide +kernel
theorem dX1_init_4 : decode cX1_init 4 = .ok (.aload_n 0, 1) := by decide +kernel
theorem dX1_init_5 : decode cX1_init 5 = .ok (.bipush 81, 2) := by decide +kernel
theorem dX1_init_7 : decode cX1_init 7 = .ok (.newarray .int, 2) := by decide +kernel
theorem dX1_init_9 : decode cX1_init 9 = .ok (.putfield 9, 3) := by decide +kernel
theorem dX1_init_12 : decode cX1_init 12 = .ok (.aload_n 0, 1) := by decide +kernel
theorem dX1_init_13 : decode cX1_init 13 = .ok (.iconst 1, 1) := by decide +kernel
theorem dX1_init_14 : decode cX1_init 14 = .ok (.putfield 15, 3) := by decide +kernel
theorem dX1_init_17 : decode cX1_init 17 = .ok (.return_, 1) := by decide +kernel
theorem dX1_begin_0 : decode cX1_begin 0 = .ok (.aload_n 0, 1) := by decide +kernel
theorem dX1_begin_1 : decode cX1_begin 1 = .ok (.iload_n 1, 1) := by decide +kernel
theorem dX1_begin_2 : decode cX1_begin 2 = .ok (.putfield 15, 3) := by decide +kernel
theorem dX1_begin_5 : decode cX1_begin 5 = .ok (.iconst 0, 1) := by decide +kernel
theorem dX1_begin_6 : decode cX1_begin 6 = .ok (.istore_n 2, 1) := by decide +kernel
theorem dX1_begin_7 : decode cX1_begin 7 = .ok (.iload_n 2, 1) := by decide +kernel
theorem dX1_begin_8 : decode cX1_begin 8 = .ok (.aload_n 0, 1) := by decide +kernel
theorem dX1_begin_9 : decode cX1_begin 9 = .ok (.getfield 9, 3) := by decide +kernel
theorem dX1_begin_12 : decode cX1_begin 12 = .ok (.arraylength, 1) := by decide +kernel
theorem dX1_begin_13 : decode cX1_begin 13 = .ok (.if_icmp .ge 16, 3) := by decide +kernel
theorem dX1_begin_16 : decode cX1_begin 16 = .ok (.aload_n 0, 1) := by decide +kernel
theorem dX1_begin_17 : decode cX1_begin 17 = .ok (.getfield 9, 3) := by decide +kernel
theorem dX1_begin_20 : decode cX1_begin 20 = .ok (.iload_n 2, 1) := by decide +kernel
theorem dX1_begin_21 : decode cX1_begin 21 = .ok (.iconst 0, 1) := by decide +kernel
theorem dX1_begin_22 : decode cX1_begin 22 = .ok (.iastore, 1) := by decide +kernel
theorem dX1_begin_23 : decode cX1_begin 23 = .ok (.iinc 2 1, 3) := by decide +kernel
theorem dX1_begin_26 : decode cX1_begin 26 = .ok (.goto (-19), 3) := by decide +kernel
theorem dX1_begin_29 : decode cX1_begin 29 = .ok (.return_, 1) := by decide +kernel
theorem dX1_copyFrom_0 : decode cX1_copyFrom 0 = .ok (.aload_n 0, 1) := by decide +kernel
theorem dX1_copyFrom_1 : decode cX1_copyFrom 1 = .ok (.aload_n 1, 1) := by decide +kernel
theorem dX1_copyFrom_2 : decode cX1_copyFrom 2 = .ok (.invokevirtual 19, 3) := by decide +kernel
theorem dX1_copyFrom_5 : decode cX1_copyFrom 5 = .ok (.invokevirtual 22, 3) := by decide +kernel
theorem dX1_copyFrom_8 : decode cX1_copyFrom 8 = .ok (.iconst 0, 1) := by decide +kernel
theorem dX1_copyFrom_9 : decode cX1_copyFrom 9 = .ok (.istore_n 2, 1) := by decide +kernel
theorem dX1_copyFrom_10 : decode cX1_copyFrom 10 = .ok (.iload_n 2, 1) := by decide +kernel
theorem dX1_copyFrom_11 : decode cX1_copyFrom 11 = .ok (.aload_n 0, 1) := by decide +kernel
theorem dX1_copyFrom_12 : decode cX1_copyFrom 12 = .ok (.invokevirtual 26, 3) := by decide +kernel
theorem dX1_copyFrom_15 : decode cX1_copyFrom 15 = .ok (.if_icmp .ge 20, 3) := by decide +kernel
theorem dX1_copyFrom_18 : decode cX1_copyFrom 18 = .ok (.aload_n 0, 1) := by decide +kernel
theorem dX1_copyFrom_19 : decode cX1_copyFrom 19 = .ok (.iload_n 2, 1) := by decide +kernel
theorem dX1_copyFrom_20 : decode cX1_copyFrom 20 = .ok (.aload_n 1, 1) := by decide +kernel
theorem dX1_copyFrom_21 : decode cX1_copyFrom 21 = .ok (.iload_n 2, 1) := by decide +kernel
theorem dX1_copyFrom_22 : decode cX1_copyFrom 22 = .ok (.invokevirtual 29, 3) := by decide +kernel
theorem dX1_copyFrom_25 : decode cX1_copyFrom 25 = .ok (.invokevirtual 33, 3) := by decide +kernel
theorem dX1_copyFrom_28 : decode cX1_copyFrom 28 = .ok (.pop, 1) := by decide +kernel
theorem dX1_copyFrom_29 : decode cX1_copyFrom 29 = .ok (.iinc 2 1, 3) := by decide +kernel
theorem dX1_copyFrom_32 : decode cX1_copyFrom 32 = .ok (.goto (-22), 3) := by decide +kernel
theorem dX1_copyFrom_35 : decode cX1_copyFrom 35 = .ok (.return_, 1) := by decide +kernel
theorem dX1_side_0 : decode cX1_side 0 = .ok (.aload_n 0, 1) := by decide +kernel
theorem dX1_side_1 : decode cX1_side 1 = .ok (.getfield 15, 3) := by decide +kernel
theorem dX1_side_4 : decode cX1_side 4 = .ok (.ireturn, 1) := by decide +kernel
theorem dX1_size_0 : decode cX1_size 0 = .ok (.aload_n 0, 1) := by decide +kernel
theorem dX1_size_1 : decode cX1_size 1 = .ok (.getfield 15, 3) := by decide +kernel
theorem dX1_size_4 : decode cX1_size 4 = .ok (.aload_n 0, 1) := by decide +kernel
theorem dX1_size_5 : decode cX1_size 5 = .ok (.getfield 15, 3) := by decide +kernel
theorem dX1_size_8 : decode cX1_size 8 = .ok (.imul, 1) := by decide +kernel
theorem dX1_size_9 : decode cX1_size 9 = .ok (.ireturn, 1) := by decide +kernel
theorem dX1_placeOf_0 : decode cX1_placeOf 0 = .ok (.aload_n 0, 1) := by decide +kernel
theorem dX1_placeOf_1 : decode cX1_placeOf 1 = .ok (.getfield 15, 3) := by decide +kernel
theorem dX1_placeOf_4 : decode cX1_placeOf 4 = .ok (.iload_n 1, 1) := by decide +kernel
theorem dX1_placeOf_5 : decode cX1_placeOf 5 = .ok (.iload_n 2, 1) := by decide +kernel
theorem dX1_placeOf_6 : decode cX1_placeOf 6 = .ok (.invokestatic 37, 3) := by decide +kernel
theorem dX1_placeOf_9 : decode cX1_placeOf 9 = .ok (.ireturn, 1) := by decide +kernel
theorem dX1_read_0 : decode cX1_read 0 = .ok (.iload_n 1, 1) := by decide +kernel
theorem dX1_read_1 : decode cX1_read 1 = .ok (.ifCond .lt 21, 3) := by decide +kernel
theorem dX1_read_4 : decode cX1_read 4 = .ok (.iload_n 1, 1) := by decide +kernel
theorem dX1_read_5 : decode cX1_read 5 = .ok (.aload_n 0, 1) := by decide +kernel
theorem dX1_read_6 : decode cX1_read 6 = .ok (.getfield 9, 3) := by decide +kernel
theorem dX1_read_9 : decode cX1_read 9 = .ok (.arraylength, 1) := by decide +kernel
theorem dX1_read_10 : decode cX1_read 10 = .ok (.if_icmp .ge 12, 3) := by decide +kernel
theorem dX1_read_13 : decode cX1_read 13 = .ok (.aload_n 0, 1) := by decide +kernel
theorem dX1_read_14 : decode cX1_read 14 = .ok (.getfield 9, 3) := by decide +kernel
theorem dX1_read_17 : decode cX1_read 17 = .ok (.iload_n 1, 1) := by decide +kernel
theorem dX1_read_18 : decode cX1_read 18 = .ok (.iaload, 1) := by decide +kernel
theorem dX1_read_19 : decode cX1_read 19 = .ok (.goto 4, 3) := by decide +kernel
theorem dX1_read_22 : decode cX1_read 22 = .ok (.iconst 0, 1) := by decide +kernel
theorem dX1_read_23 : decode cX1_read 23 = .ok (.ireturn, 1) := by decide +kernel
theorem dX1_write_0 : decode cX1_write 0 = .ok (.iload_n 1, 1) := by decide +kernel
theorem dX1_write_1 : decode cX1_write 1 = .ok (.ifCond .lt 12, 3) := by decide +kernel
theorem dX1_write_4 : decode cX1_write 4 = .ok (.iload_n 1, 1) := by decide +kernel
theorem dX1_write_5 : decode cX1_write 5 = .ok (.aload_n 0, 1) := by decide +kernel
theorem dX1_write_6 : decode cX1_write 6 = .ok (.getfield 9, 3) := by decide +kernel
theorem dX1_write_9 : decode cX1_write 9 = .ok (.arraylength, 1) := by decide +kernel
theorem dX1_write_10 : decode cX1_write 10 = .ok (.if_icmp .lt 5, 3) := by decide +kernel
theorem dX1_write_13 : decode cX1_write 13 = .ok (.iconst 0, 1) := by decide +kernel
theorem dX1_write_14 : decode cX1_write 14 = .ok (.ireturn, 1) := by decide +kernel
theorem dX1_write_15 : decode cX1_write 15 = .ok (.aload_n 0, 1) := by decide +kernel
theorem dX1_write_16 : decode cX1_write 16 = .ok (.getfield 9, 3) := by decide +kernel
theorem dX1_write_19 : decode cX1_write 19 = .ok (.iload_n 1, 1) := by decide +kernel
theorem dX1_write_20 : decode cX1_write 20 = .ok (.iaload, 1) := by decide +kernel
theorem dX1_write_21 : decode cX1_write 21 = .ok (.istore_n 3, 1) := by decide +kernel
theorem dX1_write_22 : decode cX1_write 22 = .ok (.aload_n 0, 1) := by decide +kernel
theorem dX1_write_23 : decode cX1_write 23 = .ok (.getfield 9, 3) := by decide +kernel
theorem dX1_write_26 : decode cX1_write 26 = .ok (.iload_n 1, 1) := by decide +kernel
theorem dX1_write_27 : decode cX1_write 27 = .ok (.iload_n 2, 1) := by decide +kernel
theorem dX1_write_28 : decode cX1_write 28 = .ok (.iastore, 1) := by decide +kernel
theorem dX1_write_29 : decode cX1_write 29 = .ok (.iload_n 3, 1) := by decide +kernel
theorem dX1_write_30 : decode cX1_write 30 = .ok (.ireturn, 1) := by decide +kernel
theorem dX1_countOf_0 : decode cX1_countOf 0 = .ok (.iconst 0, 1) := by decide +kernel
theorem dX1_countOf_1 : decode cX1_countOf 1 = .ok (.istore_n 2, 1) := by decide +kernel
theorem dX1_countOf_2 : decode cX1_countOf 2 = .ok (.iconst 0, 1) := by decide +kernel
theorem dX1_countOf_3 : decode cX1_countOf 3 = .ok (.istore_n 3, 1) := by decide +kernel
theorem dX1_countOf_4 : decode cX1_countOf 4 = .ok (.iload_n 3, 1) := by decide +kernel
theorem dX1_countOf_5 : decode cX1_countOf 5 = .ok (.aload_n 0, 1) := by decide +kernel
theorem dX1_countOf_6 : decode cX1_countOf 6 = .ok (.invokevirtual 26, 3) := by decide +kernel
theorem dX1_countOf_9 : decode cX1_countOf 9 = .ok (.if_icmp .ge 21, 3) := by decide +kernel
theorem dX1_countOf_12 : decode cX1_countOf 12 = .ok (.aload_n 0, 1) := by decide +kernel
theorem dX1_countOf_13 : decode cX1_countOf 13 = .ok (.iload_n 3, 1) := by decide +kernel
theorem dX1_countOf_14 : decode cX1_countOf 14 = .ok (.invokevirtual 29, 3) := by decide +kernel
theorem dX1_countOf_17 : decode cX1_countOf 17 = .ok (.iload_n 1, 1) := by decide +kernel
theorem dX1_countOf_18 : decode cX1_countOf 18 = .ok (.if_icmp .ne 6, 3) := by decide +kernel
theorem dX1_countOf_21 : decode cX1_countOf 21 = .ok (.iinc 2 1, 3) := by decide +kernel
theorem dX1_countOf_24 : decode cX1_countOf 24 = .ok (.iinc 3 1, 3) := by decide +kernel
theorem dX1_countOf_27 : decode cX1_countOf 27 = .ok (.goto (-23), 3) := by decide +kernel
theorem dX1_countOf_30 : decode cX1_countOf 30 = .ok (.iload_n 2, 1) := by decide +kernel
theorem dX1_countOf_31 : decode cX1_countOf 31 = .ok (.ireturn, 1) := by decide +kernel
theorem dX1_highest_0 : decode cX1_highest 0 = .ok (.iconst 0, 1) := by decide +kernel
theorem dX1_highest_1 : decode cX1_highest 1 = .ok (.istore_n 1, 1) := by decide +kernel
theorem dX1_highest_2 : decode cX1_highest 2 = .ok (.iconst 0, 1) := by decide +kernel
theorem dX1_highest_3 : decode cX1_highest 3 = .ok (.istore_n 2, 1) := by decide +kernel
theorem dX1_highest_4 : decode cX1_highest 4 = .ok (.iload_n 2, 1) := by decide +kernel
theorem dX1_highest_5 : decode cX1_highest 5 = .ok (.aload_n 0, 1) := by decide +kernel
theorem dX1_highest_6 : decode cX1_highest 6 = .ok (.invokevirtual 26, 3) := by decide +kernel
theorem dX1_highest_9 : decode cX1_highest 9 = .ok (.if_icmp .ge 19, 3) := by decide +kernel
theorem dX1_highest_12 : decode cX1_highest 12 = .ok (.iload_n 1, 1) := by decide +kernel
theorem dX1_highest_13 : decode cX1_highest 13 = .ok (.aload_n 0, 1) := by decide +kernel
theorem dX1_highest_14 : decode cX1_highest 14 = .ok (.iload_n 2, 1) := by decide +kernel
theorem dX1_highest_15 : decode cX1_highest 15 = .ok (.invokevirtual 29, 3) := by decide +kernel
theorem dX1_highest_18 : decode cX1_highest 18 = .ok (.invokestatic 43, 3) := by decide +kernel
theorem dX1_highest_21 : decode cX1_highest 21 = .ok (.istore_n 1, 1) := by decide +kernel
theorem dX1_highest_22 : decode cX1_highest 22 = .ok (.iinc 2 1, 3) := by decide +kernel
theorem dX1_highest_25 : decode cX1_highest 25 = .ok (.goto (-21), 3) := by decide +kernel
theorem dX1_highest_28 : decode cX1_highest 28 = .ok (.iload_n 1, 1) := by decide +kernel
theorem dX1_highest_29 : decode cX1_highest 29 = .ok (.ireturn, 1) := by decide +kernel
theorem dX1_lineSum_0 : decode cX1_lineSum 0 = .ok (.iconst 0, 1) := by decide +kernel
theorem dX1_lineSum_1 : decode cX1_lineSum 1 = .ok (.istore_n 3, 1) := by decide +kernel
theorem dX1_lineSum_2 : decode cX1_lineSum 2 = .ok (.iconst 0, 1) := by decide +kernel
theorem dX1_lineSum_3 : decode cX1_lineSum 3 = .ok (.istore 4, 2) := by decide +kernel
theorem dX1_lineSum_5 : decode cX1_lineSum 5 = .ok (.iload 4, 2) := by decide +kernel
theorem dX1_lineSum_7 : decode cX1_lineSum 7 = .ok (.aload_n 0, 1) := by decide +kernel
theorem dX1_lineSum_8 : decode cX1_lineSum 8 = .ok (.getfield 15, 3) := by decide +kernel
theorem dX1_lineSum_11 : decode cX1_lineSum 11 = .ok (.if_icmp .ge 27, 3) := by decide +kernel
theorem dX1_lineSum_14 : decode cX1_lineSum 14 = .ok (.iload_n 3, 1) := by decide +kernel
theorem dX1_lineSum_15 : decode cX1_lineSum 15 = .ok (.aload_n 0, 1) := by decide +kernel
theorem dX1_lineSum_16 : decode cX1_lineSum 16 = .ok (.aload_n 0, 1) := by decide +kernel
theorem dX1_lineSum_17 : decode cX1_lineSum 17 = .ok (.getfield 15, 3) := by decide +kernel
theorem dX1_lineSum_20 : decode cX1_lineSum 20 = .ok (.iload_n 1, 1) := by decide +kernel
theorem dX1_lineSum_21 : decode cX1_lineSum 21 = .ok (.iload_n 2, 1) := by decide +kernel
theorem dX1_lineSum_22 : decode cX1_lineSum 22 = .ok (.iload 4, 2) := by decide +kernel
theorem dX1_lineSum_24 : decode cX1_lineSum 24 = .ok (.invokestatic 48, 3) := by decide +kernel
theorem dX1_lineSum_27 : decode cX1_lineSum 27 = .ok (.invokevirtual 29, 3) := by decide +kernel
theorem dX1_lineSum_30 : decode cX1_lineSum 30 = .ok (.iadd, 1) := by decide +kernel
theorem dX1_lineSum_31 : decode cX1_lineSum 31 = .ok (.istore_n 3, 1) := by decide +kernel
theorem dX1_lineSum_32 : decode cX1_lineSum 32 = .ok (.iinc 4 1, 3) := by decide +kernel
theorem dX1_lineSum_35 : decode cX1_lineSum 35 = .ok (.goto (-30), 3) := by decide +kernel
theorem dX1_lineSum_38 : decode cX1_lineSum 38 = .ok (.iload_n 3, 1) := by decide +kernel
theorem dX1_lineSum_39 : decode cX1_lineSum 39 = .ok (.ireturn, 1) := by decide +kernel
theorem dX1_linePower_0 : decode cX1_linePower 0 = .ok (.iconst 0, 1) := by decide +kernel
theorem dX1_linePower_1 : decode cX1_linePower 1 = .ok (.istore_n 3, 1) := by decide +kernel
theorem dX1_linePower_2 : decode cX1_linePower 2 = .ok (.iconst 0, 1) := by decide +kernel
theorem dX1_linePower_3 : decode cX1_linePower 3 = .ok (.istore 4, 2) := by decide +kernel
theorem dX1_linePower_5 : decode cX1_linePower 5 = .ok (.iload 4, 2) := by decide +kernel
theorem dX1_linePower_7 : decode cX1_linePower 7 = .ok (.aload_n 0, 1) := by decide +kernel
theorem dX1_linePower_8 : decode cX1_linePower 8 = .ok (.getfield 15, 3) := by decide +kernel
theorem dX1_linePower_11 : decode cX1_linePower 11 = .ok (.if_icmp .ge 34, 3) := by decide +kernel
theorem dX1_linePower_14 : decode cX1_linePower 14 = .ok (.aload_n 0, 1) := by decide +kernel
theorem dX1_linePower_15 : decode cX1_linePower 15 = .ok (.aload_n 0, 1) := by decide +kernel
theorem dX1_linePower_16 : decode cX1_linePower 16 = .ok (.getfield 15, 3) := by decide +kernel
theorem dX1_linePower_19 : decode cX1_linePower 19 = .ok (.iload_n 1, 1) := by decide +kernel
theorem dX1_linePower_20 : decode cX1_linePower 20 = .ok (.iload_n 2, 1) := by decide +kernel
theorem dX1_linePower_21 : decode cX1_linePower 21 = .ok (.iload 4, 2) := by decide +kernel
theorem dX1_linePower_23 : decode cX1_linePower 23 = .ok (.invokestatic 48, 3) := by decide +kernel
theorem dX1_linePower_26 : decode cX1_linePower 26 = .ok (.invokevirtual 29, 3) := by decide +kernel
theorem dX1_linePower_29 : decode cX1_linePower 29 = .ok (.istore 5, 2) := by decide +kernel
theorem dX1_linePower_31 : decode cX1_linePower 31 = .ok (.iload_n 3, 1) := by decide +kernel
theorem dX1_linePower_32 : decode cX1_linePower 32 = .ok (.iload 5, 2) := by decide +kernel
theorem dX1_linePower_34 : decode cX1_linePower 34 = .ok (.iload 5, 2) := by decide +kernel
theorem dX1_linePower_36 : decode cX1_linePower 36 = .ok (.imul, 1) := by decide +kernel
theorem dX1_linePower_37 : decode cX1_linePower 37 = .ok (.iadd, 1) := by decide +kernel
theorem dX1_linePower_38 : decode cX1_linePower 38 = .ok (.istore_n 3, 1) := by decide +kernel
theorem dX1_linePower_39 : decode cX1_linePower 39 = .ok (.iinc 4 1, 3) := by decide +kernel
theorem dX1_linePower_42 : decode cX1_linePower 42 = .ok (.goto (-37), 3) := by decide +kernel
theorem dX1_linePower_45 : decode cX1_linePower 45 = .ok (.iload_n 3, 1) := by decide +kernel
theorem dX1_linePower_46 : decode cX1_linePower 46 = .ok (.ireturn, 1) := by decide +kernel
theorem dX2_numberIn_0 : decode cX2_numberIn 0 = .ok (.aload_n 0, 1) := by decide +kernel
theorem dX2_numberIn_1 : decode cX2_numberIn 1 = .ok (.invokevirtual 7, 3) := by decide +kernel
theorem dX2_numberIn_4 : decode cX2_numberIn 4 = .ok (.iload_n 1, 1) := by decide +kernel
theorem dX2_numberIn_5 : decode cX2_numberIn 5 = .ok (.iconst 4, 1) := by decide +kernel
theorem dX2_numberIn_6 : decode cX2_numberIn 6 = .ok (.irem, 1) := by decide +kernel
theorem dX2_numberIn_7 : decode cX2_numberIn 7 = .ok (.iload_n 2, 1) := by decide +kernel
theorem dX2_numberIn_8 : decode cX2_numberIn 8 = .ok (.invokestatic 13, 3) := by decide +kernel
theorem dX2_numberIn_11 : decode cX2_numberIn 11 = .ok (.istore_n 3, 1) := by decide +kernel
theorem dX2_numberIn_12 : decode cX2_numberIn 12 = .ok (.aload_n 0, 1) := by decide +kernel
theorem dX2_numberIn_13 : decode cX2_numberIn 13 = .ok (.aload_n 0, 1) := by decide +kernel
theorem dX2_numberIn_14 : decode cX2_numberIn 14 = .ok (.invokevirtual 7, 3) := by decide +kernel
theorem dX2_numberIn_17 : decode cX2_numberIn 17 = .ok (.iload_n 1, 1) := by decide +kernel
theorem dX2_numberIn_18 : decode cX2_numberIn 18 = .ok (.iconst 4, 1) := by decide +kernel
theorem dX2_numberIn_19 : decode cX2_numberIn 19 = .ok (.idiv, 1) := by decide +kernel
theorem dX2_numberIn_20 : decode cX2_numberIn 20 = .ok (.iload_n 3, 1) := by decide +kernel
theorem dX2_numberIn_21 : decode cX2_numberIn 21 = .ok (.invokestatic 19, 3) := by decide +kernel
theorem dX2_numberIn_24 : decode cX2_numberIn 24 = .ok (.invokevirtual 22, 3) := by decide +kernel
theorem dX2_numberIn_27 : decode cX2_numberIn 27 = .ok (.ireturn, 1) := by decide +kernel
theorem dX2_areKin_0 : decode cX2_areKin 0 = .ok (.iconst 0, 1) := by decide +kernel
theorem dX2_areKin_1 : decode cX2_areKin 1 = .ok (.istore_n 2, 1) := by decide +kernel
theorem dX2_areKin_2 : decode cX2_areKin 2 = .ok (.iload_n 2, 1) := by decide +kernel
theorem dX2_areKin_3 : decode cX2_areKin 3 = .ok (.bipush 8, 2) := by decide +kernel
theorem dX2_areKin_5 : decode cX2_areKin 5 = .ok (.if_icmp .ge 20, 3) := by decide +kernel
theorem dX2_areKin_8 : decode cX2_areKin 8 = .ok (.aload_n 0, 1) := by decide +kernel
theorem dX2_areKin_9 : decode cX2_areKin 9 = .ok (.iload_n 2, 1) := by decide +kernel
theorem dX2_areKin_10 : decode cX2_areKin 10 = .ok (.aload_n 1, 1) := by decide +kernel
theorem dX2_areKin_11 : decode cX2_areKin 11 = .ok (.invokestatic 28, 3) := by decide +kernel
theorem dX2_areKin_14 : decode cX2_areKin 14 = .ok (.ifCond .eq 5, 3) := by decide +kernel
theorem dX2_areKin_17 : decode cX2_areKin 17 = .ok (.iconst 1, 1) := by decide +kernel
theorem dX2_areKin_18 : decode cX2_areKin 18 = .ok (.ireturn, 1) := by decide +kernel
theorem dX2_areKin_19 : decode cX2_areKin 19 = .ok (.iinc 2 1, 3) := by decide +kernel
theorem dX2_areKin_22 : decode cX2_areKin 22 = .ok (.goto (-20), 3) := by decide +kernel
theorem dX2_areKin_25 : decode cX2_areKin 25 = .ok (.iconst 0, 1) := by decide +kernel
theorem dX2_areKin_26 : decode cX2_areKin 26 = .ok (.ireturn, 1) := by decide +kernel
theorem dX2_countLike_0 : decode cX2_countLike 0 = .ok (.iconst 0, 1) := by decide +kernel
theorem dX2_countLike_1 : decode cX2_countLike 1 = .ok (.istore_n 1, 1) := by decide +kernel
theorem dX2_countLike_2 : decode cX2_countLike 2 = .ok (.iconst 0, 1) := by decide +kernel
theorem dX2_countLike_3 : decode cX2_countLike 3 = .ok (.istore_n 2, 1) := by decide +kernel
theorem dX2_countLike_4 : decode cX2_countLike 4 = .ok (.iload_n 2, 1) := by decide +kernel
theorem dX2_countLike_5 : decode cX2_countLike 5 = .ok (.bipush 8, 2) := by decide +kernel
theorem dX2_countLike_7 : decode cX2_countLike 7 = .ok (.if_icmp .ge 21, 3) := by decide +kernel
theorem dX2_countLike_10 : decode cX2_countLike 10 = .ok (.aload_n 0, 1) := by decide +kernel
theorem dX2_countLike_11 : decode cX2_countLike 11 = .ok (.iload_n 2, 1) := by decide +kernel
theorem dX2_countLike_12 : decode cX2_countLike 12 = .ok (.aload_n 0, 1) := by decide +kernel
theorem dX2_countLike_13 : decode cX2_countLike 13 = .ok (.invokestatic 28, 3) := by decide +kernel
theorem dX2_countLike_16 : decode cX2_countLike 16 = .ok (.ifCond .eq 6, 3) := by decide +kernel
theorem dX2_countLike_19 : decode cX2_countLike 19 = .ok (.iinc 1 1, 3) := by decide +kernel
theorem dX2_countLike_22 : decode cX2_countLike 22 = .ok (.iinc 2 1, 3) := by decide +kernel
theorem dX2_countLike_25 : decode cX2_countLike 25 = .ok (.goto (-21), 3) := by decide +kernel
theorem dX2_countLike_28 : decode cX2_countLike 28 = .ok (.iload_n 1, 1) := by decide +kernel
theorem dX2_countLike_29 : decode cX2_countLike 29 = .ok (.ireturn, 1) := by decide +kernel
theorem dX2_isForm_0 : decode cX2_isForm 0 = .ok (.aload_n 0, 1) := by decide +kernel
theorem dX2_isForm_1 : decode cX2_isForm 1 = .ok (.invokevirtual 7, 3) := by decide +kernel
theorem dX2_isForm_4 : decode cX2_isForm 4 = .ok (.aload_n 2, 1) := by decide +kernel
theorem dX2_isForm_5 : decode cX2_isForm 5 = .ok (.invokevirtual 7, 3) := by decide +kernel
theorem dX2_isForm_8 : decode cX2_isForm 8 = .ok (.if_icmp .eq 5, 3) := by decide +kernel
theorem dX2_isForm_11 : decode cX2_isForm 11 = .ok (.iconst 0, 1) := by decide +kernel
theorem dX2_isForm_12 : decode cX2_isForm 12 = .ok (.ireturn, 1) := by decide +kernel
theorem dX2_isForm_13 : decode cX2_isForm 13 = .ok (.iconst 0, 1) := by decide +kernel
theorem dX2_isForm_14 : decode cX2_isForm 14 = .ok (.istore_n 3, 1) := by decide +kernel
theorem dX2_isForm_15 : decode cX2_isForm 15 = .ok (.iload_n 3, 1) := by decide +kernel
theorem dX2_isForm_16 : decode cX2_isForm 16 = .ok (.aload_n 0, 1) := by decide +kernel
theorem dX2_isForm_17 : decode cX2_isForm 17 = .ok (.invokevirtual 32, 3) := by decide +kernel
theorem dX2_isForm_20 : decode cX2_isForm 20 = .ok (.if_icmp .ge 25, 3) := by decide +kernel
theorem dX2_isForm_23 : decode cX2_isForm 23 = .ok (.aload_n 0, 1) := by decide +kernel
theorem dX2_isForm_24 : decode cX2_isForm 24 = .ok (.iload_n 1, 1) := by decide +kernel
theorem dX2_isForm_25 : decode cX2_isForm 25 = .ok (.iload_n 3, 1) := by decide +kernel
theorem dX2_isForm_26 : decode cX2_isForm 26 = .ok (.invokestatic 35, 3) := by decide +kernel
theorem dX2_isForm_29 : decode cX2_isForm 29 = .ok (.aload_n 2, 1) := by decide +kernel
theorem dX2_isForm_30 : decode cX2_isForm 30 = .ok (.iload_n 3, 1) := by decide +kernel
theorem dX2_isForm_31 : decode cX2_isForm 31 = .ok (.invokevirtual 22, 3) := by decide +kernel
theorem dX2_isForm_34 : decode cX2_isForm 34 = .ok (.if_icmp .eq 5, 3) := by decide +kernel
theorem dX2_isForm_37 : decode cX2_isForm 37 = .ok (.iconst 0, 1) := by decide +kernel
theorem dX2_isForm_38 : decode cX2_isForm 38 = .ok (.ireturn, 1) := by decide +kernel
theorem dX2_isForm_39 : decode cX2_isForm 39 = .ok (.iinc 3 1, 3) := by decide +kernel
theorem dX2_isForm_42 : decode cX2_isForm 42 = .ok (.goto (-27), 3) := by decide +kernel
theorem dX2_isForm_45 : decode cX2_isForm 45 = .ok (.iconst 1, 1) := by decide +kernel
theorem dX2_isForm_46 : decode cX2_isForm 46 = .ok (.ireturn, 1) := by decide +kernel
theorem dX2_leastOf_0 : decode cX2_leastOf 0 = .ok (.iconst 0, 1) := by decide +kernel
theorem dX2_leastOf_1 : decode cX2_leastOf 1 = .ok (.istore_n 1, 1) := by decide +kernel
theorem dX2_leastOf_2 : decode cX2_leastOf 2 = .ok (.iconst 1, 1) := by decide +kernel
theorem dX2_leastOf_3 : decode cX2_leastOf 3 = .ok (.istore_n 2, 1) := by decide +kernel
theorem dX2_leastOf_4 : decode cX2_leastOf 4 = .ok (.iload_n 2, 1) := by decide +kernel
theorem dX2_leastOf_5 : decode cX2_leastOf 5 = .ok (.bipush 8, 2) := by decide +kernel
theorem dX2_leastOf_7 : decode cX2_leastOf 7 = .ok (.if_icmp .ge 20, 3) := by decide +kernel
theorem dX2_leastOf_10 : decode cX2_leastOf 10 = .ok (.aload_n 0, 1) := by decide +kernel
theorem dX2_leastOf_11 : decode cX2_leastOf 11 = .ok (.iload_n 2, 1) := by decide +kernel
theorem dX2_leastOf_12 : decode cX2_leastOf 12 = .ok (.iload_n 1, 1) := by decide +kernel
theorem dX2_leastOf_13 : decode cX2_leastOf 13 = .ok (.invokestatic 39, 3) := by decide +kernel
theorem dX2_leastOf_16 : decode cX2_leastOf 16 = .ok (.ifCond .eq 5, 3) := by decide +kernel
theorem dX2_leastOf_19 : decode cX2_leastOf 19 = .ok (.iload_n 2, 1) := by decide +kernel
theorem dX2_leastOf_20 : decode cX2_leastOf 20 = .ok (.istore_n 1, 1) := by decide +kernel
theorem dX2_leastOf_21 : decode cX2_leastOf 21 = .ok (.iinc 2 1, 3) := by decide +kernel
theorem dX2_leastOf_24 : decode cX2_leastOf 24 = .ok (.goto (-20), 3) := by decide +kernel
theorem dX2_leastOf_27 : decode cX2_leastOf 27 = .ok (.iload_n 1, 1) := by decide +kernel
theorem dX2_leastOf_28 : decode cX2_leastOf 28 = .ok (.ireturn, 1) := by decide +kernel
theorem dX2_isLower_0 : decode cX2_isLower 0 = .ok (.iconst 0, 1) := by decide +kernel
theorem dX2_isLower_1 : decode cX2_isLower 1 = .ok (.istore_n 3, 1) := by decide +kernel
theorem dX2_isLower_2 : decode cX2_isLower 2 = .ok (.iload_n 3, 1) := by decide +kernel
theorem dX2_isLower_3 : decode cX2_isLower 3 = .ok (.aload_n 0, 1) := by decide +kernel
theorem dX2_isLower_4 : decode cX2_isLower 4 = .ok (.invokevirtual 32, 3) := by decide +kernel
theorem dX2_isLower_7 : decode cX2_isLower 7 = .ok (.if_icmp .ge 45, 3) := by decide +kernel
theorem dX2_isLower_10 : decode cX2_isLower 10 = .ok (.aload_n 0, 1) := by decide +kernel
theorem dX2_isLower_11 : decode cX2_isLower 11 = .ok (.iload_n 1, 1) := by decide +kernel
theorem dX2_isLower_12 : decode cX2_isLower 12 = .ok (.iload_n 3, 1) := by decide +kernel
theorem dX2_isLower_13 : decode cX2_isLower 13 = .ok (.invokestatic 35, 3) := by decide +kernel
theorem dX2_isLower_16 : decode cX2_isLower 16 = .ok (.istore 4, 2) := by decide +kernel
theorem dX2_isLower_18 : decode cX2_isLower 18 = .ok (.aload_n 0, 1) := by decide +kernel
theorem dX2_isLower_19 : decode cX2_isLower 19 = .ok (.iload_n 2, 1) := by decide +kernel
theorem dX2_isLower_20 : decode cX2_isLower 20 = .ok (.iload_n 3, 1) := by decide +kernel
theorem dX2_isLower_21 : decode cX2_isLower 21 = .ok (.invokestatic 35, 3) := by decide +kernel
theorem dX2_isLower_24 : decode cX2_isLower 24 = .ok (.istore 5, 2) := by decide +kernel
theorem dX2_isLower_26 : decode cX2_isLower 26 = .ok (.iload 4, 2) := by decide +kernel
theorem dX2_isLower_28 : decode cX2_isLower 28 = .ok (.iload 5, 2) := by decide +kernel
theorem dX2_isLower_30 : decode cX2_isLower 30 = .ok (.if_icmp .eq 16, 3) := by decide +kernel
theorem dX2_isLower_33 : decode cX2_isLower 33 = .ok (.iload 4, 2) := by decide +kernel
theorem dX2_isLower_35 : decode cX2_isLower 35 = .ok (.iload 5, 2) := by decide +kernel
theorem dX2_isLower_37 : decode cX2_isLower 37 = .ok (.if_icmp .ge 7, 3) := by decide +kernel
theorem dX2_isLower_40 : decode cX2_isLower 40 = .ok (.iconst 1, 1) := by decide +kernel
theorem dX2_isLower_41 : decode cX2_isLower 41 = .ok (.goto 4, 3) := by decide +kernel
theorem dX2_isLower_44 : decode cX2_isLower 44 = .ok (.iconst 0, 1) := by decide +kernel
theorem dX2_isLower_45 : decode cX2_isLower 45 = .ok (.ireturn, 1) := by decide +kernel
theorem dX2_isLower_46 : decode cX2_isLower 46 = .ok (.iinc 3 1, 3) := by decide +kernel
theorem dX2_isLower_49 : decode cX2_isLower 49 = .ok (.goto (-47), 3) := by decide +kernel
theorem dX2_isLower_52 : decode cX2_isLower 52 = .ok (.iconst 0, 1) := by decide +kernel
theorem dX2_isLower_53 : decode cX2_isLower 53 = .ok (.ireturn, 1) := by decide +kernel
theorem dX3_init_0 : decode cX3_init 0 = .ok (.aload_n 0, 1) := by decide +kernel
theorem dX3_init_1 : decode cX3_init 1 = .ok (.invokespecial 1, 3) := by decide +kernel
theorem dX3_init_4 : decode cX3_init 4 = .ok (.aload_n 0, 1) := by decide +kernel
theorem dX3_init_5 : decode cX3_init 5 = .ok (.bipush 8, 2) := by decide +kernel
theorem dX3_init_7 : decode cX3_init 7 = .ok (.newarray .int, 2) := by decide +kernel
theorem dX3_init_9 : decode cX3_init 9 = .ok (.putfield 9, 3) := by decide +kernel
theorem dX3_init_12 : decode cX3_init 12 = .ok (.return_, 1) := by decide +kernel
theorem dX3_fewestOf_0 : decode cX3_fewestOf 0 = .ok (.iconst 0, 1) := by decide +kernel
theorem dX3_fewestOf_1 : decode cX3_fewestOf 1 = .ok (.istore_n 2, 1) := by decide +kernel
theorem dX3_fewestOf_2 : decode cX3_fewestOf 2 = .ok (.iload_n 2, 1) := by decide +kernel
theorem dX3_fewestOf_3 : decode cX3_fewestOf 3 = .ok (.aload_n 0, 1) := by decide +kernel
theorem dX3_fewestOf_4 : decode cX3_fewestOf 4 = .ok (.getfield 9, 3) := by decide +kernel
theorem dX3_fewestOf_7 : decode cX3_fewestOf 7 = .ok (.arraylength, 1) := by decide +kernel
theorem dX3_fewestOf_8 : decode cX3_fewestOf 8 = .ok (.if_icmp .ge 20, 3) := by decide +kernel
theorem dX3_fewestOf_11 : decode cX3_fewestOf 11 = .ok (.aload_n 0, 1) := by decide +kernel
theorem dX3_fewestOf_12 : decode cX3_fewestOf 12 = .ok (.getfield 9, 3) := by decide +kernel
theorem dX3_fewestOf_15 : decode cX3_fewestOf 15 = .ok (.iload_n 2, 1) := by decide +kernel
theorem dX3_fewestOf_16 : decode cX3_fewestOf 16 = .ok (.aload_n 1, 1) := by decide +kernel
theorem dX3_fewestOf_17 : decode cX3_fewestOf 17 = .ok (.iload_n 2, 1) := by decide +kernel
theorem dX3_fewestOf_18 : decode cX3_fewestOf 18 = .ok (.invokestatic 15, 3) := by decide +kernel
theorem dX3_fewestOf_21 : decode cX3_fewestOf 21 = .ok (.iastore, 1) := by decide +kernel
theorem dX3_fewestOf_22 : decode cX3_fewestOf 22 = .ok (.iinc 2 1, 3) := by decide +kernel
theorem dX3_fewestOf_25 : decode cX3_fewestOf 25 = .ok (.goto (-23), 3) := by decide +kernel
theorem dX3_fewestOf_28 : decode cX3_fewestOf 28 = .ok (.iconst 1, 1) := by decide +kernel
theorem dX3_fewestOf_29 : decode cX3_fewestOf 29 = .ok (.aload_n 1, 1) := by decide +kernel
theorem dX3_fewestOf_30 : decode cX3_fewestOf 30 = .ok (.invokevirtual 19, 3) := by decide +kernel
theorem dX3_fewestOf_33 : decode cX3_fewestOf 33 = .ok (.ishl, 1) := by decide +kernel
theorem dX3_fewestOf_34 : decode cX3_fewestOf 34 = .ok (.iconst 1, 1) := by decide +kernel
theorem dX3_fewestOf_35 : decode cX3_fewestOf 35 = .ok (.isub, 1) := by decide +kernel
theorem dX3_fewestOf_36 : decode cX3_fewestOf 36 = .ok (.istore_n 2, 1) := by decide +kernel
theorem dX3_fewestOf_37 : decode cX3_fewestOf 37 = .ok (.iload_n 2, 1) := by decide +kernel
theorem dX3_fewestOf_38 : decode cX3_fewestOf 38 = .ok (.istore_n 3, 1) := by decide +kernel
theorem dX3_fewestOf_39 : decode cX3_fewestOf 39 = .ok (.iconst 0, 1) := by decide +kernel
theorem dX3_fewestOf_40 : decode cX3_fewestOf 40 = .ok (.istore 4, 2) := by decide +kernel
theorem dX3_fewestOf_42 : decode cX3_fewestOf 42 = .ok (.iload 4, 2) := by decide +kernel
theorem dX3_fewestOf_44 : decode cX3_fewestOf 44 = .ok (.iload_n 2, 1) := by decide +kernel
theorem dX3_fewestOf_45 : decode cX3_fewestOf 45 = .ok (.if_icmp .ge 33, 3) := by decide +kernel
theorem dX3_fewestOf_48 : decode cX3_fewestOf 48 = .ok (.iload 4, 2) := by decide +kernel
theorem dX3_fewestOf_50 : decode cX3_fewestOf 50 = .ok (.invokestatic 25, 3) := by decide +kernel
theorem dX3_fewestOf_53 : decode cX3_fewestOf 53 = .ok (.iload_n 3, 1) := by decide +kernel
theorem dX3_fewestOf_54 : decode cX3_fewestOf 54 = .ok (.invokestatic 25, 3) := by decide +kernel
theorem dX3_fewestOf_57 : decode cX3_fewestOf 57 = .ok (.if_icmp .ge 15, 3) := by decide +kernel
theorem dX3_fewestOf_60 : decode cX3_fewestOf 60 = .ok (.aload_n 0, 1) := by decide +kernel
theorem dX3_fewestOf_61 : decode cX3_fewestOf 61 = .ok (.iload 4, 2) := by decide +kernel
theorem dX3_fewestOf_63 : decode cX3_fewestOf 63 = .ok (.invokevirtual 31, 3) := by decide +kernel
theorem dX3_fewestOf_66 : decode cX3_fewestOf 66 = .ok (.ifCond .eq 6, 3) := by decide +kernel
theorem dX3_fewestOf_69 : decode cX3_fewestOf 69 = .ok (.iload 4, 2) := by decide +kernel
theorem dX3_fewestOf_71 : decode cX3_fewestOf 71 = .ok (.istore_n 3, 1) := by decide +kernel
theorem dX3_fewestOf_72 : decode cX3_fewestOf 72 = .ok (.iinc 4 1, 3) := by decide +kernel
theorem dX3_fewestOf_75 : decode cX3_fewestOf 75 = .ok (.goto (-33), 3) := by decide +kernel
theorem dX3_fewestOf_78 : decode cX3_fewestOf 78 = .ok (.iload_n 3, 1) := by decide +kernel
theorem dX3_fewestOf_79 : decode cX3_fewestOf 79 = .ok (.ireturn, 1) := by decide +kernel
theorem dX3_differenceOf_0 : decode cX3_differenceOf 0 = .ok (.iconst 0, 1) := by decide +kernel
theorem dX3_differenceOf_1 : decode cX3_differenceOf 1 = .ok (.istore_n 2, 1) := by decide +kernel
theorem dX3_differenceOf_2 : decode cX3_differenceOf 2 = .ok (.iconst 0, 1) := by decide +kernel
theorem dX3_differenceOf_3 : decode cX3_differenceOf 3 = .ok (.istore_n 3, 1) := by decide +kernel
theorem dX3_differenceOf_4 : decode cX3_differenceOf 4 = .ok (.iload_n 3, 1) := by decide +kernel
theorem dX3_differenceOf_5 : decode cX3_differenceOf 5 = .ok (.aload_n 0, 1) := by decide +kernel
theorem dX3_differenceOf_6 : decode cX3_differenceOf 6 = .ok (.invokevirtual 19, 3) := by decide +kernel
theorem dX3_differenceOf_9 : decode cX3_differenceOf 9 = .ok (.if_icmp .ge 29, 3) := by decide +kernel
theorem dX3_differenceOf_12 : decode cX3_differenceOf 12 = .ok (.aload_n 0, 1) := by decide +kernel
theorem dX3_differenceOf_13 : decode cX3_differenceOf 13 = .ok (.iload_n 1, 1) := by decide +kernel
theorem dX3_differenceOf_14 : decode cX3_differenceOf 14 = .ok (.iload_n 3, 1) := by decide +kernel
theorem dX3_differenceOf_15 : decode cX3_differenceOf 15 = .ok (.invokestatic 35, 3) := by decide +kernel
theorem dX3_differenceOf_18 : decode cX3_differenceOf 18 = .ok (.aload_n 0, 1) := by decide +kernel
theorem dX3_differenceOf_19 : decode cX3_differenceOf 19 = .ok (.iload_n 3, 1) := by decide +kernel
theorem dX3_differenceOf_20 : decode cX3_differenceOf 20 = .ok (.invokevirtual 39, 3) := by decide +kernel
theorem dX3_differenceOf_23 : decode cX3_differenceOf 23 = .ok (.if_icmp .eq 9, 3) := by decide +kernel
theorem dX3_differenceOf_26 : decode cX3_differenceOf 26 = .ok (.iload_n 2, 1) := by decide +kernel
theorem dX3_differenceOf_27 : decode cX3_differenceOf 27 = .ok (.iconst 1, 1) := by decide +kernel
theorem dX3_differenceOf_28 : decode cX3_differenceOf 28 = .ok (.iload_n 3, 1) := by decide +kernel
theorem dX3_differenceOf_29 : decode cX3_differenceOf 29 = .ok (.ishl, 1) := by decide +kernel
theorem dX3_differenceOf_30 : decode cX3_differenceOf 30 = .ok (.ior, 1) := by decide +kernel
theorem dX3_differenceOf_31 : decode cX3_differenceOf 31 = .ok (.istore_n 2, 1) := by decide +kernel
theorem dX3_differenceOf_32 : decode cX3_differenceOf 32 = .ok (.iinc 3 1, 3) := by decide +kernel
theorem dX3_differenceOf_35 : decode cX3_differenceOf 35 = .ok (.goto (-31), 3) := by decide +kernel
theorem dX3_differenceOf_38 : decode cX3_differenceOf 38 = .ok (.iload_n 2, 1) := by decide +kernel
theorem dX3_differenceOf_39 : decode cX3_differenceOf 39 = .ok (.ireturn, 1) := by decide +kernel
theorem dX3_tellsAllApart_0 : decode cX3_tellsAllApart 0 = .ok (.aload_n 0, 1) := by decide +kernel
theorem dX3_tellsAllApart_1 : decode cX3_tellsAllApart 1 = .ok (.getfield 9, 3) := by decide +kernel
theorem dX3_tellsAllApart_4 : decode cX3_tellsAllApart 4 = .ok (.astore_n 2, 1) := by decide +kernel
theorem dX3_tellsAllApart_5 : decode cX3_tellsAllApart 5 = .ok (.aload_n 2, 1) := by decide +kernel
theorem dX3_tellsAllApart_6 : decode cX3_tellsAllApart 6 = .ok (.arraylength, 1) := by decide +kernel
theorem dX3_tellsAllApart_7 : decode cX3_tellsAllApart 7 = .ok (.istore_n 3, 1) := by decide +kernel
theorem dX3_tellsAllApart_8 : decode cX3_tellsAllApart 8 = .ok (.iconst 0, 1) := by decide +kernel
theorem dX3_tellsAllApart_9 : decode cX3_tellsAllApart 9 = .ok (.istore 4, 2) := by decide +kernel
theorem dX3_tellsAllApart_11 : decode cX3_tellsAllApart 11 = .ok (.iload 4, 2) := by decide +kernel
theorem dX3_tellsAllApart_13 : decode cX3_tellsAllApart 13 = .ok (.iload_n 3, 1) := by decide +kernel
theorem dX3_tellsAllApart_14 : decode cX3_tellsAllApart 14 = .ok (.if_icmp .ge 29, 3) := by decide +kernel
theorem dX3_tellsAllApart_17 : decode cX3_tellsAllApart 17 = .ok (.aload_n 2, 1) := by decide +kernel
theorem dX3_tellsAllApart_18 : decode cX3_tellsAllApart 18 = .ok (.iload 4, 2) := by decide +kernel
theorem dX3_tellsAllApart_20 : decode cX3_tellsAllApart 20 = .ok (.iaload, 1) := by decide +kernel
theorem dX3_tellsAllApart_21 : decode cX3_tellsAllApart 21 = .ok (.istore 5, 2) := by decide +kernel
theorem dX3_tellsAllApart_23 : decode cX3_tellsAllApart 23 = .ok (.iload 5, 2) := by decide +kernel
theorem dX3_tellsAllApart_25 : decode cX3_tellsAllApart 25 = .ok (.ifCond .eq 12, 3) := by decide +kernel
theorem dX3_tellsAllApart_28 : decode cX3_tellsAllApart 28 = .ok (.iload 5, 2) := by decide +kernel
theorem dX3_tellsAllApart_30 : decode cX3_tellsAllApart 30 = .ok (.iload_n 1, 1) := by decide +kernel
theorem dX3_tellsAllApart_31 : decode cX3_tellsAllApart 31 = .ok (.iand, 1) := by decide +kernel
theorem dX3_tellsAllApart_32 : decode cX3_tellsAllApart 32 = .ok (.ifCond .ne 5, 3) := by decide +kernel
theorem dX3_tellsAllApart_35 : decode cX3_tellsAllApart 35 = .ok (.iconst 0, 1) := by decide +kernel
theorem dX3_tellsAllApart_36 : decode cX3_tellsAllApart 36 = .ok (.ireturn, 1) := by decide +kernel
theorem dX3_tellsAllApart_37 : decode cX3_tellsAllApart 37 = .ok (.iinc 4 1, 3) := by decide +kernel
theorem dX3_tellsAllApart_40 : decode cX3_tellsAllApart 40 = .ok (.goto (-29), 3) := by decide +kernel
theorem dX3_tellsAllApart_43 : decode cX3_tellsAllApart 43 = .ok (.iconst 1, 1) := by decide +kernel
theorem dX3_tellsAllApart_44 : decode cX3_tellsAllApart 44 = .ok (.ireturn, 1) := by decide +kernel
theorem dX4_heldBy_0 : decode cX4_heldBy 0 = .ok (.iconst 0, 1) := by decide +kernel
theorem dX4_heldBy_1 : decode cX4_heldBy 1 = .ok (.istore_n 1, 1) := by decide +kernel
theorem dX4_heldBy_2 : decode cX4_heldBy 2 = .ok (.iconst 0, 1) := by decide +kernel
theorem dX4_heldBy_3 : decode cX4_heldBy 3 = .ok (.istore_n 2, 1) := by decide +kernel
theorem dX4_heldBy_4 : decode cX4_heldBy 4 = .ok (.iload_n 2, 1) := by decide +kernel
theorem dX4_heldBy_5 : decode cX4_heldBy 5 = .ok (.bipush 8, 2) := by decide +kernel
theorem dX4_heldBy_7 : decode cX4_heldBy 7 = .ok (.if_icmp .ge 25, 3) := by decide +kernel
theorem dX4_heldBy_10 : decode cX4_heldBy 10 = .ok (.aload_n 0, 1) := by decide +kernel
theorem dX4_heldBy_11 : decode cX4_heldBy 11 = .ok (.iconst 1, 1) := by decide +kernel
theorem dX4_heldBy_12 : decode cX4_heldBy 12 = .ok (.iload_n 2, 1) := by decide +kernel
theorem dX4_heldBy_13 : decode cX4_heldBy 13 = .ok (.ishl, 1) := by decide +kernel
theorem dX4_heldBy_14 : decode cX4_heldBy 14 = .ok (.invokestatic 11, 3) := by decide +kernel
theorem dX4_heldBy_17 : decode cX4_heldBy 17 = .ok (.ifCond .eq 9, 3) := by decide +kernel
theorem dX4_heldBy_20 : decode cX4_heldBy 20 = .ok (.iload_n 1, 1) := by decide +kernel
theorem dX4_heldBy_21 : decode cX4_heldBy 21 = .ok (.iconst 1, 1) := by decide +kernel
theorem dX4_heldBy_22 : decode cX4_heldBy 22 = .ok (.iload_n 2, 1) := by decide +kernel
theorem dX4_heldBy_23 : decode cX4_heldBy 23 = .ok (.ishl, 1) := by decide +kernel
theorem dX4_heldBy_24 : decode cX4_heldBy 24 = .ok (.ior, 1) := by decide +kernel
theorem dX4_heldBy_25 : decode cX4_heldBy 25 = .ok (.istore_n 1, 1) := by decide +kernel
theorem dX4_heldBy_26 : decode cX4_heldBy 26 = .ok (.iinc 2 1, 3) := by decide +kernel
theorem dX4_heldBy_29 : decode cX4_heldBy 29 = .ok (.goto (-25), 3) := by decide +kernel
theorem dX4_heldBy_32 : decode cX4_heldBy 32 = .ok (.iload_n 1, 1) := by decide +kernel
theorem dX4_heldBy_33 : decode cX4_heldBy 33 = .ok (.ireturn, 1) := by decide +kernel
theorem dX4_isMagic_0 : decode cX4_isMagic 0 = .ok (.aload_n 0, 1) := by decide +kernel
theorem dX4_isMagic_1 : decode cX4_isMagic 1 = .ok (.iconst 0, 1) := by decide +kernel
theorem dX4_isMagic_2 : decode cX4_isMagic 2 = .ok (.iconst 0, 1) := by decide +kernel
theorem dX4_isMagic_3 : decode cX4_isMagic 3 = .ok (.invokevirtual 15, 3) := by decide +kernel
theorem dX4_isMagic_6 : decode cX4_isMagic 6 = .ok (.istore_n 1, 1) := by decide +kernel
theorem dX4_isMagic_7 : decode cX4_isMagic 7 = .ok (.aload_n 0, 1) := by decide +kernel
theorem dX4_isMagic_8 : decode cX4_isMagic 8 = .ok (.iconst 0, 1) := by decide +kernel
theorem dX4_isMagic_9 : decode cX4_isMagic 9 = .ok (.iload_n 1, 1) := by decide +kernel
theorem dX4_isMagic_10 : decode cX4_isMagic 10 = .ok (.invokestatic 21, 3) := by decide +kernel
theorem dX4_isMagic_13 : decode cX4_isMagic 13 = .ok (.ifCond .eq 24, 3) := by decide +kernel
theorem dX4_isMagic_16 : decode cX4_isMagic 16 = .ok (.aload_n 0, 1) := by decide +kernel
theorem dX4_isMagic_17 : decode cX4_isMagic 17 = .ok (.iconst 1, 1) := by decide +kernel
theorem dX4_isMagic_18 : decode cX4_isMagic 18 = .ok (.iload_n 1, 1) := by decide +kernel
theorem dX4_isMagic_19 : decode cX4_isMagic 19 = .ok (.invokestatic 21, 3) := by decide +kernel
theorem dX4_isMagic_22 : decode cX4_isMagic 22 = .ok (.ifCond .eq 15, 3) := by decide +kernel
theorem dX4_isMagic_25 : decode cX4_isMagic 25 = .ok (.aload_n 0, 1) := by decide +kernel
theorem dX4_isMagic_26 : decode cX4_isMagic 26 = .ok (.iload_n 1, 1) := by decide +kernel
theorem dX4_isMagic_27 : decode cX4_isMagic 27 = .ok (.invokestatic 25, 3) := by decide +kernel
theorem dX4_isMagic_30 : decode cX4_isMagic 30 = .ok (.ifCond .eq 7, 3) := by decide +kernel
theorem dX4_isMagic_33 : decode cX4_isMagic 33 = .ok (.iconst 1, 1) := by decide +kernel
theorem dX4_isMagic_34 : decode cX4_isMagic 34 = .ok (.goto 4, 3) := by decide +kernel
theorem dX4_isMagic_37 : decode cX4_isMagic 37 = .ok (.iconst 0, 1) := by decide +kernel
theorem dX4_isMagic_38 : decode cX4_isMagic 38 = .ok (.ireturn, 1) := by decide +kernel
theorem dX4_isNormal_0 : decode cX4_isNormal 0 = .ok (.iconst 1, 1) := by decide +kernel
theorem dX4_isNormal_1 : decode cX4_isNormal 1 = .ok (.istore_n 1, 1) := by decide +kernel
theorem dX4_isNormal_2 : decode cX4_isNormal 2 = .ok (.iload_n 1, 1) := by decide +kernel
theorem dX4_isNormal_3 : decode cX4_isNormal 3 = .ok (.aload_n 0, 1) := by decide +kernel
theorem dX4_isNormal_4 : decode cX4_isNormal 4 = .ok (.invokevirtual 28, 3) := by decide +kernel
theorem dX4_isNormal_7 : decode cX4_isNormal 7 = .ok (.if_icmp .gt 20, 3) := by decide +kernel
theorem dX4_isNormal_10 : decode cX4_isNormal 10 = .ok (.aload_n 0, 1) := by decide +kernel
theorem dX4_isNormal_11 : decode cX4_isNormal 11 = .ok (.iload_n 1, 1) := by decide +kernel
theorem dX4_isNormal_12 : decode cX4_isNormal 12 = .ok (.invokevirtual 32, 3) := by decide +kernel
theorem dX4_isNormal_15 : decode cX4_isNormal 15 = .ok (.iconst 1, 1) := by decide +kernel
theorem dX4_isNormal_16 : decode cX4_isNormal 16 = .ok (.if_icmp .eq 5, 3) := by decide +kernel
theorem dX4_isNormal_19 : decode cX4_isNormal 19 = .ok (.iconst 0, 1) := by decide +kernel
theorem dX4_isNormal_20 : decode cX4_isNormal 20 = .ok (.ireturn, 1) := by decide +kernel
theorem dX4_isNormal_21 : decode cX4_isNormal 21 = .ok (.iinc 1 1, 3) := by decide +kernel
theorem dX4_isNormal_24 : decode cX4_isNormal 24 = .ok (.goto (-22), 3) := by decide +kernel
theorem dX4_isNormal_27 : decode cX4_isNormal 27 = .ok (.iconst 1, 1) := by decide +kernel
theorem dX4_isNormal_28 : decode cX4_isNormal 28 = .ok (.ireturn, 1) := by decide +kernel
theorem dX4_holds_0 : decode cX4_holds 0 = .ok (.aload_n 0, 1) := by decide +kernel
theorem dX4_holds_1 : decode cX4_holds 1 = .ok (.iconst 0, 1) := by decide +kernel
theorem dX4_holds_2 : decode cX4_holds 2 = .ok (.iconst 0, 1) := by decide +kernel
theorem dX4_holds_3 : decode cX4_holds 3 = .ok (.invokevirtual 15, 3) := by decide +kernel
theorem dX4_holds_6 : decode cX4_holds 6 = .ok (.istore_n 2, 1) := by decide +kernel
theorem dX4_holds_7 : decode cX4_holds 7 = .ok (.iload_n 1, 1) := by decide +kernel
theorem dX4_holds_8 : decode cX4_holds 8 = .ok (.lookupswitch 149 #[(1, 76), (2, 90), (4, 97), (8, 104), (16, 110), (32, 134), (64, 139), (128, 144)], 76) := by decide +kernel
theorem dX4_holds_84 : decode cX4_holds 84 = .ok (.aload_n 0, 1) := by decide +kernel
theorem dX4_holds_85 : decode cX4_holds 85 = .ok (.iconst 0, 1) := by decide +kernel
theorem dX4_holds_86 : decode cX4_holds 86 = .ok (.invokevirtual 32, 3) := by decide +kernel
theorem dX4_holds_89 : decode cX4_holds 89 = .ok (.ifCond .ne 7, 3) := by decide +kernel
theorem dX4_holds_92 : decode cX4_holds 92 = .ok (.iconst 1, 1) := by decide +kernel
theorem dX4_holds_93 : decode cX4_holds 93 = .ok (.goto 4, 3) := by decide +kernel
theorem dX4_holds_96 : decode cX4_holds 96 = .ok (.iconst 0, 1) := by decide +kernel
theorem dX4_holds_97 : decode cX4_holds 97 = .ok (.ireturn, 1) := by decide +kernel
theorem dX4_holds_98 : decode cX4_holds 98 = .ok (.aload_n 0, 1) := by decide +kernel
theorem dX4_holds_99 : decode cX4_holds 99 = .ok (.iconst 0, 1) := by decide +kernel
theorem dX4_holds_100 : decode cX4_holds 100 = .ok (.iload_n 2, 1) := by decide +kernel
theorem dX4_holds_101 : decode cX4_holds 101 = .ok (.invokestatic 21, 3) := by decide +kernel
theorem dX4_holds_104 : decode cX4_holds 104 = .ok (.ireturn, 1) := by decide +kernel
theorem dX4_holds_105 : decode cX4_holds 105 = .ok (.aload_n 0, 1) := by decide +kernel
theorem dX4_holds_106 : decode cX4_holds 106 = .ok (.iconst 1, 1) := by decide +kernel
theorem dX4_holds_107 : decode cX4_holds 107 = .ok (.iload_n 2, 1) := by decide +kernel
theorem dX4_holds_108 : decode cX4_holds 108 = .ok (.invokestatic 21, 3) := by decide +kernel
theorem dX4_holds_111 : decode cX4_holds 111 = .ok (.ireturn, 1) := by decide +kernel
theorem dX4_holds_112 : decode cX4_holds 112 = .ok (.aload_n 0, 1) := by decide +kernel
theorem dX4_holds_113 : decode cX4_holds 113 = .ok (.iload_n 2, 1) := by decide +kernel
theorem dX4_holds_114 : decode cX4_holds 114 = .ok (.invokestatic 25, 3) := by decide +kernel
theorem dX4_holds_117 : decode cX4_holds 117 = .ok (.ireturn, 1) := by decide +kernel
theorem dX4_holds_118 : decode cX4_holds 118 = .ok (.aload_n 0, 1) := by decide +kernel
theorem dX4_holds_119 : decode cX4_holds 119 = .ok (.iconst 2, 1) := by decide +kernel
theorem dX4_holds_120 : decode cX4_holds 120 = .ok (.iload_n 2, 1) := by decide +kernel
theorem dX4_holds_121 : decode cX4_holds 121 = .ok (.invokestatic 21, 3) := by decide +kernel
theorem dX4_holds_124 : decode cX4_holds 124 = .ok (.ifCond .eq 16, 3) := by decide +kernel
theorem dX4_holds_127 : decode cX4_holds 127 = .ok (.aload_n 0, 1) := by decide +kernel
theorem dX4_holds_128 : decode cX4_holds 128 = .ok (.iconst 3, 1) := by decide +kernel
theorem dX4_holds_129 : decode cX4_holds 129 = .ok (.iload_n 2, 1) := by decide +kernel
theorem dX4_holds_130 : decode cX4_holds 130 = .ok (.invokestatic 21, 3) := by decide +kernel
theorem dX4_holds_133 : decode cX4_holds 133 = .ok (.ifCond .eq 7, 3) := by decide +kernel
theorem dX4_holds_136 : decode cX4_holds 136 = .ok (.iconst 1, 1) := by decide +kernel
theorem dX4_holds_137 : decode cX4_holds 137 = .ok (.goto 4, 3) := by decide +kernel
theorem dX4_holds_140 : decode cX4_holds 140 = .ok (.iconst 0, 1) := by decide +kernel
theorem dX4_holds_141 : decode cX4_holds 141 = .ok (.ireturn, 1) := by decide +kernel
theorem dX4_holds_142 : decode cX4_holds 142 = .ok (.aload_n 0, 1) := by decide +kernel
theorem dX4_holds_143 : decode cX4_holds 143 = .ok (.invokestatic 36, 3) := by decide +kernel
theorem dX4_holds_146 : decode cX4_holds 146 = .ok (.ireturn, 1) := by decide +kernel
theorem dX4_holds_147 : decode cX4_holds 147 = .ok (.aload_n 0, 1) := by decide +kernel
theorem dX4_holds_148 : decode cX4_holds 148 = .ok (.invokestatic 40, 3) := by decide +kernel
theorem dX4_holds_151 : decode cX4_holds 151 = .ok (.ireturn, 1) := by decide +kernel
theorem dX4_holds_152 : decode cX4_holds 152 = .ok (.aload_n 0, 1) := by decide +kernel
theorem dX4_holds_153 : decode cX4_holds 153 = .ok (.invokestatic 43, 3) := by decide +kernel
theorem dX4_holds_156 : decode cX4_holds 156 = .ok (.ireturn, 1) := by decide +kernel
theorem dX4_holds_157 : decode cX4_holds 157 = .ok (.iconst 0, 1) := by decide +kernel
theorem dX4_holds_158 : decode cX4_holds 158 = .ok (.ireturn, 1) := by decide +kernel
theorem dX4_areDiagonalsAt_0 : decode cX4_areDiagonalsAt 0 = .ok (.aload_n 0, 1) := by decide +kernel
theorem dX4_areDiagonalsAt_1 : decode cX4_areDiagonalsAt 1 = .ok (.iconst 2, 1) := by decide +kernel
theorem dX4_areDiagonalsAt_2 : decode cX4_areDiagonalsAt 2 = .ok (.iconst 0, 1) := by decide +kernel
theorem dX4_areDiagonalsAt_3 : decode cX4_areDiagonalsAt 3 = .ok (.invokevirtual 15, 3) := by decide +kernel
theorem dX4_areDiagonalsAt_6 : decode cX4_areDiagonalsAt 6 = .ok (.iload_n 1, 1) := by decide +kernel
theorem dX4_areDiagonalsAt_7 : decode cX4_areDiagonalsAt 7 = .ok (.if_icmp .ne 22, 3) := by decide +kernel
theorem dX4_areDiagonalsAt_10 : decode cX4_areDiagonalsAt 10 = .ok (.aload_n 0, 1) := by decide +kernel
theorem dX4_areDiagonalsAt_11 : decode cX4_areDiagonalsAt 11 = .ok (.iconst 3, 1) := by decide +kernel
theorem dX4_areDiagonalsAt_12 : decode cX4_areDiagonalsAt 12 = .ok (.aload_n 0, 1) := by decide +kernel
theorem dX4_areDiagonalsAt_13 : decode cX4_areDiagonalsAt 13 = .ok (.invokevirtual 46, 3) := by decide +kernel
theorem dX4_areDiagonalsAt_16 : decode cX4_areDiagonalsAt 16 = .ok (.iconst 1, 1) := by decide +kernel
theorem dX4_areDiagonalsAt_17 : decode cX4_areDiagonalsAt 17 = .ok (.isub, 1) := by decide +kernel
theorem dX4_areDiagonalsAt_18 : decode cX4_areDiagonalsAt 18 = .ok (.invokevirtual 15, 3) := by decide +kernel
theorem dX4_areDiagonalsAt_21 : decode cX4_areDiagonalsAt 21 = .ok (.iload_n 1, 1) := by decide +kernel
theorem dX4_areDiagonalsAt_22 : decode cX4_areDiagonalsAt 22 = .ok (.if_icmp .ne 7, 3) := by decide +kernel
theorem dX4_areDiagonalsAt_25 : decode cX4_areDiagonalsAt 25 = .ok (.iconst 1, 1) := by decide +kernel
theorem dX4_areDiagonalsAt_26 : decode cX4_areDiagonalsAt 26 = .ok (.goto 4, 3) := by decide +kernel
theorem dX4_areDiagonalsAt_29 : decode cX4_areDiagonalsAt 29 = .ok (.iconst 0, 1) := by decide +kernel
theorem dX4_areDiagonalsAt_30 : decode cX4_areDiagonalsAt 30 = .ok (.ireturn, 1) := by decide +kernel
theorem dX4_areLinesAt_0 : decode cX4_areLinesAt 0 = .ok (.iconst 0, 1) := by decide +kernel
theorem dX4_areLinesAt_1 : decode cX4_areLinesAt 1 = .ok (.istore_n 3, 1) := by decide +kernel
theorem dX4_areLinesAt_2 : decode cX4_areLinesAt 2 = .ok (.iload_n 3, 1) := by decide +kernel
theorem dX4_areLinesAt_3 : decode cX4_areLinesAt 3 = .ok (.aload_n 0, 1) := by decide +kernel
theorem dX4_areLinesAt_4 : decode cX4_areLinesAt 4 = .ok (.invokevirtual 46, 3) := by decide +kernel
theorem dX4_areLinesAt_7 : decode cX4_areLinesAt 7 = .ok (.if_icmp .ge 21, 3) := by decide +kernel
theorem dX4_areLinesAt_10 : decode cX4_areLinesAt 10 = .ok (.aload_n 0, 1) := by decide +kernel
theorem dX4_areLinesAt_11 : decode cX4_areLinesAt 11 = .ok (.iload_n 1, 1) := by decide +kernel
theorem dX4_areLinesAt_12 : decode cX4_areLinesAt 12 = .ok (.iload_n 3, 1) := by decide +kernel
theorem dX4_areLinesAt_13 : decode cX4_areLinesAt 13 = .ok (.invokevirtual 15, 3) := by decide +kernel
theorem dX4_areLinesAt_16 : decode cX4_areLinesAt 16 = .ok (.iload_n 2, 1) := by decide +kernel
theorem dX4_areLinesAt_17 : decode cX4_areLinesAt 17 = .ok (.if_icmp .eq 5, 3) := by decide +kernel
theorem dX4_areLinesAt_20 : decode cX4_areLinesAt 20 = .ok (.iconst 0, 1) := by decide +kernel
theorem dX4_areLinesAt_21 : decode cX4_areLinesAt 21 = .ok (.ireturn, 1) := by decide +kernel
theorem dX4_areLinesAt_22 : decode cX4_areLinesAt 22 = .ok (.iinc 3 1, 3) := by decide +kernel
theorem dX4_areLinesAt_25 : decode cX4_areLinesAt 25 = .ok (.goto (-23), 3) := by decide +kernel
theorem dX4_areLinesAt_28 : decode cX4_areLinesAt 28 = .ok (.iconst 1, 1) := by decide +kernel
theorem dX4_areLinesAt_29 : decode cX4_areLinesAt 29 = .ok (.ireturn, 1) := by decide +kernel
theorem dX4_areOppositesAlike_0 : decode cX4_areOppositesAlike 0 = .ok (.aload_n 0, 1) := by decide +kernel
theorem dX4_areOppositesAlike_1 : decode cX4_areOppositesAlike 1 = .ok (.invokevirtual 28, 3) := by decide +kernel
theorem dX4_areOppositesAlike_4 : decode cX4_areOppositesAlike 4 = .ok (.iconst 1, 1) := by decide +kernel
theorem dX4_areOppositesAlike_5 : decode cX4_areOppositesAlike 5 = .ok (.isub, 1) := by decide +kernel
theorem dX4_areOppositesAlike_6 : decode cX4_areOppositesAlike 6 = .ok (.istore_n 1, 1) := by decide +kernel
theorem dX4_areOppositesAlike_7 : decode cX4_areOppositesAlike 7 = .ok (.aload_n 0, 1) := by decide +kernel
theorem dX4_areOppositesAlike_8 : decode cX4_areOppositesAlike 8 = .ok (.iconst 0, 1) := by decide +kernel
theorem dX4_areOppositesAlike_9 : decode cX4_areOppositesAlike 9 = .ok (.invokevirtual 49, 3) := by decide +kernel
theorem dX4_areOppositesAlike_12 : decode cX4_areOppositesAlike 12 = .ok (.aload_n 0, 1) := by decide +kernel
theorem dX4_areOppositesAlike_13 : decode cX4_areOppositesAlike 13 = .ok (.iload_n 1, 1) := by decide +kernel
theorem dX4_areOppositesAlike_14 : decode cX4_areOppositesAlike 14 = .ok (.invokevirtual 49, 3) := by decide +kernel
theorem dX4_areOppositesAlike_17 : decode cX4_areOppositesAlike 17 = .ok (.iadd, 1) := by decide +kernel
theorem dX4_areOppositesAlike_18 : decode cX4_areOppositesAlike 18 = .ok (.istore_n 2, 1) := by decide +kernel
theorem dX4_areOppositesAlike_19 : decode cX4_areOppositesAlike 19 = .ok (.iconst 0, 1) := by decide +kernel
theorem dX4_areOppositesAlike_20 : decode cX4_areOppositesAlike 20 = .ok (.istore_n 3, 1) := by decide +kernel
theorem dX4_areOppositesAlike_21 : decode cX4_areOppositesAlike 21 = .ok (.iload_n 3, 1) := by decide +kernel
theorem dX4_areOppositesAlike_22 : decode cX4_areOppositesAlike 22 = .ok (.iload_n 1, 1) := by decide +kernel
theorem dX4_areOppositesAlike_23 : decode cX4_areOppositesAlike 23 = .ok (.if_icmp .gt 28, 3) := by decide +kernel
theorem dX4_areOppositesAlike_26 : decode cX4_areOppositesAlike 26 = .ok (.aload_n 0, 1) := by decide +kernel
theorem dX4_areOppositesAlike_27 : decode cX4_areOppositesAlike 27 = .ok (.iload_n 3, 1) := by decide +kernel
theorem dX4_areOppositesAlike_28 : decode cX4_areOppositesAlike 28 = .ok (.invokevirtual 49, 3) := by decide +kernel
theorem dX4_areOppositesAlike_31 : decode cX4_areOppositesAlike 31 = .ok (.aload_n 0, 1) := by decide +kernel
theorem dX4_areOppositesAlike_32 : decode cX4_areOppositesAlike 32 = .ok (.iload_n 1, 1) := by decide +kernel
theorem dX4_areOppositesAlike_33 : decode cX4_areOppositesAlike 33 = .ok (.iload_n 3, 1) := by decide +kernel
theorem dX4_areOppositesAlike_34 : decode cX4_areOppositesAlike 34 = .ok (.isub, 1) := by decide +kernel
theorem dX4_areOppositesAlike_35 : decode cX4_areOppositesAlike 35 = .ok (.invokevirtual 49, 3) := by decide +kernel
theorem dX4_areOppositesAlike_38 : decode cX4_areOppositesAlike 38 = .ok (.iadd, 1) := by decide +kernel
theorem dX4_areOppositesAlike_39 : decode cX4_areOppositesAlike 39 = .ok (.iload_n 2, 1) := by decide +kernel
theorem dX4_areOppositesAlike_40 : decode cX4_areOppositesAlike 40 = .ok (.if_icmp .eq 5, 3) := by decide +kernel
theorem dX4_areOppositesAlike_43 : decode cX4_areOppositesAlike 43 = .ok (.iconst 0, 1) := by decide +kernel
theorem dX4_areOppositesAlike_44 : decode cX4_areOppositesAlike 44 = .ok (.ireturn, 1) := by decide +kernel
theorem dX4_areOppositesAlike_45 : decode cX4_areOppositesAlike 45 = .ok (.iinc 3 1, 3) := by decide +kernel
theorem dX4_areOppositesAlike_48 : decode cX4_areOppositesAlike 48 = .ok (.goto (-27), 3) := by decide +kernel
theorem dX4_areOppositesAlike_51 : decode cX4_areOppositesAlike 51 = .ok (.iconst 1, 1) := by decide +kernel
theorem dX4_areOppositesAlike_52 : decode cX4_areOppositesAlike 52 = .ok (.ireturn, 1) := by decide +kernel
theorem dX4_arePowersAlike_0 : decode cX4_arePowersAlike 0 = .ok (.aload_n 0, 1) := by decide +kernel
theorem dX4_arePowersAlike_1 : decode cX4_arePowersAlike 1 = .ok (.iconst 0, 1) := by decide +kernel
theorem dX4_arePowersAlike_2 : decode cX4_arePowersAlike 2 = .ok (.iconst 0, 1) := by decide +kernel
theorem dX4_arePowersAlike_3 : decode cX4_arePowersAlike 3 = .ok (.invokevirtual 52, 3) := by decide +kernel
theorem dX4_arePowersAlike_6 : decode cX4_arePowersAlike 6 = .ok (.istore_n 1, 1) := by decide +kernel
theorem dX4_arePowersAlike_7 : decode cX4_arePowersAlike 7 = .ok (.iconst 0, 1) := by decide +kernel
theorem dX4_arePowersAlike_8 : decode cX4_arePowersAlike 8 = .ok (.istore_n 2, 1) := by decide +kernel
theorem dX4_arePowersAlike_9 : decode cX4_arePowersAlike 9 = .ok (.iload_n 2, 1) := by decide +kernel
theorem dX4_arePowersAlike_10 : decode cX4_arePowersAlike 10 = .ok (.aload_n 0, 1) := by decide +kernel
theorem dX4_arePowersAlike_11 : decode cX4_arePowersAlike 11 = .ok (.invokevirtual 46, 3) := by decide +kernel
theorem dX4_arePowersAlike_14 : decode cX4_arePowersAlike 14 = .ok (.if_icmp .ge 31, 3) := by decide +kernel
theorem dX4_arePowersAlike_17 : decode cX4_arePowersAlike 17 = .ok (.aload_n 0, 1) := by decide +kernel
theorem dX4_arePowersAlike_18 : decode cX4_arePowersAlike 18 = .ok (.iconst 0, 1) := by decide +kernel
theorem dX4_arePowersAlike_19 : decode cX4_arePowersAlike 19 = .ok (.iload_n 2, 1) := by decide +kernel
theorem dX4_arePowersAlike_20 : decode cX4_arePowersAlike 20 = .ok (.invokevirtual 52, 3) := by decide +kernel
theorem dX4_arePowersAlike_23 : decode cX4_arePowersAlike 23 = .ok (.iload_n 1, 1) := by decide +kernel
theorem dX4_arePowersAlike_24 : decode cX4_arePowersAlike 24 = .ok (.if_icmp .ne 13, 3) := by decide +kernel
theorem dX4_arePowersAlike_27 : decode cX4_arePowersAlike 27 = .ok (.aload_n 0, 1) := by decide +kernel
theorem dX4_arePowersAlike_28 : decode cX4_arePowersAlike 28 = .ok (.iconst 1, 1) := by decide +kernel
theorem dX4_arePowersAlike_29 : decode cX4_arePowersAlike 29 = .ok (.iload_n 2, 1) := by decide +kernel
theorem dX4_arePowersAlike_30 : decode cX4_arePowersAlike 30 = .ok (.invokevirtual 52, 3) := by decide +kernel
theorem dX4_arePowersAlike_33 : decode cX4_arePowersAlike 33 = .ok (.iload_n 1, 1) := by decide +kernel
theorem dX4_arePowersAlike_34 : decode cX4_arePowersAlike 34 = .ok (.if_icmp .eq 5, 3) := by decide +kernel
theorem dX4_arePowersAlike_37 : decode cX4_arePowersAlike 37 = .ok (.iconst 0, 1) := by decide +kernel
theorem dX4_arePowersAlike_38 : decode cX4_arePowersAlike 38 = .ok (.ireturn, 1) := by decide +kernel
theorem dX4_arePowersAlike_39 : decode cX4_arePowersAlike 39 = .ok (.iinc 2 1, 3) := by decide +kernel
theorem dX4_arePowersAlike_42 : decode cX4_arePowersAlike 42 = .ok (.goto (-33), 3) := by decide +kernel
theorem dX4_arePowersAlike_45 : decode cX4_arePowersAlike 45 = .ok (.iconst 1, 1) := by decide +kernel
theorem dX4_arePowersAlike_46 : decode cX4_arePowersAlike 46 = .ok (.ireturn, 1) := by decide +kernel
theorem dX5_holdsFor_0 : decode cX5_holdsFor 0 = .ok (.iload_n 0, 1) := by decide +kernel
theorem dX5_holdsFor_1 : decode cX5_holdsFor 1 = .ok (.tableswitch 92 0 3 #[31, 44, 61, 80], 31) := by decide +kernel
theorem dX5_holdsFor_32 : decode cX5_holdsFor 32 = .ok (.iload_n 1, 1) := by decide +kernel
theorem dX5_holdsFor_33 : decode cX5_holdsFor 33 = .ok (.iconst 2, 1) := by decide +kernel
theorem dX5_holdsFor_34 : decode cX5_holdsFor 34 = .ok (.irem, 1) := by decide +kernel
theorem dX5_holdsFor_35 : decode cX5_holdsFor 35 = .ok (.iconst 1, 1) := by decide +kernel
theorem dX5_holdsFor_36 : decode cX5_holdsFor 36 = .ok (.if_icmp .ne 7, 3) := by decide +kernel
theorem dX5_holdsFor_39 : decode cX5_holdsFor 39 = .ok (.iconst 1, 1) := by decide +kernel
theorem dX5_holdsFor_40 : decode cX5_holdsFor 40 = .ok (.goto 4, 3) := by decide +kernel
theorem dX5_holdsFor_43 : decode cX5_holdsFor 43 = .ok (.iconst 0, 1) := by decide +kernel
theorem dX5_holdsFor_44 : decode cX5_holdsFor 44 = .ok (.ireturn, 1) := by decide +kernel
theorem dX5_holdsFor_45 : decode cX5_holdsFor 45 = .ok (.iload_n 1, 1) := by decide +kernel
theorem dX5_holdsFor_46 : decode cX5_holdsFor 46 = .ok (.iconst 4, 1) := by decide +kernel
theorem dX5_holdsFor_47 : decode cX5_holdsFor 47 = .ok (.if_icmp .eq 9, 3) := by decide +kernel
theorem dX5_holdsFor_50 : decode cX5_holdsFor 50 = .ok (.iload_n 1, 1) := by decide +kernel
theorem dX5_holdsFor_51 : decode cX5_holdsFor 51 = .ok (.bipush 8, 2) := by decide +kernel
theorem dX5_holdsFor_53 : decode cX5_holdsFor 53 = .ok (.if_icmp .ne 7, 3) := by decide +kernel
theorem dX5_holdsFor_56 : decode cX5_holdsFor 56 = .ok (.iconst 1, 1) := by decide +kernel
theorem dX5_holdsFor_57 : decode cX5_holdsFor 57 = .ok (.goto 4, 3) := by decide +kernel
theorem dX5_holdsFor_60 : decode cX5_holdsFor 60 = .ok (.iconst 0, 1) := by decide +kernel
theorem dX5_holdsFor_61 : decode cX5_holdsFor 61 = .ok (.ireturn, 1) := by decide +kernel
theorem dX5_holdsFor_62 : decode cX5_holdsFor 62 = .ok (.iload_n 1, 1) := by decide +kernel
theorem dX5_holdsFor_63 : decode cX5_holdsFor 63 = .ok (.iconst 2, 1) := by decide +kernel
theorem dX5_holdsFor_64 : decode cX5_holdsFor 64 = .ok (.irem, 1) := by decide +kernel
theorem dX5_holdsFor_65 : decode cX5_holdsFor 65 = .ok (.iconst 1, 1) := by decide +kernel
theorem dX5_holdsFor_66 : decode cX5_holdsFor 66 = .ok (.if_icmp .ne 13, 3) := by decide +kernel
theorem dX5_holdsFor_69 : decode cX5_holdsFor 69 = .ok (.iload_n 1, 1) := by decide +kernel
theorem dX5_holdsFor_70 : decode cX5_holdsFor 70 = .ok (.iconst 3, 1) := by decide +kernel
theorem dX5_holdsFor_71 : decode cX5_holdsFor 71 = .ok (.irem, 1) := by decide +kernel
theorem dX5_holdsFor_72 : decode cX5_holdsFor 72 = .ok (.ifCond .eq 7, 3) := by decide +kernel
theorem dX5_holdsFor_75 : decode cX5_holdsFor 75 = .ok (.iconst 1, 1) := by decide +kernel
theorem dX5_holdsFor_76 : decode cX5_holdsFor 76 = .ok (.goto 4, 3) := by decide +kernel
theorem dX5_holdsFor_79 : decode cX5_holdsFor 79 = .ok (.iconst 0, 1) := by decide +kernel
theorem dX5_holdsFor_80 : decode cX5_holdsFor 80 = .ok (.ireturn, 1) := by decide +kernel
theorem dX5_holdsFor_81 : decode cX5_holdsFor 81 = .ok (.iload_n 1, 1) := by decide +kernel
theorem dX5_holdsFor_82 : decode cX5_holdsFor 82 = .ok (.bipush 6, 2) := by decide +kernel
theorem dX5_holdsFor_84 : decode cX5_holdsFor 84 = .ok (.if_icmp .ne 7, 3) := by decide +kernel
theorem dX5_holdsFor_87 : decode cX5_holdsFor 87 = .ok (.iconst 1, 1) := by decide +kernel
theorem dX5_holdsFor_88 : decode cX5_holdsFor 88 = .ok (.goto 4, 3) := by decide +kernel
theorem dX5_holdsFor_91 : decode cX5_holdsFor 91 = .ok (.iconst 0, 1) := by decide +kernel
theorem dX5_holdsFor_92 : decode cX5_holdsFor 92 = .ok (.ireturn, 1) := by decide +kernel
theorem dX5_holdsFor_93 : decode cX5_holdsFor 93 = .ok (.iconst 0, 1) := by decide +kernel
theorem dX5_holdsFor_94 : decode cX5_holdsFor 94 = .ok (.ireturn, 1) := by decide +kernel
theorem dX5_lay_0 : decode cX5_lay 0 = .ok (.iload_n 0, 1) := by decide +kernel
theorem dX5_lay_1 : decode cX5_lay 1 = .ok (.tableswitch 48 0 2 #[27, 34, 41], 27) := by decide +kernel
theorem dX5_lay_28 : decode cX5_lay 28 = .ok (.aload_n 1, 1) := by decide +kernel
theorem dX5_lay_29 : decode cX5_lay 29 = .ok (.invokestatic 9, 3) := by decide +kernel
theorem dX5_lay_32 : decode cX5_lay 32 = .ok (.goto 22, 3) := by decide +kernel
theorem dX5_lay_35 : decode cX5_lay 35 = .ok (.aload_n 1, 1) := by decide +kernel
theorem dX5_lay_36 : decode cX5_lay 36 = .ok (.invokestatic 15, 3) := by decide +kernel
theorem dX5_lay_39 : decode cX5_lay 39 = .ok (.goto 15, 3) := by decide +kernel
theorem dX5_lay_42 : decode cX5_lay 42 = .ok (.aload_n 1, 1) := by decide +kernel
theorem dX5_lay_43 : decode cX5_lay 43 = .ok (.invokestatic 18, 3) := by decide +kernel
theorem dX5_lay_46 : decode cX5_lay 46 = .ok (.goto 8, 3) := by decide +kernel
theorem dX5_lay_49 : decode cX5_lay 49 = .ok (.aload_n 1, 1) := by decide +kernel
theorem dX5_lay_50 : decode cX5_lay 50 = .ok (.aload_n 2, 1) := by decide +kernel
theorem dX5_lay_51 : decode cX5_lay 51 = .ok (.invokestatic 21, 3) := by decide +kernel
theorem dX5_lay_54 : decode cX5_lay 54 = .ok (.return_, 1) := by decide +kernel
theorem dX5_laySiege_0 : decode cX5_laySiege 0 = .ok (.aload_n 0, 1) := by decide +kernel
theorem dX5_laySiege_1 : decode cX5_laySiege 1 = .ok (.invokevirtual 25, 3) := by decide +kernel
theorem dX5_laySiege_4 : decode cX5_laySiege 4 = .ok (.istore_n 1, 1) := by decide +kernel
theorem dX5_laySiege_5 : decode cX5_laySiege 5 = .ok (.iconst 0, 1) := by decide +kernel
theorem dX5_laySiege_6 : decode cX5_laySiege 6 = .ok (.istore_n 2, 1) := by decide +kernel
theorem dX5_laySiege_7 : decode cX5_laySiege 7 = .ok (.iload_n 1, 1) := by decide +kernel
theorem dX5_laySiege_8 : decode cX5_laySiege 8 = .ok (.iconst 2, 1) := by decide +kernel
theorem dX5_laySiege_9 : decode cX5_laySiege 9 = .ok (.idiv, 1) := by decide +kernel
theorem dX5_laySiege_10 : decode cX5_laySiege 10 = .ok (.istore_n 3, 1) := by decide +kernel
theorem dX5_laySiege_11 : decode cX5_laySiege 11 = .ok (.iconst 1, 1) := by decide +kernel
theorem dX5_laySiege_12 : decode cX5_laySiege 12 = .ok (.istore 4, 2) := by decide +kernel
theorem dX5_laySiege_14 : decode cX5_laySiege 14 = .ok (.iload 4, 2) := by decide +kernel
theorem dX5_laySiege_16 : decode cX5_laySiege 16 = .ok (.aload_n 0, 1) := by decide +kernel
theorem dX5_laySiege_17 : decode cX5_laySiege 17 = .ok (.invokevirtual 31, 3) := by decide +kernel
theorem dX5_laySiege_20 : decode cX5_laySiege 20 = .ok (.if_icmp .gt 72, 3) := by decide +kernel
theorem dX5_laySiege_23 : decode cX5_laySiege 23 = .ok (.aload_n 0, 1) := by decide +kernel
theorem dX5_laySiege_24 : decode cX5_laySiege 24 = .ok (.aload_n 0, 1) := by decide +kernel
theorem dX5_laySiege_25 : decode cX5_laySiege 25 = .ok (.iload_n 2, 1) := by decide +kernel
theorem dX5_laySiege_26 : decode cX5_laySiege 26 = .ok (.iload_n 3, 1) := by decide +kernel
theorem dX5_laySiege_27 : decode cX5_laySiege 27 = .ok (.invokevirtual 34, 3) := by decide +kernel
theorem dX5_laySiege_30 : decode cX5_laySiege 30 = .ok (.iload 4, 2) := by decide +kernel
theorem dX5_laySiege_32 : decode cX5_laySiege 32 = .ok (.invokevirtual 38, 3) := by decide +kernel
theorem dX5_laySiege_35 : decode cX5_laySiege 35 = .ok (.pop, 1) := by decide +kernel
theorem dX5_laySiege_36 : decode cX5_laySiege 36 = .ok (.iload_n 2, 1) := by decide +kernel
theorem dX5_laySiege_37 : decode cX5_laySiege 37 = .ok (.iconst 1, 1) := by decide +kernel
theorem dX5_laySiege_38 : decode cX5_laySiege 38 = .ok (.isub, 1) := by decide +kernel
theorem dX5_laySiege_39 : decode cX5_laySiege 39 = .ok (.iload_n 1, 1) := by decide +kernel
theorem dX5_laySiege_40 : decode cX5_laySiege 40 = .ok (.invokestatic 41, 3) := by decide +kernel
theorem dX5_laySiege_43 : decode cX5_laySiege 43 = .ok (.istore 5, 2) := by decide +kernel
theorem dX5_laySiege_45 : decode cX5_laySiege 45 = .ok (.iload_n 3, 1) := by decide +kernel
theorem dX5_laySiege_46 : decode cX5_laySiege 46 = .ok (.iconst 1, 1) := by decide +kernel
theorem dX5_laySiege_47 : decode cX5_laySiege 47 = .ok (.iadd, 1) := by decide +kernel
theorem dX5_laySiege_48 : decode cX5_laySiege 48 = .ok (.iload_n 1, 1) := by decide +kernel
theorem dX5_laySiege_49 : decode cX5_laySiege 49 = .ok (.invokestatic 41, 3) := by decide +kernel
theorem dX5_laySiege_52 : decode cX5_laySiege 52 = .ok (.istore 6, 2) := by decide +kernel
theorem dX5_laySiege_54 : decode cX5_laySiege 54 = .ok (.aload_n 0, 1) := by decide +kernel
theorem dX5_laySiege_55 : decode cX5_laySiege 55 = .ok (.aload_n 0, 1) := by decide +kernel
theorem dX5_laySiege_56 : decode cX5_laySiege 56 = .ok (.iload 5, 2) := by decide +kernel
theorem dX5_laySiege_58 : decode cX5_laySiege 58 = .ok (.iload 6, 2) := by decide +kernel
theorem dX5_laySiege_60 : decode cX5_laySiege 60 = .ok (.invokevirtual 34, 3) := by decide +kernel
theorem dX5_laySiege_63 : decode cX5_laySiege 63 = .ok (.invokevirtual 46, 3) := by decide +kernel
theorem dX5_laySiege_66 : decode cX5_laySiege 66 = .ok (.ifCond .ne 12, 3) := by decide +kernel
theorem dX5_laySiege_69 : decode cX5_laySiege 69 = .ok (.iload 5, 2) := by decide +kernel
theorem dX5_laySiege_71 : decode cX5_laySiege 71 = .ok (.istore_n 2, 1) := by decide +kernel
theorem dX5_laySiege_72 : decode cX5_laySiege 72 = .ok (.iload 6, 2) := by decide +kernel
theorem dX5_laySiege_74 : decode cX5_laySiege 74 = .ok (.istore_n 3, 1) := by decide +kernel
theorem dX5_laySiege_75 : decode cX5_laySiege 75 = .ok (.goto 11, 3) := by decide +kernel
theorem dX5_laySiege_78 : decode cX5_laySiege 78 = .ok (.iload_n 2, 1) := by decide +kernel
theorem dX5_laySiege_79 : decode cX5_laySiege 79 = .ok (.iconst 1, 1) := by decide +kernel
theorem dX5_laySiege_80 : decode cX5_laySiege 80 = .ok (.iadd, 1) := by decide +kernel
theorem dX5_laySiege_81 : decode cX5_laySiege 81 = .ok (.iload_n 1, 1) := by decide +kernel
theorem dX5_laySiege_82 : decode cX5_laySiege 82 = .ok (.invokestatic 41, 3) := by decide +kernel
theorem dX5_laySiege_85 : decode cX5_laySiege 85 = .ok (.istore_n 2, 1) := by decide +kernel
theorem dX5_laySiege_86 : decode cX5_laySiege 86 = .ok (.iinc 4 1, 3) := by decide +kernel
theorem dX5_laySiege_89 : decode cX5_laySiege 89 = .ok (.goto (-75), 3) := by decide +kernel
theorem dX5_laySiege_92 : decode cX5_laySiege 92 = .ok (.return_, 1) := by decide +kernel
theorem dX5_layCross_0 : decode cX5_layCross 0 = .ok (.aload_n 0, 1) := by decide +kernel
theorem dX5_layCross_1 : decode cX5_layCross 1 = .ok (.invokevirtual 25, 3) := by decide +kernel
theorem dX5_layCross_4 : decode cX5_layCross 4 = .ok (.istore_n 1, 1) := by decide +kernel
theorem dX5_layCross_5 : decode cX5_layCross 5 = .ok (.iconst 0, 1) := by decide +kernel
theorem dX5_layCross_6 : decode cX5_layCross 6 = .ok (.istore_n 2, 1) := by decide +kernel
theorem dX5_layCross_7 : decode cX5_layCross 7 = .ok (.iload_n 2, 1) := by decide +kernel
theorem dX5_layCross_8 : decode cX5_layCross 8 = .ok (.aload_n 0, 1) := by decide +kernel
theorem dX5_layCross_9 : decode cX5_layCross 9 = .ok (.invokevirtual 31, 3) := by decide +kernel
theorem dX5_layCross_12 : decode cX5_layCross 12 = .ok (.if_icmp .ge 70, 3) := by decide +kernel
theorem dX5_layCross_15 : decode cX5_layCross 15 = .ok (.iload_n 1, 1) := by decide +kernel
theorem dX5_layCross_16 : decode cX5_layCross 16 = .ok (.iload_n 2, 1) := by decide +kernel
theorem dX5_layCross_17 : decode cX5_layCross 17 = .ok (.invokestatic 50, 3) := by decide +kernel
theorem dX5_layCross_20 : decode cX5_layCross 20 = .ok (.iconst 4, 1) := by decide +kernel
theorem dX5_layCross_21 : decode cX5_layCross 21 = .ok (.irem, 1) := by decide +kernel
theorem dX5_layCross_22 : decode cX5_layCross 22 = .ok (.istore_n 3, 1) := by decide +kernel
theorem dX5_layCross_23 : decode cX5_layCross 23 = .ok (.iload_n 1, 1) := by decide +kernel
theorem dX5_layCross_24 : decode cX5_layCross 24 = .ok (.iload_n 2, 1) := by decide +kernel
theorem dX5_layCross_25 : decode cX5_layCross 25 = .ok (.invokestatic 53, 3) := by decide +kernel
theorem dX5_layCross_28 : decode cX5_layCross 28 = .ok (.iconst 4, 1) := by decide +kernel
theorem dX5_layCross_29 : decode cX5_layCross 29 = .ok (.irem, 1) := by decide +kernel
theorem dX5_layCross_30 : decode cX5_layCross 30 = .ok (.istore 4, 2) := by decide +kernel
theorem dX5_layCross_32 : decode cX5_layCross 32 = .ok (.iload_n 3, 1) := by decide +kernel
theorem dX5_layCross_33 : decode cX5_layCross 33 = .ok (.iload 4, 2) := by decide +kernel
theorem dX5_layCross_35 : decode cX5_layCross 35 = .ok (.if_icmp .eq 11, 3) := by decide +kernel
theorem dX5_layCross_38 : decode cX5_layCross 38 = .ok (.iload_n 3, 1) := by decide +kernel
theorem dX5_layCross_39 : decode cX5_layCross 39 = .ok (.iload 4, 2) := by decide +kernel
theorem dX5_layCross_41 : decode cX5_layCross 41 = .ok (.iadd, 1) := by decide +kernel
theorem dX5_layCross_42 : decode cX5_layCross 42 = .ok (.iconst 3, 1) := by decide +kernel
theorem dX5_layCross_43 : decode cX5_layCross 43 = .ok (.if_icmp .ne 7, 3) := by decide +kernel
theorem dX5_layCross_46 : decode cX5_layCross 46 = .ok (.iconst 1, 1) := by decide +kernel
theorem dX5_layCross_47 : decode cX5_layCross 47 = .ok (.goto 4, 3) := by decide +kernel
theorem dX5_layCross_50 : decode cX5_layCross 50 = .ok (.iconst 0, 1) := by decide +kernel
theorem dX5_layCross_51 : decode cX5_layCross 51 = .ok (.istore 5, 2) := by decide +kernel
theorem dX5_layCross_53 : decode cX5_layCross 53 = .ok (.aload_n 0, 1) := by decide +kernel
theorem dX5_layCross_54 : decode cX5_layCross 54 = .ok (.iload_n 2, 1) := by decide +kernel
theorem dX5_layCross_55 : decode cX5_layCross 55 = .ok (.iload 5, 2) := by decide +kernel
theorem dX5_layCross_57 : decode cX5_layCross 57 = .ok (.ifCond .eq 12, 3) := by decide +kernel
theorem dX5_layCross_60 : decode cX5_layCross 60 = .ok (.aload_n 0, 1) := by decide +kernel
theorem dX5_layCross_61 : decode cX5_layCross 61 = .ok (.invokevirtual 31, 3) := by decide +kernel
theorem dX5_layCross_64 : decode cX5_layCross 64 = .ok (.iload_n 2, 1) := by decide +kernel
theorem dX5_layCross_65 : decode cX5_layCross 65 = .ok (.isub, 1) := by decide +kernel
theorem dX5_layCross_66 : decode cX5_layCross 66 = .ok (.goto 6, 3) := by decide +kernel
theorem dX5_layCross_69 : decode cX5_layCross 69 = .ok (.iload_n 2, 1) := by decide +kernel
theorem dX5_layCross_70 : decode cX5_layCross 70 = .ok (.iconst 1, 1) := by decide +kernel
theorem dX5_layCross_71 : decode cX5_layCross 71 = .ok (.iadd, 1) := by decide +kernel
theorem dX5_layCross_72 : decode cX5_layCross 72 = .ok (.invokevirtual 38, 3) := by decide +kernel
theorem dX5_layCross_75 : decode cX5_layCross 75 = .ok (.pop, 1) := by decide +kernel
theorem dX5_layCross_76 : decode cX5_layCross 76 = .ok (.iinc 2 1, 3) := by decide +kernel
theorem dX5_layCross_79 : decode cX5_layCross 79 = .ok (.goto (-72), 3) := by decide +kernel
theorem dX5_layCross_82 : decode cX5_layCross 82 = .ok (.return_, 1) := by decide +kernel
theorem dX5_layDigits_0 : decode cX5_layDigits 0 = .ok (.aload_n 0, 1) := by decide +kernel
theorem dX5_layDigits_1 : decode cX5_layDigits 1 = .ok (.invokevirtual 25, 3) := by decide +kernel
theorem dX5_layDigits_4 : decode cX5_layDigits 4 = .ok (.istore_n 1, 1) := by decide +kernel
theorem dX5_layDigits_5 : decode cX5_layDigits 5 = .ok (.iconst 0, 1) := by decide +kernel
theorem dX5_layDigits_6 : decode cX5_layDigits 6 = .ok (.istore_n 2, 1) := by decide +kernel
theorem dX5_layDigits_7 : decode cX5_layDigits 7 = .ok (.iload_n 2, 1) := by decide +kernel
theorem dX5_layDigits_8 : decode cX5_layDigits 8 = .ok (.iload_n 1, 1) := by decide +kernel
theorem dX5_layDigits_9 : decode cX5_layDigits 9 = .ok (.if_icmp .ge 64, 3) := by decide +kernel
theorem dX5_layDigits_12 : decode cX5_layDigits 12 = .ok (.iconst 0, 1) := by decide +kernel
theorem dX5_layDigits_13 : decode cX5_layDigits 13 = .ok (.istore_n 3, 1) := by decide +kernel
theorem dX5_layDigits_14 : decode cX5_layDigits 14 = .ok (.iload_n 3, 1) := by decide +kernel
theorem dX5_layDigits_15 : decode cX5_layDigits 15 = .ok (.iload_n 1, 1) := by decide +kernel
theorem dX5_layDigits_16 : decode cX5_layDigits 16 = .ok (.if_icmp .ge 51, 3) := by decide +kernel
theorem dX5_layDigits_19 : decode cX5_layDigits 19 = .ok (.iload_n 2, 1) := by decide +kernel
theorem dX5_layDigits_20 : decode cX5_layDigits 20 = .ok (.iconst 2, 1) := by decide +kernel
theorem dX5_layDigits_21 : decode cX5_layDigits 21 = .ok (.iload_n 3, 1) := by decide +kernel
theorem dX5_layDigits_22 : decode cX5_layDigits 22 = .ok (.imul, 1) := by decide +kernel
theorem dX5_layDigits_23 : decode cX5_layDigits 23 = .ok (.iadd, 1) := by decide +kernel
theorem dX5_layDigits_24 : decode cX5_layDigits 24 = .ok (.iload_n 1, 1) := by decide +kernel
theorem dX5_layDigits_25 : decode cX5_layDigits 25 = .ok (.invokestatic 41, 3) := by decide +kernel
theorem dX5_layDigits_28 : decode cX5_layDigits 28 = .ok (.istore 4, 2) := by decide +kernel
theorem dX5_layDigits_30 : decode cX5_layDigits 30 = .ok (.iconst 2, 1) := by decide +kernel
theorem dX5_layDigits_31 : decode cX5_layDigits 31 = .ok (.iload_n 2, 1) := by decide +kernel
theorem dX5_layDigits_32 : decode cX5_layDigits 32 = .ok (.imul, 1) := by decide +kernel
theorem dX5_layDigits_33 : decode cX5_layDigits 33 = .ok (.iload_n 3, 1) := by decide +kernel
theorem dX5_layDigits_34 : decode cX5_layDigits 34 = .ok (.iadd, 1) := by decide +kernel
theorem dX5_layDigits_35 : decode cX5_layDigits 35 = .ok (.iload_n 1, 1) := by decide +kernel
theorem dX5_layDigits_36 : decode cX5_layDigits 36 = .ok (.invokestatic 41, 3) := by decide +kernel
theorem dX5_layDigits_39 : decode cX5_layDigits 39 = .ok (.istore 5, 2) := by decide +kernel
theorem dX5_layDigits_41 : decode cX5_layDigits 41 = .ok (.aload_n 0, 1) := by decide +kernel
theorem dX5_layDigits_42 : decode cX5_layDigits 42 = .ok (.aload_n 0, 1) := by decide +kernel
theorem dX5_layDigits_43 : decode cX5_layDigits 43 = .ok (.iload_n 2, 1) := by decide +kernel
theorem dX5_layDigits_44 : decode cX5_layDigits 44 = .ok (.iload_n 3, 1) := by decide +kernel
theorem dX5_layDigits_45 : decode cX5_layDigits 45 = .ok (.invokevirtual 34, 3) := by decide +kernel
theorem dX5_layDigits_48 : decode cX5_layDigits 48 = .ok (.iload_n 1, 1) := by decide +kernel
theorem dX5_layDigits_49 : decode cX5_layDigits 49 = .ok (.iload 4, 2) := by decide +kernel
theorem dX5_layDigits_51 : decode cX5_layDigits 51 = .ok (.imul, 1) := by decide +kernel
theorem dX5_layDigits_52 : decode cX5_layDigits 52 = .ok (.iload 5, 2) := by decide +kernel
theorem dX5_layDigits_54 : decode cX5_layDigits 54 = .ok (.iadd, 1) := by decide +kernel
theorem dX5_layDigits_55 : decode cX5_layDigits 55 = .ok (.iconst 1, 1) := by decide +kernel
theorem dX5_layDigits_56 : decode cX5_layDigits 56 = .ok (.iadd, 1) := by decide +kernel
theorem dX5_layDigits_57 : decode cX5_layDigits 57 = .ok (.invokevirtual 38, 3) := by decide +kernel
theorem dX5_layDigits_60 : decode cX5_layDigits 60 = .ok (.pop, 1) := by decide +kernel
theorem dX5_layDigits_61 : decode cX5_layDigits 61 = .ok (.iinc 3 1, 3) := by decide +kernel
theorem dX5_layDigits_64 : decode cX5_layDigits 64 = .ok (.goto (-50), 3) := by decide +kernel
theorem dX5_layDigits_67 : decode cX5_layDigits 67 = .ok (.iinc 2 1, 3) := by decide +kernel
theorem dX5_layDigits_70 : decode cX5_layDigits 70 = .ok (.goto (-63), 3) := by decide +kernel
theorem dX5_layDigits_73 : decode cX5_layDigits 73 = .ok (.return_, 1) := by decide +kernel
theorem dX5_layLux_0 : decode cX5_layLux 0 = .ok (.aload_n 1, 1) := by decide +kernel
theorem dX5_layLux_1 : decode cX5_layLux 1 = .ok (.iconst 3, 1) := by decide +kernel
theorem dX5_layLux_2 : decode cX5_layLux 2 = .ok (.invokevirtual 56, 3) := by decide +kernel
theorem dX5_layLux_5 : decode cX5_layLux 5 = .ok (.aload_n 1, 1) := by decide +kernel
theorem dX5_layLux_6 : decode cX5_layLux 6 = .ok (.invokestatic 9, 3) := by decide +kernel
theorem dX5_layLux_9 : decode cX5_layLux 9 = .ok (.iconst 0, 1) := by decide +kernel
theorem dX5_layLux_10 : decode cX5_layLux 10 = .ok (.istore_n 2, 1) := by decide +kernel
theorem dX5_layLux_11 : decode cX5_layLux 11 = .ok (.iload_n 2, 1) := by decide +kernel
theorem dX5_layLux_12 : decode cX5_layLux 12 = .ok (.iconst 3, 1) := by decide +kernel
theorem dX5_layLux_13 : decode cX5_layLux 13 = .ok (.if_icmp .ge 163, 3) := by decide +kernel
theorem dX5_layLux_16 : decode cX5_layLux 16 = .ok (.iconst 0, 1) := by decide +kernel
theorem dX5_layLux_17 : decode cX5_layLux 17 = .ok (.istore_n 3, 1) := by decide +kernel
theorem dX5_layLux_18 : decode cX5_layLux 18 = .ok (.iload_n 3, 1) := by decide +kernel
theorem dX5_layLux_19 : decode cX5_layLux 19 = .ok (.iconst 3, 1) := by decide +kernel
theorem dX5_layLux_20 : decode cX5_layLux 20 = .ok (.if_icmp .ge 150, 3) := by decide +kernel
theorem dX5_layLux_23 : decode cX5_layLux 23 = .ok (.iconst 4, 1) := by decide +kernel
theorem dX5_layLux_24 : decode cX5_layLux 24 = .ok (.aload_n 1, 1) := by decide +kernel
theorem dX5_layLux_25 : decode cX5_layLux 25 = .ok (.aload_n 1, 1) := by decide +kernel
theorem dX5_layLux_26 : decode cX5_layLux 26 = .ok (.iload_n 2, 1) := by decide +kernel
theorem dX5_layLux_27 : decode cX5_layLux 27 = .ok (.iload_n 3, 1) := by decide +kernel
theorem dX5_layLux_28 : decode cX5_layLux 28 = .ok (.invokevirtual 34, 3) := by decide +kernel
theorem dX5_layLux_31 : decode cX5_layLux 31 = .ok (.invokevirtual 46, 3) := by decide +kernel
theorem dX5_layLux_34 : decode cX5_layLux 34 = .ok (.iconst 1, 1) := by decide +kernel
theorem dX5_layLux_35 : decode cX5_layLux 35 = .ok (.isub, 1) := by decide +kernel
theorem dX5_layLux_36 : decode cX5_layLux 36 = .ok (.imul, 1) := by decide +kernel
theorem dX5_layLux_37 : decode cX5_layLux 37 = .ok (.istore 4, 2) := by decide +kernel
theorem dX5_layLux_39 : decode cX5_layLux 39 = .ok (.iload_n 2, 1) := by decide +kernel
theorem dX5_layLux_40 : decode cX5_layLux 40 = .ok (.iconst 1, 1) := by decide +kernel
theorem dX5_layLux_41 : decode cX5_layLux 41 = .ok (.if_icmp .ne 8, 3) := by decide +kernel
theorem dX5_layLux_44 : decode cX5_layLux 44 = .ok (.iload_n 3, 1) := by decide +kernel
theorem dX5_layLux_45 : decode cX5_layLux 45 = .ok (.iconst 1, 1) := by decide +kernel
theorem dX5_layLux_46 : decode cX5_layLux 46 = .ok (.if_icmp .eq 13, 3) := by decide +kernel
theorem dX5_layLux_49 : decode cX5_layLux 49 = .ok (.iload_n 2, 1) := by decide +kernel
theorem dX5_layLux_50 : decode cX5_layLux 50 = .ok (.iconst 2, 1) := by decide +kernel
theorem dX5_layLux_51 : decode cX5_layLux 51 = .ok (.if_icmp .ne 12, 3) := by decide +kernel
theorem dX5_layLux_54 : decode cX5_layLux 54 = .ok (.iload_n 3, 1) := by decide +kernel
theorem dX5_layLux_55 : decode cX5_layLux 55 = .ok (.iconst 1, 1) := by decide +kernel
theorem dX5_layLux_56 : decode cX5_layLux 56 = .ok (.if_icmp .eq 7, 3) := by decide +kernel
theorem dX5_layLux_59 : decode cX5_layLux 59 = .ok (.iconst 1, 1) := by decide +kernel
theorem dX5_layLux_60 : decode cX5_layLux 60 = .ok (.goto 4, 3) := by decide +kernel
theorem dX5_layLux_63 : decode cX5_layLux 63 = .ok (.iconst 0, 1) := by decide +kernel
theorem dX5_layLux_64 : decode cX5_layLux 64 = .ok (.istore 5, 2) := by decide +kernel
theorem dX5_layLux_66 : decode cX5_layLux 66 = .ok (.aload_n 0, 1) := by decide +kernel
theorem dX5_layLux_67 : decode cX5_layLux 67 = .ok (.iconst 2, 1) := by decide +kernel
theorem dX5_layLux_68 : decode cX5_layLux 68 = .ok (.iload_n 2, 1) := by decide +kernel
theorem dX5_layLux_69 : decode cX5_layLux 69 = .ok (.imul, 1) := by decide +kernel
theorem dX5_layLux_70 : decode cX5_layLux 70 = .ok (.iconst 2, 1) := by decide +kernel
theorem dX5_layLux_71 : decode cX5_layLux 71 = .ok (.iload_n 3, 1) := by decide +kernel
theorem dX5_layLux_72 : decode cX5_layLux 72 = .ok (.imul, 1) := by decide +kernel
theorem dX5_layLux_73 : decode cX5_layLux 73 = .ok (.invokevirtual 34, 3) := by decide +kernel
theorem dX5_layLux_76 : decode cX5_layLux 76 = .ok (.istore 6, 2) := by decide +kernel
theorem dX5_layLux_78 : decode cX5_layLux 78 = .ok (.aload_n 0, 1) := by decide +kernel
theorem dX5_layLux_79 : decode cX5_layLux 79 = .ok (.iconst 2, 1) := by decide +kernel
theorem dX5_layLux_80 : decode cX5_layLux 80 = .ok (.iload_n 2, 1) := by decide +kernel
theorem dX5_layLux_81 : decode cX5_layLux 81 = .ok (.imul, 1) := by decide +kernel
theorem dX5_layLux_82 : decode cX5_layLux 82 = .ok (.iconst 1, 1) := by decide +kernel
theorem dX5_layLux_83 : decode cX5_layLux 83 = .ok (.iadd, 1) := by decide +kernel
theorem dX5_layLux_84 : decode cX5_layLux 84 = .ok (.iconst 2, 1) := by decide +kernel
theorem dX5_layLux_85 : decode cX5_layLux 85 = .ok (.iload_n 3, 1) := by decide +kernel
theorem dX5_layLux_86 : decode cX5_layLux 86 = .ok (.imul, 1) := by decide +kernel
theorem dX5_layLux_87 : decode cX5_layLux 87 = .ok (.invokevirtual 34, 3) := by decide +kernel
theorem dX5_layLux_90 : decode cX5_layLux 90 = .ok (.istore 7, 2) := by decide +kernel
theorem dX5_layLux_92 : decode cX5_layLux 92 = .ok (.aload_n 0, 1) := by decide +kernel
theorem dX5_layLux_93 : decode cX5_layLux 93 = .ok (.iload 6, 2) := by decide +kernel
theorem dX5_layLux_95 : decode cX5_layLux 95 = .ok (.iload 5, 2) := by decide +kernel
theorem dX5_layLux_97 : decode cX5_layLux 97 = .ok (.ifCond .eq 10, 3) := by decide +kernel
theorem dX5_layLux_100 : decode cX5_layLux 100 = .ok (.iload 4, 2) := by decide +kernel
theorem dX5_layLux_102 : decode cX5_layLux 102 = .ok (.iconst 1, 1) := by decide +kernel
theorem dX5_layLux_103 : decode cX5_layLux 103 = .ok (.iadd, 1) := by decide +kernel
theorem dX5_layLux_104 : decode cX5_layLux 104 = .ok (.goto 7, 3) := by decide +kernel
theorem dX5_layLux_107 : decode cX5_layLux 107 = .ok (.iload 4, 2) := by decide +kernel
theorem dX5_layLux_109 : decode cX5_layLux 109 = .ok (.iconst 4, 1) := by decide +kernel
theorem dX5_layLux_110 : decode cX5_layLux 110 = .ok (.iadd, 1) := by decide +kernel
theorem dX5_layLux_111 : decode cX5_layLux 111 = .ok (.invokevirtual 38, 3) := by decide +kernel
theorem dX5_layLux_114 : decode cX5_layLux 114 = .ok (.pop, 1) := by decide +kernel
theorem dX5_layLux_115 : decode cX5_layLux 115 = .ok (.aload_n 0, 1) := by decide +kernel
theorem dX5_layLux_116 : decode cX5_layLux 116 = .ok (.iload 6, 2) := by decide +kernel
theorem dX5_layLux_118 : decode cX5_layLux 118 = .ok (.iconst 1, 1) := by decide +kernel
theorem dX5_layLux_119 : decode cX5_layLux 119 = .ok (.iadd, 1) := by decide +kernel
theorem dX5_layLux_120 : decode cX5_layLux 120 = .ok (.iload 5, 2) := by decide +kernel
theorem dX5_layLux_122 : decode cX5_layLux 122 = .ok (.ifCond .eq 10, 3) := by decide +kernel
theorem dX5_layLux_125 : decode cX5_layLux 125 = .ok (.iload 4, 2) := by decide +kernel
theorem dX5_layLux_127 : decode cX5_layLux 127 = .ok (.iconst 4, 1) := by decide +kernel
theorem dX5_layLux_128 : decode cX5_layLux 128 = .ok (.iadd, 1) := by decide +kernel
theorem dX5_layLux_129 : decode cX5_layLux 129 = .ok (.goto 7, 3) := by decide +kernel
theorem dX5_layLux_132 : decode cX5_layLux 132 = .ok (.iload 4, 2) := by decide +kernel
theorem dX5_layLux_134 : decode cX5_layLux 134 = .ok (.iconst 1, 1) := by decide +kernel
theorem dX5_layLux_135 : decode cX5_layLux 135 = .ok (.iadd, 1) := by decide +kernel
theorem dX5_layLux_136 : decode cX5_layLux 136 = .ok (.invokevirtual 38, 3) := by decide +kernel
theorem dX5_layLux_139 : decode cX5_layLux 139 = .ok (.pop, 1) := by decide +kernel
theorem dX5_layLux_140 : decode cX5_layLux 140 = .ok (.aload_n 0, 1) := by decide +kernel
theorem dX5_layLux_141 : decode cX5_layLux 141 = .ok (.iload 7, 2) := by decide +kernel
theorem dX5_layLux_143 : decode cX5_layLux 143 = .ok (.iload 4, 2) := by decide +kernel
theorem dX5_layLux_145 : decode cX5_layLux 145 = .ok (.iconst 2, 1) := by decide +kernel
theorem dX5_layLux_146 : decode cX5_layLux 146 = .ok (.iadd, 1) := by decide +kernel
theorem dX5_layLux_147 : decode cX5_layLux 147 = .ok (.invokevirtual 38, 3) := by decide +kernel
theorem dX5_layLux_150 : decode cX5_layLux 150 = .ok (.pop, 1) := by decide +kernel
theorem dX5_layLux_151 : decode cX5_layLux 151 = .ok (.aload_n 0, 1) := by decide +kernel
theorem dX5_layLux_152 : decode cX5_layLux 152 = .ok (.iload 7, 2) := by decide +kernel
theorem dX5_layLux_154 : decode cX5_layLux 154 = .ok (.iconst 1, 1) := by decide +kernel
theorem dX5_layLux_155 : decode cX5_layLux 155 = .ok (.iadd, 1) := by decide +kernel
theorem dX5_layLux_156 : decode cX5_layLux 156 = .ok (.iload 4, 2) := by decide +kernel
theorem dX5_layLux_158 : decode cX5_layLux 158 = .ok (.iconst 3, 1) := by decide +kernel
theorem dX5_layLux_159 : decode cX5_layLux 159 = .ok (.iadd, 1) := by decide +kernel
theorem dX5_layLux_160 : decode cX5_layLux 160 = .ok (.invokevirtual 38, 3) := by decide +kernel
theorem dX5_layLux_163 : decode cX5_layLux 163 = .ok (.pop, 1) := by decide +kernel
theorem dX5_layLux_164 : decode cX5_layLux 164 = .ok (.iinc 3 1, 3) := by decide +kernel
theorem dX5_layLux_167 : decode cX5_layLux 167 = .ok (.goto (-149), 3) := by decide +kernel
theorem dX5_layLux_170 : decode cX5_layLux 170 = .ok (.iinc 2 1, 3) := by decide +kernel
theorem dX5_layLux_173 : decode cX5_layLux 173 = .ok (.goto (-162), 3) := by decide +kernel
theorem dX5_layLux_176 : decode cX5_layLux 176 = .ok (.return_, 1) := by decide +kernel
theorem dX6_areOrthogonal_0 : decode cX6_areOrthogonal 0 = .ok (.iconst 0, 1) := by decide +kernel
theorem dX6_areOrthogonal_1 : decode cX6_areOrthogonal 1 = .ok (.istore_n 2, 1) := by decide +kernel
theorem dX6_areOrthogonal_2 : decode cX6_areOrthogonal 2 = .ok (.iload_n 2, 1) := by decide +kernel
theorem dX6_areOrthogonal_3 : decode cX6_areOrthogonal 3 = .ok (.aload_n 0, 1) := by decide +kernel
theorem dX6_areOrthogonal_4 : decode cX6_areOrthogonal 4 = .ok (.invokevirtual 9, 3) := by decide +kernel
theorem dX6_areOrthogonal_7 : decode cX6_areOrthogonal 7 = .ok (.if_icmp .ge 50, 3) := by decide +kernel
theorem dX6_areOrthogonal_10 : decode cX6_areOrthogonal 10 = .ok (.iconst 0, 1) := by decide +kernel
theorem dX6_areOrthogonal_11 : decode cX6_areOrthogonal 11 = .ok (.istore_n 3, 1) := by decide +kernel
theorem dX6_areOrthogonal_12 : decode cX6_areOrthogonal 12 = .ok (.iload_n 3, 1) := by decide +kernel
theorem dX6_areOrthogonal_13 : decode cX6_areOrthogonal 13 = .ok (.iload_n 2, 1) := by decide +kernel
theorem dX6_areOrthogonal_14 : decode cX6_areOrthogonal 14 = .ok (.if_icmp .ge 37, 3) := by decide +kernel
theorem dX6_areOrthogonal_17 : decode cX6_areOrthogonal 17 = .ok (.aload_n 0, 1) := by decide +kernel
theorem dX6_areOrthogonal_18 : decode cX6_areOrthogonal 18 = .ok (.iload_n 2, 1) := by decide +kernel
theorem dX6_areOrthogonal_19 : decode cX6_areOrthogonal 19 = .ok (.invokevirtual 15, 3) := by decide +kernel
theorem dX6_areOrthogonal_22 : decode cX6_areOrthogonal 22 = .ok (.aload_n 0, 1) := by decide +kernel
theorem dX6_areOrthogonal_23 : decode cX6_areOrthogonal 23 = .ok (.iload_n 3, 1) := by decide +kernel
theorem dX6_areOrthogonal_24 : decode cX6_areOrthogonal 24 = .ok (.invokevirtual 15, 3) := by decide +kernel
theorem dX6_areOrthogonal_27 : decode cX6_areOrthogonal 27 = .ok (.if_icmp .ne 18, 3) := by decide +kernel
theorem dX6_areOrthogonal_30 : decode cX6_areOrthogonal 30 = .ok (.aload_n 1, 1) := by decide +kernel
theorem dX6_areOrthogonal_31 : decode cX6_areOrthogonal 31 = .ok (.iload_n 2, 1) := by decide +kernel
theorem dX6_areOrthogonal_32 : decode cX6_areOrthogonal 32 = .ok (.invokevirtual 15, 3) := by decide +kernel
theorem dX6_areOrthogonal_35 : decode cX6_areOrthogonal 35 = .ok (.aload_n 1, 1) := by decide +kernel
theorem dX6_areOrthogonal_36 : decode cX6_areOrthogonal 36 = .ok (.iload_n 3, 1) := by decide +kernel
theorem dX6_areOrthogonal_37 : decode cX6_areOrthogonal 37 = .ok (.invokevirtual 15, 3) := by decide +kernel
theorem dX6_areOrthogonal_40 : decode cX6_areOrthogonal 40 = .ok (.if_icmp .ne 5, 3) := by decide +kernel
theorem dX6_areOrthogonal_43 : decode cX6_areOrthogonal 43 = .ok (.iconst 0, 1) := by decide +kernel
theorem dX6_areOrthogonal_44 : decode cX6_areOrthogonal 44 = .ok (.ireturn, 1) := by decide +kernel
theorem dX6_areOrthogonal_45 : decode cX6_areOrthogonal 45 = .ok (.iinc 3 1, 3) := by decide +kernel
theorem dX6_areOrthogonal_48 : decode cX6_areOrthogonal 48 = .ok (.goto (-36), 3) := by decide +kernel
theorem dX6_areOrthogonal_51 : decode cX6_areOrthogonal 51 = .ok (.iinc 2 1, 3) := by decide +kernel
theorem dX6_areOrthogonal_54 : decode cX6_areOrthogonal 54 = .ok (.goto (-52), 3) := by decide +kernel
theorem dX6_areOrthogonal_57 : decode cX6_areOrthogonal 57 = .ok (.iconst 1, 1) := by decide +kernel
theorem dX6_areOrthogonal_58 : decode cX6_areOrthogonal 58 = .ok (.ireturn, 1) := by decide +kernel
theorem dX6_canStack_0 : decode cX6_canStack 0 = .ok (.aload_n 0, 1) := by decide +kernel
theorem dX6_canStack_1 : decode cX6_canStack 1 = .ok (.invokevirtual 19, 3) := by decide +kernel
theorem dX6_canStack_4 : decode cX6_canStack 4 = .ok (.istore_n 2, 1) := by decide +kernel
theorem dX6_canStack_5 : decode cX6_canStack 5 = .ok (.iload_n 2, 1) := by decide +kernel
theorem dX6_canStack_6 : decode cX6_canStack 6 = .ok (.aload_n 1, 1) := by decide +kernel
theorem dX6_canStack_7 : decode cX6_canStack 7 = .ok (.invokevirtual 19, 3) := by decide +kernel
theorem dX6_canStack_10 : decode cX6_canStack 10 = .ok (.if_icmp .ne 31, 3) := by decide +kernel
theorem dX6_canStack_13 : decode cX6_canStack 13 = .ok (.aload_n 0, 1) := by decide +kernel
theorem dX6_canStack_14 : decode cX6_canStack 14 = .ok (.aload_n 1, 1) := by decide +kernel
theorem dX6_canStack_15 : decode cX6_canStack 15 = .ok (.invokestatic 22, 3) := by decide +kernel
theorem dX6_canStack_18 : decode cX6_canStack 18 = .ok (.ifCond .eq 23, 3) := by decide +kernel
theorem dX6_canStack_21 : decode cX6_canStack 21 = .ok (.aload_n 0, 1) := by decide +kernel
theorem dX6_canStack_22 : decode cX6_canStack 22 = .ok (.invokevirtual 28, 3) := by decide +kernel
theorem dX6_canStack_25 : decode cX6_canStack 25 = .ok (.iload_n 2, 1) := by decide +kernel
theorem dX6_canStack_26 : decode cX6_canStack 26 = .ok (.if_icmp .gt 15, 3) := by decide +kernel
theorem dX6_canStack_29 : decode cX6_canStack 29 = .ok (.aload_n 1, 1) := by decide +kernel
theorem dX6_canStack_30 : decode cX6_canStack 30 = .ok (.invokevirtual 28, 3) := by decide +kernel
theorem dX6_canStack_33 : decode cX6_canStack 33 = .ok (.iload_n 2, 1) := by decide +kernel
theorem dX6_canStack_34 : decode cX6_canStack 34 = .ok (.if_icmp .gt 7, 3) := by decide +kernel
theorem dX6_canStack_37 : decode cX6_canStack 37 = .ok (.iconst 1, 1) := by decide +kernel
theorem dX6_canStack_38 : decode cX6_canStack 38 = .ok (.goto 4, 3) := by decide +kernel
theorem dX6_canStack_41 : decode cX6_canStack 41 = .ok (.iconst 0, 1) := by decide +kernel
theorem dX6_canStack_42 : decode cX6_canStack 42 = .ok (.ireturn, 1) := by decide +kernel
theorem dX6_layStack_0 : decode cX6_layStack 0 = .ok (.iconst 0, 1) := by decide +kernel
theorem dX6_layStack_1 : decode cX6_layStack 1 = .ok (.istore_n 3, 1) := by decide +kernel
theorem dX6_layStack_2 : decode cX6_layStack 2 = .ok (.iload_n 3, 1) := by decide +kernel
theorem dX6_layStack_3 : decode cX6_layStack 3 = .ok (.aload_n 0, 1) := by decide +kernel
theorem dX6_layStack_4 : decode cX6_layStack 4 = .ok (.invokevirtual 9, 3) := by decide +kernel
theorem dX6_layStack_7 : decode cX6_layStack 7 = .ok (.if_icmp .ge 33, 3) := by decide +kernel
theorem dX6_layStack_10 : decode cX6_layStack 10 = .ok (.aload_n 0, 1) := by decide +kernel
theorem dX6_layStack_11 : decode cX6_layStack 11 = .ok (.iload_n 3, 1) := by decide +kernel
theorem dX6_layStack_12 : decode cX6_layStack 12 = .ok (.aload_n 1, 1) := by decide +kernel
theorem dX6_layStack_13 : decode cX6_layStack 13 = .ok (.invokevirtual 19, 3) := by decide +kernel
theorem dX6_layStack_16 : decode cX6_layStack 16 = .ok (.aload_n 1, 1) := by decide +kernel
theorem dX6_layStack_17 : decode cX6_layStack 17 = .ok (.iload_n 3, 1) := by decide +kernel
theorem dX6_layStack_18 : decode cX6_layStack 18 = .ok (.invokevirtual 15, 3) := by decide +kernel
theorem dX6_layStack_21 : decode cX6_layStack 21 = .ok (.iconst 1, 1) := by decide +kernel
theorem dX6_layStack_22 : decode cX6_layStack 22 = .ok (.isub, 1) := by decide +kernel
theorem dX6_layStack_23 : decode cX6_layStack 23 = .ok (.imul, 1) := by decide +kernel
theorem dX6_layStack_24 : decode cX6_layStack 24 = .ok (.aload_n 2, 1) := by decide +kernel
theorem dX6_layStack_25 : decode cX6_layStack 25 = .ok (.iload_n 3, 1) := by decide +kernel
theorem dX6_layStack_26 : decode cX6_layStack 26 = .ok (.invokevirtual 15, 3) := by decide +kernel
theorem dX6_layStack_29 : decode cX6_layStack 29 = .ok (.iadd, 1) := by decide +kernel
theorem dX6_layStack_30 : decode cX6_layStack 30 = .ok (.invokevirtual 31, 3) := by decide +kernel
theorem dX6_layStack_33 : decode cX6_layStack 33 = .ok (.pop, 1) := by decide +kernel
theorem dX6_layStack_34 : decode cX6_layStack 34 = .ok (.iinc 3 1, 3) := by decide +kernel
theorem dX6_layStack_37 : decode cX6_layStack 37 = .ok (.goto (-35), 3) := by decide +kernel
theorem dX6_layStack_40 : decode cX6_layStack 40 = .ok (.return_, 1) := by decide +kernel
theorem dX6_canMultiply_0 : decode cX6_canMultiply 0 = .ok (.aload_n 0, 1) := by decide +kernel
theorem dX6_canMultiply_1 : decode cX6_canMultiply 1 = .ok (.invokevirtual 19, 3) := by decide +kernel
theorem dX6_canMultiply_4 : decode cX6_canMultiply 4 = .ok (.aload_n 1, 1) := by decide +kernel
theorem dX6_canMultiply_5 : decode cX6_canMultiply 5 = .ok (.invokevirtual 19, 3) := by decide +kernel
theorem dX6_canMultiply_8 : decode cX6_canMultiply 8 = .ok (.imul, 1) := by decide +kernel
theorem dX6_canMultiply_9 : decode cX6_canMultiply 9 = .ok (.bipush 9, 2) := by decide +kernel
theorem dX6_canMultiply_11 : decode cX6_canMultiply 11 = .ok (.if_icmp .gt 33, 3) := by decide +kernel
theorem dX6_canMultiply_14 : decode cX6_canMultiply 14 = .ok (.aload_n 0, 1) := by decide +kernel
theorem dX6_canMultiply_15 : decode cX6_canMultiply 15 = .ok (.aload_n 1, 1) := by decide +kernel
theorem dX6_canMultiply_16 : decode cX6_canMultiply 16 = .ok (.invokestatic 22, 3) := by decide +kernel
theorem dX6_canMultiply_19 : decode cX6_canMultiply 19 = .ok (.ifCond .eq 25, 3) := by decide +kernel
theorem dX6_canMultiply_22 : decode cX6_canMultiply 22 = .ok (.aload_n 1, 1) := by decide +kernel
theorem dX6_canMultiply_23 : decode cX6_canMultiply 23 = .ok (.aload_n 0, 1) := by decide +kernel
theorem dX6_canMultiply_24 : decode cX6_canMultiply 24 = .ok (.invokevirtual 28, 3) := by decide +kernel
theorem dX6_canMultiply_27 : decode cX6_canMultiply 27 = .ok (.aload_n 1, 1) := by decide +kernel
theorem dX6_canMultiply_28 : decode cX6_canMultiply 28 = .ok (.invokevirtual 28, 3) := by decide +kernel
theorem dX6_canMultiply_31 : decode cX6_canMultiply 31 = .ok (.invokestatic 35, 3) := by decide +kernel
theorem dX6_canMultiply_34 : decode cX6_canMultiply 34 = .ok (.sipush 999, 3) := by decide +kernel
theorem dX6_canMultiply_37 : decode cX6_canMultiply 37 = .ok (.if_icmp .gt 7, 3) := by decide +kernel
theorem dX6_canMultiply_40 : decode cX6_canMultiply 40 = .ok (.iconst 1, 1) := by decide +kernel
theorem dX6_canMultiply_41 : decode cX6_canMultiply 41 = .ok (.goto 4, 3) := by decide +kernel
theorem dX6_canMultiply_44 : decode cX6_canMultiply 44 = .ok (.iconst 0, 1) := by decide +kernel
theorem dX6_canMultiply_45 : decode cX6_canMultiply 45 = .ok (.ireturn, 1) := by decide +kernel
theorem dX6_layProduct_0 : decode cX6_layProduct 0 = .ok (.aload_n 2, 1) := by decide +kernel
theorem dX6_layProduct_1 : decode cX6_layProduct 1 = .ok (.invokevirtual 19, 3) := by decide +kernel
theorem dX6_layProduct_4 : decode cX6_layProduct 4 = .ok (.istore_n 3, 1) := by decide +kernel
theorem dX6_layProduct_5 : decode cX6_layProduct 5 = .ok (.iconst 0, 1) := by decide +kernel
theorem dX6_layProduct_6 : decode cX6_layProduct 6 = .ok (.istore 4, 2) := by decide +kernel
theorem dX6_layProduct_8 : decode cX6_layProduct 8 = .ok (.iload 4, 2) := by decide +kernel
theorem dX6_layProduct_10 : decode cX6_layProduct 10 = .ok (.aload_n 0, 1) := by decide +kernel
theorem dX6_layProduct_11 : decode cX6_layProduct 11 = .ok (.invokevirtual 9, 3) := by decide +kernel
theorem dX6_layProduct_14 : decode cX6_layProduct 14 = .ok (.if_icmp .ge 90, 3) := by decide +kernel
theorem dX6_layProduct_17 : decode cX6_layProduct 17 = .ok (.aload_n 0, 1) := by decide +kernel
theorem dX6_layProduct_18 : decode cX6_layProduct 18 = .ok (.invokevirtual 19, 3) := by decide +kernel
theorem dX6_layProduct_21 : decode cX6_layProduct 21 = .ok (.iload 4, 2) := by decide +kernel
theorem dX6_layProduct_23 : decode cX6_layProduct 23 = .ok (.invokestatic 39, 3) := by decide +kernel
theorem dX6_layProduct_26 : decode cX6_layProduct 26 = .ok (.istore 5, 2) := by decide +kernel
theorem dX6_layProduct_28 : decode cX6_layProduct 28 = .ok (.aload_n 0, 1) := by decide +kernel
theorem dX6_layProduct_29 : decode cX6_layProduct 29 = .ok (.invokevirtual 19, 3) := by decide +kernel
theorem dX6_layProduct_32 : decode cX6_layProduct 32 = .ok (.iload 4, 2) := by decide +kernel
theorem dX6_layProduct_34 : decode cX6_layProduct 34 = .ok (.invokestatic 44, 3) := by decide +kernel
theorem dX6_layProduct_37 : decode cX6_layProduct 37 = .ok (.istore 6, 2) := by decide +kernel
theorem dX6_layProduct_39 : decode cX6_layProduct 39 = .ok (.aload_n 1, 1) := by decide +kernel
theorem dX6_layProduct_40 : decode cX6_layProduct 40 = .ok (.aload_n 1, 1) := by decide +kernel
theorem dX6_layProduct_41 : decode cX6_layProduct 41 = .ok (.iload_n 3, 1) := by decide +kernel
theorem dX6_layProduct_42 : decode cX6_layProduct 42 = .ok (.iload 5, 2) := by decide +kernel
theorem dX6_layProduct_44 : decode cX6_layProduct 44 = .ok (.invokestatic 39, 3) := by decide +kernel
theorem dX6_layProduct_47 : decode cX6_layProduct 47 = .ok (.iload_n 3, 1) := by decide +kernel
theorem dX6_layProduct_48 : decode cX6_layProduct 48 = .ok (.iload 6, 2) := by decide +kernel
theorem dX6_layProduct_50 : decode cX6_layProduct 50 = .ok (.invokestatic 39, 3) := by decide +kernel
theorem dX6_layProduct_53 : decode cX6_layProduct 53 = .ok (.invokevirtual 47, 3) := by decide +kernel
theorem dX6_layProduct_56 : decode cX6_layProduct 56 = .ok (.invokevirtual 15, 3) := by decide +kernel
theorem dX6_layProduct_59 : decode cX6_layProduct 59 = .ok (.istore 7, 2) := by decide +kernel
theorem dX6_layProduct_61 : decode cX6_layProduct 61 = .ok (.aload_n 2, 1) := by decide +kernel
theorem dX6_layProduct_62 : decode cX6_layProduct 62 = .ok (.aload_n 2, 1) := by decide +kernel
theorem dX6_layProduct_63 : decode cX6_layProduct 63 = .ok (.iload 5, 2) := by decide +kernel
theorem dX6_layProduct_65 : decode cX6_layProduct 65 = .ok (.iload_n 3, 1) := by decide +kernel
theorem dX6_layProduct_66 : decode cX6_layProduct 66 = .ok (.invokestatic 50, 3) := by decide +kernel
theorem dX6_layProduct_69 : decode cX6_layProduct 69 = .ok (.iload 6, 2) := by decide +kernel
theorem dX6_layProduct_71 : decode cX6_layProduct 71 = .ok (.iload_n 3, 1) := by decide +kernel
theorem dX6_layProduct_72 : decode cX6_layProduct 72 = .ok (.invokestatic 50, 3) := by decide +kernel
theorem dX6_layProduct_75 : decode cX6_layProduct 75 = .ok (.invokevirtual 47, 3) := by decide +kernel
theorem dX6_layProduct_78 : decode cX6_layProduct 78 = .ok (.invokevirtual 15, 3) := by decide +kernel
theorem dX6_layProduct_81 : decode cX6_layProduct 81 = .ok (.istore 8, 2) := by decide +kernel
theorem dX6_layProduct_83 : decode cX6_layProduct 83 = .ok (.aload_n 0, 1) := by decide +kernel
theorem dX6_layProduct_84 : decode cX6_layProduct 84 = .ok (.iload 4, 2) := by decide +kernel
theorem dX6_layProduct_86 : decode cX6_layProduct 86 = .ok (.aload_n 2, 1) := by decide +kernel
theorem dX6_layProduct_87 : decode cX6_layProduct 87 = .ok (.iload 7, 2) := by decide +kernel
theorem dX6_layProduct_89 : decode cX6_layProduct 89 = .ok (.iload 8, 2) := by decide +kernel
theorem dX6_layProduct_91 : decode cX6_layProduct 91 = .ok (.invokestatic 35, 3) := by decide +kernel
theorem dX6_layProduct_94 : decode cX6_layProduct 94 = .ok (.invokevirtual 31, 3) := by decide +kernel
theorem dX6_layProduct_97 : decode cX6_layProduct 97 = .ok (.pop, 1) := by decide +kernel
theorem dX6_layProduct_98 : decode cX6_layProduct 98 = .ok (.iinc 4 1, 3) := by decide +kernel
theorem dX6_layProduct_101 : decode cX6_layProduct 101 = .ok (.goto (-93), 3) := by decide +kernel
theorem dX6_layProduct_104 : decode cX6_layProduct 104 = .ok (.return_, 1) := by decide +kernel
theorem dX6_multiplied_0 : decode cX6_multiplied 0 = .ok (.aload_n 0, 1) := by decide +kernel
theorem dX6_multiplied_1 : decode cX6_multiplied 1 = .ok (.invokevirtual 9, 3) := by decide +kernel
theorem dX6_multiplied_4 : decode cX6_multiplied 4 = .ok (.iload_n 1, 1) := by decide +kernel
theorem dX6_multiplied_5 : decode cX6_multiplied 5 = .ok (.iconst 1, 1) := by decide +kernel
theorem dX6_multiplied_6 : decode cX6_multiplied 6 = .ok (.isub, 1) := by decide +kernel
theorem dX6_multiplied_7 : decode cX6_multiplied 7 = .ok (.imul, 1) := by decide +kernel
theorem dX6_multiplied_8 : decode cX6_multiplied 8 = .ok (.iload_n 2, 1) := by decide +kernel
theorem dX6_multiplied_9 : decode cX6_multiplied 9 = .ok (.iadd, 1) := by decide +kernel
theorem dX6_multiplied_10 : decode cX6_multiplied 10 = .ok (.ireturn, 1) := by decide +kernel
theorem dX6_areBothFull_0 : decode cX6_areBothFull 0 = .ok (.aload_n 0, 1) := by decide +kernel
theorem dX6_areBothFull_1 : decode cX6_areBothFull 1 = .ok (.iconst 0, 1) := by decide +kernel
theorem dX6_areBothFull_2 : decode cX6_areBothFull 2 = .ok (.invokevirtual 53, 3) := by decide +kernel
theorem dX6_areBothFull_5 : decode cX6_areBothFull 5 = .ok (.ifCond .ne 15, 3) := by decide +kernel
theorem dX6_areBothFull_8 : decode cX6_areBothFull 8 = .ok (.aload_n 1, 1) := by decide +kernel
theorem dX6_areBothFull_9 : decode cX6_areBothFull 9 = .ok (.iconst 0, 1) := by decide +kernel
theorem dX6_areBothFull_10 : decode cX6_areBothFull 10 = .ok (.invokevirtual 53, 3) := by decide +kernel
theorem dX6_areBothFull_13 : decode cX6_areBothFull 13 = .ok (.ifCond .ne 7, 3) := by decide +kernel
theorem dX6_areBothFull_16 : decode cX6_areBothFull 16 = .ok (.iconst 1, 1) := by decide +kernel
theorem dX6_areBothFull_17 : decode cX6_areBothFull 17 = .ok (.goto 4, 3) := by decide +kernel
theorem dX6_areBothFull_20 : decode cX6_areBothFull 20 = .ok (.iconst 0, 1) := by decide +kernel
theorem dX6_areBothFull_21 : decode cX6_areBothFull 21 = .ok (.ireturn, 1) := by decide +kernel
theorem dX7_of_0 : decode cX7_of 0 = .ok (.iload_n 0, 1) := by decide +kernel
theorem dX7_of_1 : decode cX7_of 1 = .ok (.iload_n 1, 1) := by decide +kernel
theorem dX7_of_2 : decode cX7_of 2 = .ok (.imul, 1) := by decide +kernel
theorem dX7_of_3 : decode cX7_of 3 = .ok (.iload_n 2, 1) := by decide +kernel
theorem dX7_of_4 : decode cX7_of 4 = .ok (.iadd, 1) := by decide +kernel
theorem dX7_of_5 : decode cX7_of 5 = .ok (.ireturn, 1) := by decide +kernel
theorem dX7_rowOf_0 : decode cX7_rowOf 0 = .ok (.iload_n 0, 1) := by decide +kernel
theorem dX7_rowOf_1 : decode cX7_rowOf 1 = .ok (.iconst 1, 1) := by decide +kernel
theorem dX7_rowOf_2 : decode cX7_rowOf 2 = .ok (.if_icmp .ge 7, 3) := by decide +kernel
theorem dX7_rowOf_5 : decode cX7_rowOf 5 = .ok (.iconst 0, 1) := by decide +kernel
theorem dX7_rowOf_6 : decode cX7_rowOf 6 = .ok (.goto 6, 3) := by decide +kernel
theorem dX7_rowOf_9 : decode cX7_rowOf 9 = .ok (.iload_n 1, 1) := by decide +kernel
theorem dX7_rowOf_10 : decode cX7_rowOf 10 = .ok (.iload_n 0, 1) := by decide +kernel
theorem dX7_rowOf_11 : decode cX7_rowOf 11 = .ok (.idiv, 1) := by decide +kernel
theorem dX7_rowOf_12 : decode cX7_rowOf 12 = .ok (.ireturn, 1) := by decide +kernel
theorem dX7_columnOf_0 : decode cX7_columnOf 0 = .ok (.iload_n 0, 1) := by decide +kernel
theorem dX7_columnOf_1 : decode cX7_columnOf 1 = .ok (.iconst 1, 1) := by decide +kernel
theorem dX7_columnOf_2 : decode cX7_columnOf 2 = .ok (.if_icmp .ge 7, 3) := by decide +kernel
theorem dX7_columnOf_5 : decode cX7_columnOf 5 = .ok (.iconst 0, 1) := by decide +kernel
theorem dX7_columnOf_6 : decode cX7_columnOf 6 = .ok (.goto 6, 3) := by decide +kernel
theorem dX7_columnOf_9 : decode cX7_columnOf 9 = .ok (.iload_n 1, 1) := by decide +kernel
theorem dX7_columnOf_10 : decode cX7_columnOf 10 = .ok (.iload_n 0, 1) := by decide +kernel
theorem dX7_columnOf_11 : decode cX7_columnOf 11 = .ok (.irem, 1) := by decide +kernel
theorem dX7_columnOf_12 : decode cX7_columnOf 12 = .ok (.ireturn, 1) := by decide +kernel
theorem dX7_wrap_0 : decode cX7_wrap 0 = .ok (.iload_n 1, 1) := by decide +kernel
theorem dX7_wrap_1 : decode cX7_wrap 1 = .ok (.iconst 1, 1) := by decide +kernel
theorem dX7_wrap_2 : decode cX7_wrap 2 = .ok (.if_icmp .ge 7, 3) := by decide +kernel
theorem dX7_wrap_5 : decode cX7_wrap 5 = .ok (.iconst 0, 1) := by decide +kernel
theorem dX7_wrap_6 : decode cX7_wrap 6 = .ok (.goto 8, 3) := by decide +kernel
theorem dX7_wrap_9 : decode cX7_wrap 9 = .ok (.iload_n 0, 1) := by decide +kernel
theorem dX7_wrap_10 : decode cX7_wrap 10 = .ok (.iload_n 1, 1) := by decide +kernel
theorem dX7_wrap_11 : decode cX7_wrap 11 = .ok (.invokestatic 9, 3) := by decide +kernel
theorem dX7_wrap_14 : decode cX7_wrap 14 = .ok (.ireturn, 1) := by decide +kernel
theorem dX7_onLine_0 : decode cX7_onLine 0 = .ok (.iload_n 0, 1) := by decide +kernel
theorem dX7_onLine_1 : decode cX7_onLine 1 = .ok (.iconst 1, 1) := by decide +kernel
theorem dX7_onLine_2 : decode cX7_onLine 2 = .ok (.if_icmp .ge 5, 3) := by decide +kernel
theorem dX7_onLine_5 : decode cX7_onLine 5 = .ok (.iconst 0, 1) := by decide +kernel
theorem dX7_onLine_6 : decode cX7_onLine 6 = .ok (.ireturn, 1) := by decide +kernel
theorem dX7_onLine_7 : decode cX7_onLine 7 = .ok (.iload_n 1, 1) := by decide +kernel
theorem dX7_onLine_8 : decode cX7_onLine 8 = .ok (.tableswitch 50 0 2 #[28, 34, 40], 28) := by decide +kernel
theorem dX7_onLine_36 : decode cX7_onLine 36 = .ok (.iload_n 0, 1) := by decide +kernel
theorem dX7_onLine_37 : decode cX7_onLine 37 = .ok (.iload_n 2, 1) := by decide +kernel
theorem dX7_onLine_38 : decode cX7_onLine 38 = .ok (.imul, 1) := by decide +kernel
theorem dX7_onLine_39 : decode cX7_onLine 39 = .ok (.iload_n 3, 1) := by decide +kernel
theorem dX7_onLine_40 : decode cX7_onLine 40 = .ok (.iadd, 1) := by decide +kernel
theorem dX7_onLine_41 : decode cX7_onLine 41 = .ok (.ireturn, 1) := by decide +kernel
theorem dX7_onLine_42 : decode cX7_onLine 42 = .ok (.iload_n 0, 1) := by decide +kernel
theorem dX7_onLine_43 : decode cX7_onLine 43 = .ok (.iload_n 3, 1) := by decide +kernel
theorem dX7_onLine_44 : decode cX7_onLine 44 = .ok (.imul, 1) := by decide +kernel
theorem dX7_onLine_45 : decode cX7_onLine 45 = .ok (.iload_n 2, 1) := by decide +kernel
theorem dX7_onLine_46 : decode cX7_onLine 46 = .ok (.iadd, 1) := by decide +kernel
theorem dX7_onLine_47 : decode cX7_onLine 47 = .ok (.ireturn, 1) := by decide +kernel
theorem dX7_onLine_48 : decode cX7_onLine 48 = .ok (.iload_n 0, 1) := by decide +kernel
theorem dX7_onLine_49 : decode cX7_onLine 49 = .ok (.iload_n 3, 1) := by decide +kernel
theorem dX7_onLine_50 : decode cX7_onLine 50 = .ok (.imul, 1) := by decide +kernel
theorem dX7_onLine_51 : decode cX7_onLine 51 = .ok (.iload_n 2, 1) := by decide +kernel
theorem dX7_onLine_52 : decode cX7_onLine 52 = .ok (.iload_n 3, 1) := by decide +kernel
theorem dX7_onLine_53 : decode cX7_onLine 53 = .ok (.iadd, 1) := by decide +kernel
theorem dX7_onLine_54 : decode cX7_onLine 54 = .ok (.iload_n 0, 1) := by decide +kernel
theorem dX7_onLine_55 : decode cX7_onLine 55 = .ok (.irem, 1) := by decide +kernel
theorem dX7_onLine_56 : decode cX7_onLine 56 = .ok (.iadd, 1) := by decide +kernel
theorem dX7_onLine_57 : decode cX7_onLine 57 = .ok (.ireturn, 1) := by decide +kernel
theorem dX7_onLine_58 : decode cX7_onLine 58 = .ok (.iload_n 0, 1) := by decide +kernel
theorem dX7_onLine_59 : decode cX7_onLine 59 = .ok (.iload_n 3, 1) := by decide +kernel
theorem dX7_onLine_60 : decode cX7_onLine 60 = .ok (.imul, 1) := by decide +kernel
theorem dX7_onLine_61 : decode cX7_onLine 61 = .ok (.iload_n 2, 1) := by decide +kernel
theorem dX7_onLine_62 : decode cX7_onLine 62 = .ok (.iload_n 3, 1) := by decide +kernel
theorem dX7_onLine_63 : decode cX7_onLine 63 = .ok (.isub, 1) := by decide +kernel
theorem dX7_onLine_64 : decode cX7_onLine 64 = .ok (.iload_n 0, 1) := by decide +kernel
theorem dX7_onLine_65 : decode cX7_onLine 65 = .ok (.iadd, 1) := by decide +kernel
theorem dX7_onLine_66 : decode cX7_onLine 66 = .ok (.iload_n 0, 1) := by decide +kernel
theorem dX7_onLine_67 : decode cX7_onLine 67 = .ok (.irem, 1) := by decide +kernel
theorem dX7_onLine_68 : decode cX7_onLine 68 = .ok (.iadd, 1) := by decide +kernel
theorem dX7_onLine_69 : decode cX7_onLine 69 = .ok (.ireturn, 1) := by decide +kernel
theorem dX7_aheadOfTurn_0 : decode cX7_aheadOfTurn 0 = .ok (.iload_n 0, 1) := by decide +kernel
theorem dX7_aheadOfTurn_1 : decode cX7_aheadOfTurn 1 = .ok (.iload_n 2, 1) := by decide +kernel
theorem dX7_aheadOfTurn_2 : decode cX7_aheadOfTurn 2 = .ok (.invokestatic 15, 3) := by decide +kernel
theorem dX7_aheadOfTurn_5 : decode cX7_aheadOfTurn 5 = .ok (.istore_n 3, 1) := by decide +kernel
theorem dX7_aheadOfTurn_6 : decode cX7_aheadOfTurn 6 = .ok (.iload_n 0, 1) := by decide +kernel
theorem dX7_aheadOfTurn_7 : decode cX7_aheadOfTurn 7 = .ok (.iload_n 2, 1) := by decide +kernel
theorem dX7_aheadOfTurn_8 : decode cX7_aheadOfTurn 8 = .ok (.invokestatic 20, 3) := by decide +kernel
theorem dX7_aheadOfTurn_11 : decode cX7_aheadOfTurn 11 = .ok (.istore 4, 2) := by decide +kernel
theorem dX7_aheadOfTurn_13 : decode cX7_aheadOfTurn 13 = .ok (.iload_n 0, 1) := by decide +kernel
theorem dX7_aheadOfTurn_14 : decode cX7_aheadOfTurn 14 = .ok (.iconst 1, 1) := by decide +kernel
theorem dX7_aheadOfTurn_15 : decode cX7_aheadOfTurn 15 = .ok (.isub, 1) := by decide +kernel
theorem dX7_aheadOfTurn_16 : decode cX7_aheadOfTurn 16 = .ok (.istore 5, 2) := by decide +kernel
theorem dX7_aheadOfTurn_18 : decode cX7_aheadOfTurn 18 = .ok (.iload_n 1, 1) := by decide +kernel
theorem dX7_aheadOfTurn_19 : decode cX7_aheadOfTurn 19 = .ok (.tableswitch 61 1 3 #[25, 36, 50], 25) := by decide +kernel
theorem dX7_aheadOfTurn_44 : decode cX7_aheadOfTurn 44 = .ok (.iload_n 0, 1) := by decide +kernel
theorem dX7_aheadOfTurn_45 : decode cX7_aheadOfTurn 45 = .ok (.iload 5, 2) := by decide +kernel
theorem dX7_aheadOfTurn_47 : decode cX7_aheadOfTurn 47 = .ok (.iload 4, 2) := by decide +kernel
theorem dX7_aheadOfTurn_49 : decode cX7_aheadOfTurn 49 = .ok (.isub, 1) := by decide +kernel
theorem dX7_aheadOfTurn_50 : decode cX7_aheadOfTurn 50 = .ok (.iload_n 3, 1) := by decide +kernel
theorem dX7_aheadOfTurn_51 : decode cX7_aheadOfTurn 51 = .ok (.invokestatic 23, 3) := by decide +kernel
theorem dX7_aheadOfTurn_54 : decode cX7_aheadOfTurn 54 = .ok (.ireturn, 1) := by decide +kernel
theorem dX7_aheadOfTurn_55 : decode cX7_aheadOfTurn 55 = .ok (.iload_n 0, 1) := by decide +kernel
theorem dX7_aheadOfTurn_56 : decode cX7_aheadOfTurn 56 = .ok (.iload 5, 2) := by decide +kernel
theorem dX7_aheadOfTurn_58 : decode cX7_aheadOfTurn 58 = .ok (.iload_n 3, 1) := by decide +kernel
theorem dX7_aheadOfTurn_59 : decode cX7_aheadOfTurn 59 = .ok (.isub, 1) := by decide +kernel
theorem dX7_aheadOfTurn_60 : decode cX7_aheadOfTurn 60 = .ok (.iload 5, 2) := by decide +kernel
theorem dX7_aheadOfTurn_62 : decode cX7_aheadOfTurn 62 = .ok (.iload 4, 2) := by decide +kernel
theorem dX7_aheadOfTurn_64 : decode cX7_aheadOfTurn 64 = .ok (.isub, 1) := by decide +kernel
theorem dX7_aheadOfTurn_65 : decode cX7_aheadOfTurn 65 = .ok (.invokestatic 23, 3) := by decide +kernel
theorem dX7_aheadOfTurn_68 : decode cX7_aheadOfTurn 68 = .ok (.ireturn, 1) := by decide +kernel
theorem dX7_aheadOfTurn_69 : decode cX7_aheadOfTurn 69 = .ok (.iload_n 0, 1) := by decide +kernel
theorem dX7_aheadOfTurn_70 : decode cX7_aheadOfTurn 70 = .ok (.iload 4, 2) := by decide +kernel
theorem dX7_aheadOfTurn_72 : decode cX7_aheadOfTurn 72 = .ok (.iload 5, 2) := by decide +kernel
theorem dX7_aheadOfTurn_74 : decode cX7_aheadOfTurn 74 = .ok (.iload_n 3, 1) := by decide +kernel
theorem dX7_aheadOfTurn_75 : decode cX7_aheadOfTurn 75 = .ok (.isub, 1) := by decide +kernel
theorem dX7_aheadOfTurn_76 : decode cX7_aheadOfTurn 76 = .ok (.invokestatic 23, 3) := by decide +kernel
theorem dX7_aheadOfTurn_79 : decode cX7_aheadOfTurn 79 = .ok (.ireturn, 1) := by decide +kernel
theorem dX7_aheadOfTurn_80 : decode cX7_aheadOfTurn 80 = .ok (.iload_n 2, 1) := by decide +kernel
theorem dX7_aheadOfTurn_81 : decode cX7_aheadOfTurn 81 = .ok (.ireturn, 1) := by decide +kernel
theorem dX7_aheadOfFlip_0 : decode cX7_aheadOfFlip 0 = .ok (.iload_n 1, 1) := by decide +kernel
theorem dX7_aheadOfFlip_1 : decode cX7_aheadOfFlip 1 = .ok (.ifCond .ne 7, 3) := by decide +kernel
theorem dX7_aheadOfFlip_4 : decode cX7_aheadOfFlip 4 = .ok (.iload_n 2, 1) := by decide +kernel
theorem dX7_aheadOfFlip_5 : decode cX7_aheadOfFlip 5 = .ok (.goto 21, 3) := by decide +kernel
theorem dX7_aheadOfFlip_8 : decode cX7_aheadOfFlip 8 = .ok (.iload_n 0, 1) := by decide +kernel
theorem dX7_aheadOfFlip_9 : decode cX7_aheadOfFlip 9 = .ok (.iload_n 0, 1) := by decide +kernel
theorem dX7_aheadOfFlip_10 : decode cX7_aheadOfFlip 10 = .ok (.iload_n 2, 1) := by decide +kernel
theorem dX7_aheadOfFlip_11 : decode cX7_aheadOfFlip 11 = .ok (.invokestatic 15, 3) := by decide +kernel
theorem dX7_aheadOfFlip_14 : decode cX7_aheadOfFlip 14 = .ok (.iload_n 0, 1) := by decide +kernel
theorem dX7_aheadOfFlip_15 : decode cX7_aheadOfFlip 15 = .ok (.iconst 1, 1) := by decide +kernel
theorem dX7_aheadOfFlip_16 : decode cX7_aheadOfFlip 16 = .ok (.isub, 1) := by decide +kernel
theorem dX7_aheadOfFlip_17 : decode cX7_aheadOfFlip 17 = .ok (.iload_n 0, 1) := by decide +kernel
theorem dX7_aheadOfFlip_18 : decode cX7_aheadOfFlip 18 = .ok (.iload_n 2, 1) := by decide +kernel
theorem dX7_aheadOfFlip_19 : decode cX7_aheadOfFlip 19 = .ok (.invokestatic 20, 3) := by decide +kernel
theorem dX7_aheadOfFlip_22 : decode cX7_aheadOfFlip 22 = .ok (.isub, 1) := by decide +kernel
theorem dX7_aheadOfFlip_23 : decode cX7_aheadOfFlip 23 = .ok (.invokestatic 23, 3) := by decide +kernel
theorem dX7_aheadOfFlip_26 : decode cX7_aheadOfFlip 26 = .ok (.ireturn, 1) := by decide +kernel
theorem dX7_aheadOfShift_0 : decode cX7_aheadOfShift 0 = .ok (.iload_n 0, 1) := by decide +kernel
theorem dX7_aheadOfShift_1 : decode cX7_aheadOfShift 1 = .ok (.iload_n 0, 1) := by decide +kernel
theorem dX7_aheadOfShift_2 : decode cX7_aheadOfShift 2 = .ok (.iload_n 3, 1) := by decide +kernel
theorem dX7_aheadOfShift_3 : decode cX7_aheadOfShift 3 = .ok (.invokestatic 15, 3) := by decide +kernel
theorem dX7_aheadOfShift_6 : decode cX7_aheadOfShift 6 = .ok (.iload_n 1, 1) := by decide +kernel
theorem dX7_aheadOfShift_7 : decode cX7_aheadOfShift 7 = .ok (.isub, 1) := by decide +kernel
theorem dX7_aheadOfShift_8 : decode cX7_aheadOfShift 8 = .ok (.iload_n 0, 1) := by decide +kernel
theorem dX7_aheadOfShift_9 : decode cX7_aheadOfShift 9 = .ok (.invokestatic 27, 3) := by decide +kernel
theorem dX7_aheadOfShift_12 : decode cX7_aheadOfShift 12 = .ok (.iload_n 0, 1) := by decide +kernel
theorem dX7_aheadOfShift_13 : decode cX7_aheadOfShift 13 = .ok (.iload_n 3, 1) := by decide +kernel
theorem dX7_aheadOfShift_14 : decode cX7_aheadOfShift 14 = .ok (.invokestatic 20, 3) := by decide +kernel
theorem dX7_aheadOfShift_17 : decode cX7_aheadOfShift 17 = .ok (.iload_n 2, 1) := by decide +kernel
theorem dX7_aheadOfShift_18 : decode cX7_aheadOfShift 18 = .ok (.isub, 1) := by decide +kernel
theorem dX7_aheadOfShift_19 : decode cX7_aheadOfShift 19 = .ok (.iload_n 0, 1) := by decide +kernel
theorem dX7_aheadOfShift_20 : decode cX7_aheadOfShift 20 = .ok (.invokestatic 27, 3) := by decide +kernel
theorem dX7_aheadOfShift_23 : decode cX7_aheadOfShift 23 = .ok (.invokestatic 23, 3) := by decide +kernel
theorem dX7_aheadOfShift_26 : decode cX7_aheadOfShift 26 = .ok (.ireturn, 1) := by decide +kernel
theorem dX7_aheadOfPairs_0 : decode cX7_aheadOfPairs 0 = .ok (.iload_n 0, 1) := by decide +kernel
theorem dX7_aheadOfPairs_1 : decode cX7_aheadOfPairs 1 = .ok (.iload_n 0, 1) := by decide +kernel
theorem dX7_aheadOfPairs_2 : decode cX7_aheadOfPairs 2 = .ok (.iload_n 1, 1) := by decide +kernel
theorem dX7_aheadOfPairs_3 : decode cX7_aheadOfPairs 3 = .ok (.iload_n 0, 1) := by decide +kernel
theorem dX7_aheadOfPairs_4 : decode cX7_aheadOfPairs 4 = .ok (.iload_n 2, 1) := by decide +kernel
theorem dX7_aheadOfPairs_5 : decode cX7_aheadOfPairs 5 = .ok (.invokestatic 15, 3) := by decide +kernel
theorem dX7_aheadOfPairs_8 : decode cX7_aheadOfPairs 8 = .ok (.invokestatic 30, 3) := by decide +kernel
theorem dX7_aheadOfPairs_11 : decode cX7_aheadOfPairs 11 = .ok (.iload_n 0, 1) := by decide +kernel
theorem dX7_aheadOfPairs_12 : decode cX7_aheadOfPairs 12 = .ok (.iload_n 1, 1) := by decide +kernel
theorem dX7_aheadOfPairs_13 : decode cX7_aheadOfPairs 13 = .ok (.iload_n 0, 1) := by decide +kernel
theorem dX7_aheadOfPairs_14 : decode cX7_aheadOfPairs 14 = .ok (.iload_n 2, 1) := by decide +kernel
theorem dX7_aheadOfPairs_15 : decode cX7_aheadOfPairs 15 = .ok (.invokestatic 20, 3) := by decide +kernel
theorem dX7_aheadOfPairs_18 : decode cX7_aheadOfPairs 18 = .ok (.invokestatic 30, 3) := by decide +kernel
theorem dX7_aheadOfPairs_21 : decode cX7_aheadOfPairs 21 = .ok (.invokestatic 23, 3) := by decide +kernel
theorem dX7_aheadOfPairs_24 : decode cX7_aheadOfPairs 24 = .ok (.ireturn, 1) := by decide +kernel
theorem dX7_swapped_0 : decode cX7_swapped 0 = .ok (.iload_n 0, 1) := by decide +kernel
theorem dX7_swapped_1 : decode cX7_swapped 1 = .ok (.iconst 1, 1) := by decide +kernel
theorem dX7_swapped_2 : decode cX7_swapped 2 = .ok (.isub, 1) := by decide +kernel
theorem dX7_swapped_3 : decode cX7_swapped 3 = .ok (.istore_n 3, 1) := by decide +kernel
theorem dX7_swapped_4 : decode cX7_swapped 4 = .ok (.iload_n 2, 1) := by decide +kernel
theorem dX7_swapped_5 : decode cX7_swapped 5 = .ok (.iload_n 1, 1) := by decide +kernel
theorem dX7_swapped_6 : decode cX7_swapped 6 = .ok (.if_icmp .eq 10, 3) := by decide +kernel
theorem dX7_swapped_9 : decode cX7_swapped 9 = .ok (.iload_n 2, 1) := by decide +kernel
theorem dX7_swapped_10 : decode cX7_swapped 10 = .ok (.iload_n 3, 1) := by decide +kernel
theorem dX7_swapped_11 : decode cX7_swapped 11 = .ok (.iload_n 1, 1) := by decide +kernel
theorem dX7_swapped_12 : decode cX7_swapped 12 = .ok (.isub, 1) := by decide +kernel
theorem dX7_swapped_13 : decode cX7_swapped 13 = .ok (.if_icmp .ne 9, 3) := by decide +kernel
theorem dX7_swapped_16 : decode cX7_swapped 16 = .ok (.iload_n 3, 1) := by decide +kernel
theorem dX7_swapped_17 : decode cX7_swapped 17 = .ok (.iload_n 2, 1) := by decide +kernel
theorem dX7_swapped_18 : decode cX7_swapped 18 = .ok (.isub, 1) := by decide +kernel
theorem dX7_swapped_19 : decode cX7_swapped 19 = .ok (.goto 4, 3) := by decide +kernel
theorem dX7_swapped_22 : decode cX7_swapped 22 = .ok (.iload_n 2, 1) := by decide +kernel
theorem dX7_swapped_23 : decode cX7_swapped 23 = .ok (.ireturn, 1) := by decide +kernel
theorem dX8_init_0 : decode cX8_init 0 = .ok (.aload_n 0, 1) := by decide +kernel
theorem dX8_init_1 : decode cX8_init 1 = .ok (.invokespecial 3, 3) := by decide +kernel
theorem dX8_init_4 : decode cX8_init 4 = .ok (.aload_n 0, 1) := by decide +kernel
theorem dX8_init_5 : decode cX8_init 5 = .ok (.bipush 16, 2) := by decide +kernel
theorem dX8_init_7 : decode cX8_init 7 = .ok (.newarray .int, 2) := by decide +kernel
theorem dX8_init_9 : decode cX8_init 9 = .ok (.putfield 11, 3) := by decide +kernel
theorem dX8_init_12 : decode cX8_init 12 = .ok (.aload_n 0, 1) := by decide +kernel
theorem dX8_init_13 : decode cX8_init 13 = .ok (.bipush 17, 2) := by decide +kernel
theorem dX8_init_15 : decode cX8_init 15 = .ok (.newarray .boolean, 2) := by decide +kernel
theorem dX8_init_17 : decode cX8_init 17 = .ok (.putfield 15, 3) := by decide +kernel
theorem dX8_init_20 : decode cX8_init 20 = .ok (.aload_n 0, 1) := by decide +kernel
theorem dX8_init_21 : decode cX8_init 21 = .ok (.bipush 10, 2) := by decide +kernel
theorem dX8_init_23 : decode cX8_init 23 = .ok (.newarray .int, 2) := by decide +kernel
theorem dX8_init_25 : decode cX8_init 25 = .ok (.putfield 19, 3) := by decide +kernel
theorem dX8_init_28 : decode cX8_init 28 = .ok (.aload_n 0, 1) := by decide +kernel
theorem dX8_init_29 : decode cX8_init 29 = .ok (.bipush 10, 2) := by decide +kernel
theorem dX8_init_31 : decode cX8_init 31 = .ok (.newarray .int, 2) := by decide +kernel
theorem dX8_init_33 : decode cX8_init 33 = .ok (.putfield 22, 3) := by decide +kernel
theorem dX8_init_36 : decode cX8_init 36 = .ok (.aload_n 0, 1) := by decide +kernel
theorem dX8_init_37 : decode cX8_init 37 = .ok (.bipush 64, 2) := by decide +kernel
theorem dX8_init_39 : decode cX8_init 39 = .ok (.newarray .int, 2) := by decide +kernel
theorem dX8_init_41 : decode cX8_init 41 = .ok (.putfield 25, 3) := by decide +kernel
theorem dX8_init_44 : decode cX8_init 44 = .ok (.aload_n 0, 1) := by decide +kernel
theorem dX8_init_45 : decode cX8_init 45 = .ok (.bipush 16, 2) := by decide +kernel
theorem dX8_init_47 : decode cX8_init 47 = .ok (.newarray .int, 2) := by decide +kernel
theorem dX8_init_49 : decode cX8_init 49 = .ok (.putfield 28, 3) := by decide +kernel
theorem dX8_init_52 : decode cX8_init 52 = .ok (.aload_n 0, 1) := by decide +kernel
theorem dX8_init_53 : decode cX8_init 53 = .ok (.iconst 1, 1) := by decide +kernel
theorem dX8_init_54 : decode cX8_init 54 = .ok (.putfield 31, 3) := by decide +kernel
theorem dX8_init_57 : decode cX8_init 57 = .ok (.return_, 1) := by decide +kernel
theorem dX8_load_0 : decode cX8_load 0 = .ok (.aload_n 0, 1) := by decide +kernel
theorem dX8_load_1 : decode cX8_load 1 = .ok (.aload_n 1, 1) := by decide +kernel
theorem dX8_load_2 : decode cX8_load 2 = .ok (.invokevirtual 35, 3) := by decide +kernel
theorem dX8_load_5 : decode cX8_load 5 = .ok (.invokevirtual 40, 3) := by decide +kernel
theorem dX8_load_8 : decode cX8_load 8 = .ok (.iconst 0, 1) := by decide +kernel
theorem dX8_load_9 : decode cX8_load 9 = .ok (.istore_n 2, 1) := by decide +kernel
theorem dX8_load_10 : decode cX8_load 10 = .ok (.iload_n 2, 1) := by decide +kernel
theorem dX8_load_11 : decode cX8_load 11 = .ok (.aload_n 1, 1) := by decide +kernel
theorem dX8_load_12 : decode cX8_load 12 = .ok (.invokevirtual 44, 3) := by decide +kernel
theorem dX8_load_15 : decode cX8_load 15 = .ok (.if_icmp .ge 49, 3) := by decide +kernel
theorem dX8_load_18 : decode cX8_load 18 = .ok (.aload_n 1, 1) := by decide +kernel
theorem dX8_load_19 : decode cX8_load 19 = .ok (.iload_n 2, 1) := by decide +kernel
theorem dX8_load_20 : decode cX8_load 20 = .ok (.invokevirtual 47, 3) := by decide +kernel
theorem dX8_load_23 : decode cX8_load 23 = .ok (.istore_n 3, 1) := by decide +kernel
theorem dX8_load_24 : decode cX8_load 24 = .ok (.iload_n 3, 1) := by decide +kernel
theorem dX8_load_25 : decode cX8_load 25 = .ok (.ifCond .ne 11, 3) := by decide +kernel
theorem dX8_load_28 : decode cX8_load 28 = .ok (.aload_n 0, 1) := by decide +kernel
theorem dX8_load_29 : decode cX8_load 29 = .ok (.iload_n 2, 1) := by decide +kernel
theorem dX8_load_30 : decode cX8_load 30 = .ok (.invokevirtual 51, 3) := by decide +kernel
theorem dX8_load_33 : decode cX8_load 33 = .ok (.goto 25, 3) := by decide +kernel
theorem dX8_load_36 : decode cX8_load 36 = .ok (.aload_n 0, 1) := by decide +kernel
theorem dX8_load_37 : decode cX8_load 37 = .ok (.iload_n 3, 1) := by decide +kernel
theorem dX8_load_38 : decode cX8_load 38 = .ok (.invokevirtual 54, 3) := by decide +kernel
theorem dX8_load_41 : decode cX8_load 41 = .ok (.ifCond .eq 12, 3) := by decide +kernel
theorem dX8_load_44 : decode cX8_load 44 = .ok (.aload_n 0, 1) := by decide +kernel
theorem dX8_load_45 : decode cX8_load 45 = .ok (.iload_n 2, 1) := by decide +kernel
theorem dX8_load_46 : decode cX8_load 46 = .ok (.iload_n 3, 1) := by decide +kernel
theorem dX8_load_47 : decode cX8_load 47 = .ok (.invokevirtual 58, 3) := by decide +kernel
theorem dX8_load_50 : decode cX8_load 50 = .ok (.goto 8, 3) := by decide +kernel
theorem dX8_load_53 : decode cX8_load 53 = .ok (.aload_n 0, 1) := by decide +kernel
theorem dX8_load_54 : decode cX8_load 54 = .ok (.iconst 1, 1) := by decide +kernel
theorem dX8_load_55 : decode cX8_load 55 = .ok (.putfield 62, 3) := by decide +kernel
theorem dX8_load_58 : decode cX8_load 58 = .ok (.iinc 2 1, 3) := by decide +kernel
theorem dX8_load_61 : decode cX8_load 61 = .ok (.goto (-51), 3) := by decide +kernel
theorem dX8_load_64 : decode cX8_load 64 = .ok (.return_, 1) := by decide +kernel
theorem dX8_begin_0 : decode cX8_begin 0 = .ok (.aload_n 0, 1) := by decide +kernel
theorem dX8_begin_1 : decode cX8_begin 1 = .ok (.iload_n 1, 1) := by decide +kernel
theorem dX8_begin_2 : decode cX8_begin 2 = .ok (.putfield 31, 3) := by decide +kernel
theorem dX8_begin_5 : decode cX8_begin 5 = .ok (.aload_n 0, 1) := by decide +kernel
theorem dX8_begin_6 : decode cX8_begin 6 = .ok (.aload_n 0, 1) := by decide +kernel
theorem dX8_begin_7 : decode cX8_begin 7 = .ok (.getfield 31, 3) := by decide +kernel
theorem dX8_begin_10 : decode cX8_begin 10 = .ok (.aload_n 0, 1) := by decide +kernel
theorem dX8_begin_11 : decode cX8_begin 11 = .ok (.getfield 31, 3) := by decide +kernel
theorem dX8_begin_14 : decode cX8_begin 14 = .ok (.aload_n 0, 1) := by decide +kernel
theorem dX8_begin_15 : decode cX8_begin 15 = .ok (.getfield 31, 3) := by decide +kernel
theorem dX8_begin_18 : decode cX8_begin 18 = .ok (.imul, 1) := by decide +kernel
theorem dX8_begin_19 : decode cX8_begin 19 = .ok (.iconst 1, 1) := by decide +kernel
theorem dX8_begin_20 : decode cX8_begin 20 = .ok (.iadd, 1) := by decide +kernel
theorem dX8_begin_21 : decode cX8_begin 21 = .ok (.imul, 1) := by decide +kernel
theorem dX8_begin_22 : decode cX8_begin 22 = .ok (.iconst 2, 1) := by decide +kernel
theorem dX8_begin_23 : decode cX8_begin 23 = .ok (.idiv, 1) := by decide +kernel
theorem dX8_begin_24 : decode cX8_begin 24 = .ok (.putfield 66, 3) := by decide +kernel
theorem dX8_begin_27 : decode cX8_begin 27 = .ok (.aload_n 0, 1) := by decide +kernel
theorem dX8_begin_28 : decode cX8_begin 28 = .ok (.iconst 0, 1) := by decide +kernel
theorem dX8_begin_29 : decode cX8_begin 29 = .ok (.putfield 62, 3) := by decide +kernel
theorem dX8_begin_32 : decode cX8_begin 32 = .ok (.aload_n 0, 1) := by decide +kernel
theorem dX8_begin_33 : decode cX8_begin 33 = .ok (.iconst 0, 1) := by decide +kernel
theorem dX8_begin_34 : decode cX8_begin 34 = .ok (.putfield 69, 3) := by decide +kernel
theorem dX8_begin_37 : decode cX8_begin 37 = .ok (.iconst 0, 1) := by decide +kernel
theorem dX8_begin_38 : decode cX8_begin 38 = .ok (.istore_n 2, 1) := by decide +kernel
theorem dX8_begin_39 : decode cX8_begin 39 = .ok (.iload_n 2, 1) := by decide +kernel
theorem dX8_begin_40 : decode cX8_begin 40 = .ok (.aload_n 0, 1) := by decide +kernel
theorem dX8_begin_41 : decode cX8_begin 41 = .ok (.getfield 15, 3) := by decide +kernel
theorem dX8_begin_44 : decode cX8_begin 44 = .ok (.arraylength, 1) := by decide +kernel
theorem dX8_begin_45 : decode cX8_begin 45 = .ok (.if_icmp .ge 16, 3) := by decide +kernel
theorem dX8_begin_48 : decode cX8_begin 48 = .ok (.aload_n 0, 1) := by decide +kernel
theorem dX8_begin_49 : decode cX8_begin 49 = .ok (.getfield 15, 3) := by decide +kernel
theorem dX8_begin_52 : decode cX8_begin 52 = .ok (.iload_n 2, 1) := by decide +kernel
theorem dX8_begin_53 : decode cX8_begin 53 = .ok (.iconst 0, 1) := by decide +kernel
theorem dX8_begin_54 : decode cX8_begin 54 = .ok (.bastore, 1) := by decide +kernel
theorem dX8_begin_55 : decode cX8_begin 55 = .ok (.iinc 2 1, 3) := by decide +kernel
theorem dX8_begin_58 : decode cX8_begin 58 = .ok (.goto (-19), 3) := by decide +kernel
theorem dX8_begin_61 : decode cX8_begin 61 = .ok (.iconst 0, 1) := by decide +kernel
theorem dX8_begin_62 : decode cX8_begin 62 = .ok (.istore_n 2, 1) := by decide +kernel
theorem dX8_begin_63 : decode cX8_begin 63 = .ok (.iload_n 2, 1) := by decide +kernel
theorem dX8_begin_64 : decode cX8_begin 64 = .ok (.aload_n 0, 1) := by decide +kernel
theorem dX8_begin_65 : decode cX8_begin 65 = .ok (.getfield 19, 3) := by decide +kernel
theorem dX8_begin_68 : decode cX8_begin 68 = .ok (.arraylength, 1) := by decide +kernel
theorem dX8_begin_69 : decode cX8_begin 69 = .ok (.if_icmp .ge 35, 3) := by decide +kernel
theorem dX8_begin_72 : decode cX8_begin 72 = .ok (.iload_n 2, 1) := by decide +kernel
theorem dX8_begin_73 : decode cX8_begin 73 = .ok (.aload_n 0, 1) := by decide +kernel
theorem dX8_begin_74 : decode cX8_begin 74 = .ok (.getfield 22, 3) := by decide +kernel
theorem dX8_begin_77 : decode cX8_begin 77 = .ok (.arraylength, 1) := by decide +kernel
theorem dX8_begin_78 : decode cX8_begin 78 = .ok (.if_icmp .ge 26, 3) := by decide +kernel
theorem dX8_begin_81 : decode cX8_begin 81 = .ok (.aload_n 0, 1) := by decide +kernel
theorem dX8_begin_82 : decode cX8_begin 82 = .ok (.getfield 19, 3) := by decide +kernel
theorem dX8_begin_85 : decode cX8_begin 85 = .ok (.iload_n 2, 1) := by decide +kernel
theorem dX8_begin_86 : decode cX8_begin 86 = .ok (.iconst 0, 1) := by decide +kernel
theorem dX8_begin_87 : decode cX8_begin 87 = .ok (.iastore, 1) := by decide +kernel
theorem dX8_begin_88 : decode cX8_begin 88 = .ok (.aload_n 0, 1) := by decide +kernel
theorem dX8_begin_89 : decode cX8_begin 89 = .ok (.getfield 22, 3) := by decide +kernel
theorem dX8_begin_92 : decode cX8_begin 92 = .ok (.iload_n 2, 1) := by decide +kernel
theorem dX8_begin_93 : decode cX8_begin 93 = .ok (.aload_n 0, 1) := by decide +kernel
theorem dX8_begin_94 : decode cX8_begin 94 = .ok (.getfield 31, 3) := by decide +kernel
theorem dX8_begin_97 : decode cX8_begin 97 = .ok (.iastore, 1) := by decide +kernel
theorem dX8_begin_98 : decode cX8_begin 98 = .ok (.iinc 2 1, 3) := by decide +kernel
theorem dX8_begin_101 : decode cX8_begin 101 = .ok (.goto (-38), 3) := by decide +kernel
theorem dX8_begin_104 : decode cX8_begin 104 = .ok (.iconst 0, 1) := by decide +kernel
theorem dX8_begin_105 : decode cX8_begin 105 = .ok (.istore_n 2, 1) := by decide +kernel
theorem dX8_begin_106 : decode cX8_begin 106 = .ok (.iload_n 2, 1) := by decide +kernel
theorem dX8_begin_107 : decode cX8_begin 107 = .ok (.aload_n 0, 1) := by decide +kernel
theorem dX8_begin_108 : decode cX8_begin 108 = .ok (.getfield 25, 3) := by decide +kernel
theorem dX8_begin_111 : decode cX8_begin 111 = .ok (.arraylength, 1) := by decide +kernel
theorem dX8_begin_112 : decode cX8_begin 112 = .ok (.if_icmp .ge 25, 3) := by decide +kernel
theorem dX8_begin_115 : decode cX8_begin 115 = .ok (.aload_n 0, 1) := by decide +kernel
theorem dX8_begin_116 : decode cX8_begin 116 = .ok (.getfield 25, 3) := by decide +kernel
theorem dX8_begin_119 : decode cX8_begin 119 = .ok (.iload_n 2, 1) := by decide +kernel
theorem dX8_begin_120 : decode cX8_begin 120 = .ok (.aload_n 0, 1) := by decide +kernel
theorem dX8_begin_121 : decode cX8_begin 121 = .ok (.iload_n 2, 1) := by decide +kernel
theorem dX8_begin_122 : decode cX8_begin 122 = .ok (.iconst 4, 1) := by decide +kernel
theorem dX8_begin_123 : decode cX8_begin 123 = .ok (.idiv, 1) := by decide +kernel
theorem dX8_begin_124 : decode cX8_begin 124 = .ok (.iload_n 2, 1) := by decide +kernel
theorem dX8_begin_125 : decode cX8_begin 125 = .ok (.iconst 4, 1) := by decide +kernel
theorem dX8_begin_126 : decode cX8_begin 126 = .ok (.irem, 1) := by decide +kernel
theorem dX8_begin_127 : decode cX8_begin 127 = .ok (.invokevirtual 72, 3) := by decide +kernel
theorem dX8_begin_130 : decode cX8_begin 130 = .ok (.iastore, 1) := by decide +kernel
theorem dX8_begin_131 : decode cX8_begin 131 = .ok (.iinc 2 1, 3) := by decide +kernel
theorem dX8_begin_134 : decode cX8_begin 134 = .ok (.goto (-28), 3) := by decide +kernel
theorem dX8_begin_137 : decode cX8_begin 137 = .ok (.return_, 1) := by decide +kernel
theorem dX8_lineThrough_0 : decode cX8_lineThrough 0 = .ok (.aload_n 0, 1) := by decide +kernel
theorem dX8_lineThrough_1 : decode cX8_lineThrough 1 = .ok (.getfield 31, 3) := by decide +kernel
theorem dX8_lineThrough_4 : decode cX8_lineThrough 4 = .ok (.iload_n 1, 1) := by decide +kernel
theorem dX8_lineThrough_5 : decode cX8_lineThrough 5 = .ok (.invokestatic 76, 3) := by decide +kernel
theorem dX8_lineThrough_8 : decode cX8_lineThrough 8 = .ok (.istore_n 3, 1) := by decide +kernel
theorem dX8_lineThrough_9 : decode cX8_lineThrough 9 = .ok (.aload_n 0, 1) := by decide +kernel
theorem dX8_lineThrough_10 : decode cX8_lineThrough 10 = .ok (.getfield 31, 3) := by decide +kernel
theorem dX8_lineThrough_13 : decode cX8_lineThrough 13 = .ok (.iload_n 1, 1) := by decide +kernel
theorem dX8_lineThrough_14 : decode cX8_lineThrough 14 = .ok (.invokestatic 81, 3) := by decide +kernel
theorem dX8_lineThrough_17 : decode cX8_lineThrough 17 = .ok (.istore 4, 2) := by decide +kernel
theorem dX8_lineThrough_19 : decode cX8_lineThrough 19 = .ok (.iload_n 2, 1) := by decide +kernel
theorem dX8_lineThrough_20 : decode cX8_lineThrough 20 = .ok (.tableswitch 55 0 2 #[28, 30, 38], 28) := by decide +kernel
theorem dX8_lineThrough_48 : decode cX8_lineThrough 48 = .ok (.iload_n 3, 1) := by decide +kernel
theorem dX8_lineThrough_49 : decode cX8_lineThrough 49 = .ok (.ireturn, 1) := by decide +kernel
theorem dX8_lineThrough_50 : decode cX8_lineThrough 50 = .ok (.aload_n 0, 1) := by decide +kernel
theorem dX8_lineThrough_51 : decode cX8_lineThrough 51 = .ok (.getfield 31, 3) := by decide +kernel
theorem dX8_lineThrough_54 : decode cX8_lineThrough 54 = .ok (.iload 4, 2) := by decide +kernel
theorem dX8_lineThrough_56 : decode cX8_lineThrough 56 = .ok (.iadd, 1) := by decide +kernel
theorem dX8_lineThrough_57 : decode cX8_lineThrough 57 = .ok (.ireturn, 1) := by decide +kernel
theorem dX8_lineThrough_58 : decode cX8_lineThrough 58 = .ok (.iload_n 3, 1) := by decide +kernel
theorem dX8_lineThrough_59 : decode cX8_lineThrough 59 = .ok (.iload 4, 2) := by decide +kernel
theorem dX8_lineThrough_61 : decode cX8_lineThrough 61 = .ok (.if_icmp .ne 12, 3) := by decide +kernel
theorem dX8_lineThrough_64 : decode cX8_lineThrough 64 = .ok (.iconst 2, 1) := by decide +kernel
theorem dX8_lineThrough_65 : decode cX8_lineThrough 65 = .ok (.aload_n 0, 1) := by decide +kernel
theorem dX8_lineThrough_66 : decode cX8_lineThrough 66 = .ok (.getfield 31, 3) := by decide +kernel
theorem dX8_lineThrough_69 : decode cX8_lineThrough 69 = .ok (.imul, 1) := by decide +kernel
theorem dX8_lineThrough_70 : decode cX8_lineThrough 70 = .ok (.goto 4, 3) := by decide +kernel
theorem dX8_lineThrough_73 : decode cX8_lineThrough 73 = .ok (.iconst (-1), 1) := by decide +kernel
theorem dX8_lineThrough_74 : decode cX8_lineThrough 74 = .ok (.ireturn, 1) := by decide +kernel
theorem dX8_lineThrough_75 : decode cX8_lineThrough 75 = .ok (.iload_n 3, 1) := by decide +kernel
theorem dX8_lineThrough_76 : decode cX8_lineThrough 76 = .ok (.iload 4, 2) := by decide +kernel
theorem dX8_lineThrough_78 : decode cX8_lineThrough 78 = .ok (.iadd, 1) := by decide +kernel
theorem dX8_lineThrough_79 : decode cX8_lineThrough 79 = .ok (.aload_n 0, 1) := by decide +kernel
theorem dX8_lineThrough_80 : decode cX8_lineThrough 80 = .ok (.getfield 31, 3) := by decide +kernel
theorem dX8_lineThrough_83 : decode cX8_lineThrough 83 = .ok (.iconst 1, 1) := by decide +kernel
theorem dX8_lineThrough_84 : decode cX8_lineThrough 84 = .ok (.isub, 1) := by decide +kernel
theorem dX8_lineThrough_85 : decode cX8_lineThrough 85 = .ok (.if_icmp .ne 14, 3) := by decide +kernel
theorem dX8_lineThrough_88 : decode cX8_lineThrough 88 = .ok (.iconst 2, 1) := by decide +kernel
theorem dX8_lineThrough_89 : decode cX8_lineThrough 89 = .ok (.aload_n 0, 1) := by decide +kernel
theorem dX8_lineThrough_90 : decode cX8_lineThrough 90 = .ok (.getfield 31, 3) := by decide +kernel
theorem dX8_lineThrough_93 : decode cX8_lineThrough 93 = .ok (.imul, 1) := by decide +kernel
theorem dX8_lineThrough_94 : decode cX8_lineThrough 94 = .ok (.iconst 1, 1) := by decide +kernel
theorem dX8_lineThrough_95 : decode cX8_lineThrough 95 = .ok (.iadd, 1) := by decide +kernel
theorem dX8_lineThrough_96 : decode cX8_lineThrough 96 = .ok (.goto 4, 3) := by decide +kernel
theorem dX8_lineThrough_99 : decode cX8_lineThrough 99 = .ok (.iconst (-1), 1) := by decide +kernel
theorem dX8_lineThrough_100 : decode cX8_lineThrough 100 = .ok (.ireturn, 1) := by decide +kernel
theorem dX8_addEmpty_0 : decode cX8_addEmpty 0 = .ok (.aload_n 0, 1) := by decide +kernel
theorem dX8_addEmpty_1 : decode cX8_addEmpty 1 = .ok (.getfield 69, 3) := by decide +kernel
theorem dX8_addEmpty_4 : decode cX8_addEmpty 4 = .ok (.ifCond .lt 35, 3) := by decide +kernel
theorem dX8_addEmpty_7 : decode cX8_addEmpty 7 = .ok (.aload_n 0, 1) := by decide +kernel
theorem dX8_addEmpty_8 : decode cX8_addEmpty 8 = .ok (.getfield 69, 3) := by decide +kernel
theorem dX8_addEmpty_11 : decode cX8_addEmpty 11 = .ok (.aload_n 0, 1) := by decide +kernel
theorem dX8_addEmpty_12 : decode cX8_addEmpty 12 = .ok (.getfield 28, 3) := by decide +kernel
theorem dX8_addEmpty_15 : decode cX8_addEmpty 15 = .ok (.arraylength, 1) := by decide +kernel
theorem dX8_addEmpty_16 : decode cX8_addEmpty 16 = .ok (.if_icmp .ge 23, 3) := by decide +kernel
theorem dX8_addEmpty_19 : decode cX8_addEmpty 19 = .ok (.aload_n 0, 1) := by decide +kernel
theorem dX8_addEmpty_20 : decode cX8_addEmpty 20 = .ok (.getfield 28, 3) := by decide +kernel
theorem dX8_addEmpty_23 : decode cX8_addEmpty 23 = .ok (.aload_n 0, 1) := by decide +kernel
theorem dX8_addEmpty_24 : decode cX8_addEmpty 24 = .ok (.getfield 69, 3) := by decide +kernel
theorem dX8_addEmpty_27 : decode cX8_addEmpty 27 = .ok (.iload_n 1, 1) := by decide +kernel
theorem dX8_addEmpty_28 : decode cX8_addEmpty 28 = .ok (.iastore, 1) := by decide +kernel
theorem dX8_addEmpty_29 : decode cX8_addEmpty 29 = .ok (.aload_n 0, 1) := by decide +kernel
theorem dX8_addEmpty_30 : decode cX8_addEmpty 30 = .ok (.dup, 1) := by decide +kernel
theorem dX8_addEmpty_31 : decode cX8_addEmpty 31 = .ok (.getfield 69, 3) := by decide +kernel
theorem dX8_addEmpty_34 : decode cX8_addEmpty 34 = .ok (.iconst 1, 1) := by decide +kernel
theorem dX8_addEmpty_35 : decode cX8_addEmpty 35 = .ok (.iadd, 1) := by decide +kernel
theorem dX8_addEmpty_36 : decode cX8_addEmpty 36 = .ok (.putfield 69, 3) := by decide +kernel
theorem dX8_addEmpty_39 : decode cX8_addEmpty 39 = .ok (.return_, 1) := by decide +kernel
theorem dX8_countAll_0 : decode cX8_countAll 0 = .ok (.aload_n 0, 1) := by decide +kernel
theorem dX8_countAll_1 : decode cX8_countAll 1 = .ok (.iconst (-1), 1) := by decide +kernel
theorem dX8_countAll_2 : decode cX8_countAll 2 = .ok (.iconst 0, 1) := by decide +kernel
theorem dX8_countAll_3 : decode cX8_countAll 3 = .ok (.invokevirtual 84, 3) := by decide +kernel
theorem dX8_countAll_6 : decode cX8_countAll 6 = .ok (.aload_n 0, 1) := by decide +kernel
theorem dX8_countAll_7 : decode cX8_countAll 7 = .ok (.getfield 87, 3) := by decide +kernel
theorem dX8_countAll_10 : decode cX8_countAll 10 = .ok (.ireturn, 1) := by decide +kernel
theorem dX8_numberIn_0 : decode cX8_numberIn 0 = .ok (.aload_n 0, 1) := by decide +kernel
theorem dX8_numberIn_1 : decode cX8_numberIn 1 = .ok (.iload_n 1, 1) := by decide +kernel
theorem dX8_numberIn_2 : decode cX8_numberIn 2 = .ok (.iload_n 2, 1) := by decide +kernel
theorem dX8_numberIn_3 : decode cX8_numberIn 3 = .ok (.invokevirtual 84, 3) := by decide +kernel
theorem dX8_numberIn_6 : decode cX8_numberIn 6 = .ok (.aload_n 0, 1) := by decide +kernel
theorem dX8_numberIn_7 : decode cX8_numberIn 7 = .ok (.getfield 90, 3) := by decide +kernel
theorem dX8_numberIn_10 : decode cX8_numberIn 10 = .ok (.ireturn, 1) := by decide +kernel
theorem dX8_seek_0 : decode cX8_seek 0 = .ok (.aload_n 0, 1) := by decide +kernel
theorem dX8_seek_1 : decode cX8_seek 1 = .ok (.iload_n 1, 1) := by decide +kernel
theorem dX8_seek_2 : decode cX8_seek 2 = .ok (.putfield 93, 3) := by decide +kernel
theorem dX8_seek_5 : decode cX8_seek 5 = .ok (.aload_n 0, 1) := by decide +kernel
theorem dX8_seek_6 : decode cX8_seek 6 = .ok (.iload_n 2, 1) := by decide +kernel
theorem dX8_seek_7 : decode cX8_seek 7 = .ok (.putfield 96, 3) := by decide +kernel
theorem dX8_seek_10 : decode cX8_seek 10 = .ok (.aload_n 0, 1) := by decide +kernel
theorem dX8_seek_11 : decode cX8_seek 11 = .ok (.iconst 0, 1) := by decide +kernel
theorem dX8_seek_12 : decode cX8_seek 12 = .ok (.putfield 87, 3) := by decide +kernel
theorem dX8_seek_15 : decode cX8_seek 15 = .ok (.aload_n 0, 1) := by decide +kernel
theorem dX8_seek_16 : decode cX8_seek 16 = .ok (.iconst (-1), 1) := by decide +kernel
theorem dX8_seek_17 : decode cX8_seek 17 = .ok (.putfield 90, 3) := by decide +kernel
theorem dX8_seek_20 : decode cX8_seek 20 = .ok (.aload_n 0, 1) := by decide +kernel
theorem dX8_seek_21 : decode cX8_seek 21 = .ok (.invokevirtual 99, 3) := by decide +kernel
theorem dX8_seek_24 : decode cX8_seek 24 = .ok (.ifCond .eq 8, 3) := by decide +kernel
theorem dX8_seek_27 : decode cX8_seek 27 = .ok (.aload_n 0, 1) := by decide +kernel
theorem dX8_seek_28 : decode cX8_seek 28 = .ok (.iconst 0, 1) := by decide +kernel
theorem dX8_seek_29 : decode cX8_seek 29 = .ok (.invokestatic 103, 3) := by decide +kernel
theorem dX8_seek_32 : decode cX8_seek 32 = .ok (.return_, 1) := by decide +kernel
theorem dX8_fillFrom_0 : decode cX8_fillFrom 0 = .ok (.iload_n 1, 1) := by decide +kernel
theorem dX8_fillFrom_1 : decode cX8_fillFrom 1 = .ok (.aload_n 0, 1) := by decide +kernel
theorem dX8_fillFrom_2 : decode cX8_fillFrom 2 = .ok (.getfield 69, 3) := by decide +kernel
theorem dX8_fillFrom_5 : decode cX8_fillFrom 5 = .ok (.if_icmp .ge 16, 3) := by decide +kernel
theorem dX8_fillFrom_8 : decode cX8_fillFrom 8 = .ok (.iload_n 1, 1) := by decide +kernel
theorem dX8_fillFrom_9 : decode cX8_fillFrom 9 = .ok (.aload_n 0, 1) := by decide +kernel
theorem dX8_fillFrom_10 : decode cX8_fillFrom 10 = .ok (.getfield 28, 3) := by decide +kernel
theorem dX8_fillFrom_13 : decode cX8_fillFrom 13 = .ok (.arraylength, 1) := by decide +kernel
theorem dX8_fillFrom_14 : decode cX8_fillFrom 14 = .ok (.if_icmp .ge 7, 3) := by decide +kernel
theorem dX8_fillFrom_17 : decode cX8_fillFrom 17 = .ok (.iload_n 1, 1) := by decide +kernel
theorem dX8_fillFrom_18 : decode cX8_fillFrom 18 = .ok (.ifCond .ge 8, 3) := by decide +kernel
theorem dX8_fillFrom_21 : decode cX8_fillFrom 21 = .ok (.aload_n 0, 1) := by decide +kernel
theorem dX8_fillFrom_22 : decode cX8_fillFrom 22 = .ok (.invokevirtual 107, 3) := by decide +kernel
theorem dX8_fillFrom_25 : decode cX8_fillFrom 25 = .ok (.return_, 1) := by decide +kernel
theorem dX8_fillFrom_26 : decode cX8_fillFrom 26 = .ok (.aload_n 0, 1) := by decide +kernel
theorem dX8_fillFrom_27 : decode cX8_fillFrom 27 = .ok (.getfield 28, 3) := by decide +kernel
theorem dX8_fillFrom_30 : decode cX8_fillFrom 30 = .ok (.iload_n 1, 1) := by decide +kernel
theorem dX8_fillFrom_31 : decode cX8_fillFrom 31 = .ok (.iaload, 1) := by decide +kernel
theorem dX8_fillFrom_32 : decode cX8_fillFrom 32 = .ok (.istore_n 2, 1) := by decide +kernel
theorem dX8_fillFrom_33 : decode cX8_fillFrom 33 = .ok (.aload_n 0, 1) := by decide +kernel
theorem dX8_fillFrom_34 : decode cX8_fillFrom 34 = .ok (.iload_n 2, 1) := by decide +kernel
theorem dX8_fillFrom_35 : decode cX8_fillFrom 35 = .ok (.invokevirtual 110, 3) := by decide +kernel
theorem dX8_fillFrom_38 : decode cX8_fillFrom 38 = .ok (.istore_n 3, 1) := by decide +kernel
theorem dX8_fillFrom_39 : decode cX8_fillFrom 39 = .ok (.aload_n 0, 1) := by decide +kernel
theorem dX8_fillFrom_40 : decode cX8_fillFrom 40 = .ok (.iload_n 2, 1) := by decide +kernel
theorem dX8_fillFrom_41 : decode cX8_fillFrom 41 = .ok (.invokevirtual 113, 3) := by decide +kernel
theorem dX8_fillFrom_44 : decode cX8_fillFrom 44 = .ok (.istore 4, 2) := by decide +kernel
theorem dX8_fillFrom_46 : decode cX8_fillFrom 46 = .ok (.iload 4, 2) := by decide +kernel
theorem dX8_fillFrom_48 : decode cX8_fillFrom 48 = .ok (.iload_n 3, 1) := by decide +kernel
theorem dX8_fillFrom_49 : decode cX8_fillFrom 49 = .ok (.if_icmp .gt 47, 3) := by decide +kernel
theorem dX8_fillFrom_52 : decode cX8_fillFrom 52 = .ok (.aload_n 0, 1) := by decide +kernel
theorem dX8_fillFrom_53 : decode cX8_fillFrom 53 = .ok (.getfield 90, 3) := by decide +kernel
theorem dX8_fillFrom_56 : decode cX8_fillFrom 56 = .ok (.iconst (-1), 1) := by decide +kernel
theorem dX8_fillFrom_57 : decode cX8_fillFrom 57 = .ok (.if_icmp .ne 39, 3) := by decide +kernel
theorem dX8_fillFrom_60 : decode cX8_fillFrom 60 = .ok (.aload_n 0, 1) := by decide +kernel
theorem dX8_fillFrom_61 : decode cX8_fillFrom 61 = .ok (.iload 4, 2) := by decide +kernel
theorem dX8_fillFrom_63 : decode cX8_fillFrom 63 = .ok (.invokevirtual 54, 3) := by decide +kernel
theorem dX8_fillFrom_66 : decode cX8_fillFrom 66 = .ok (.ifCond .eq 24, 3) := by decide +kernel
theorem dX8_fillFrom_69 : decode cX8_fillFrom 69 = .ok (.aload_n 0, 1) := by decide +kernel
theorem dX8_fillFrom_70 : decode cX8_fillFrom 70 = .ok (.iload_n 2, 1) := by decide +kernel
theorem dX8_fillFrom_71 : decode cX8_fillFrom 71 = .ok (.iload 4, 2) := by decide +kernel
theorem dX8_fillFrom_73 : decode cX8_fillFrom 73 = .ok (.invokevirtual 58, 3) := by decide +kernel
theorem dX8_fillFrom_76 : decode cX8_fillFrom 76 = .ok (.aload_n 0, 1) := by decide +kernel
theorem dX8_fillFrom_77 : decode cX8_fillFrom 77 = .ok (.iload_n 1, 1) := by decide +kernel
theorem dX8_fillFrom_78 : decode cX8_fillFrom 78 = .ok (.iconst 1, 1) := by decide +kernel
theorem dX8_fillFrom_79 : decode cX8_fillFrom 79 = .ok (.iadd, 1) := by decide +kernel
theorem dX8_fillFrom_80 : decode cX8_fillFrom 80 = .ok (.invokestatic 103, 3) := by decide +kernel
theorem dX8_fillFrom_83 : decode cX8_fillFrom 83 = .ok (.aload_n 0, 1) := by decide +kernel
theorem dX8_fillFrom_84 : decode cX8_fillFrom 84 = .ok (.iload_n 2, 1) := by decide +kernel
theorem dX8_fillFrom_85 : decode cX8_fillFrom 85 = .ok (.iload 4, 2) := by decide +kernel
theorem dX8_fillFrom_87 : decode cX8_fillFrom 87 = .ok (.invokevirtual 116, 3) := by decide +kernel
theorem dX8_fillFrom_90 : decode cX8_fillFrom 90 = .ok (.iinc 4 1, 3) := by decide +kernel
theorem dX8_fillFrom_93 : decode cX8_fillFrom 93 = .ok (.goto (-47), 3) := by decide +kernel
theorem dX8_fillFrom_96 : decode cX8_fillFrom 96 = .ok (.return_, 1) := by decide +kernel
theorem dX8_meet_0 : decode cX8_meet 0 = .ok (.aload_n 0, 1) := by decide +kernel
theorem dX8_meet_1 : decode cX8_meet 1 = .ok (.getfield 87, 3) := by decide +kernel
theorem dX8_meet_4 : decode cX8_meet 4 = .ok (.aload_n 0, 1) := by decide +kernel
theorem dX8_meet_5 : decode cX8_meet 5 = .ok (.getfield 93, 3) := by decide +kernel
theorem dX8_meet_8 : decode cX8_meet 8 = .ok (.if_icmp .ne 35, 3) := by decide +kernel
theorem dX8_meet_11 : decode cX8_meet 11 = .ok (.aload_n 0, 1) := by decide +kernel
theorem dX8_meet_12 : decode cX8_meet 12 = .ok (.getfield 96, 3) := by decide +kernel
theorem dX8_meet_15 : decode cX8_meet 15 = .ok (.ifCond .lt 28, 3) := by decide +kernel
theorem dX8_meet_18 : decode cX8_meet 18 = .ok (.aload_n 0, 1) := by decide +kernel
theorem dX8_meet_19 : decode cX8_meet 19 = .ok (.getfield 96, 3) := by decide +kernel
theorem dX8_meet_22 : decode cX8_meet 22 = .ok (.aload_n 0, 1) := by decide +kernel
theorem dX8_meet_23 : decode cX8_meet 23 = .ok (.getfield 11, 3) := by decide +kernel
theorem dX8_meet_26 : decode cX8_meet 26 = .ok (.arraylength, 1) := by decide +kernel
theorem dX8_meet_27 : decode cX8_meet 27 = .ok (.if_icmp .ge 16, 3) := by decide +kernel
theorem dX8_meet_30 : decode cX8_meet 30 = .ok (.aload_n 0, 1) := by decide +kernel
theorem dX8_meet_31 : decode cX8_meet 31 = .ok (.aload_n 0, 1) := by decide +kernel
theorem dX8_meet_32 : decode cX8_meet 32 = .ok (.getfield 11, 3) := by decide +kernel
theorem dX8_meet_35 : decode cX8_meet 35 = .ok (.aload_n 0, 1) := by decide +kernel
theorem dX8_meet_36 : decode cX8_meet 36 = .ok (.getfield 96, 3) := by decide +kernel
theorem dX8_meet_39 : decode cX8_meet 39 = .ok (.iaload, 1) := by decide +kernel
theorem dX8_meet_40 : decode cX8_meet 40 = .ok (.putfield 90, 3) := by decide +kernel
theorem dX8_meet_43 : decode cX8_meet 43 = .ok (.aload_n 0, 1) := by decide +kernel
theorem dX8_meet_44 : decode cX8_meet 44 = .ok (.dup, 1) := by decide +kernel
theorem dX8_meet_45 : decode cX8_meet 45 = .ok (.getfield 87, 3) := by decide +kernel
theorem dX8_meet_48 : decode cX8_meet 48 = .ok (.iconst 1, 1) := by decide +kernel
theorem dX8_meet_49 : decode cX8_meet 49 = .ok (.iadd, 1) := by decide +kernel
theorem dX8_meet_50 : decode cX8_meet 50 = .ok (.putfield 87, 3) := by decide +kernel
theorem dX8_meet_53 : decode cX8_meet 53 = .ok (.return_, 1) := by decide +kernel
theorem dX8_estimateFrom_0 : decode cX8_estimateFrom 0 = .ok (.aload_n 0, 1) := by decide +kernel
theorem dX8_estimateFrom_1 : decode cX8_estimateFrom 1 = .ok (.invokevirtual 99, 3) := by decide +kernel
theorem dX8_estimateFrom_4 : decode cX8_estimateFrom 4 = .ok (.ifCond .ne 5, 3) := by decide +kernel
theorem dX8_estimateFrom_7 : decode cX8_estimateFrom 7 = .ok (.lconst 0, 1) := by decide +kernel
theorem dX8_estimateFrom_8 : decode cX8_estimateFrom 8 = .ok (.lreturn, 1) := by decide +kernel
theorem dX8_estimateFrom_9 : decode cX8_estimateFrom 9 = .ok (.lconst 1, 1) := by decide +kernel
theorem dX8_estimateFrom_10 : decode cX8_estimateFrom 10 = .ok (.lstore_n 2, 1) := by decide +kernel
theorem dX8_estimateFrom_11 : decode cX8_estimateFrom 11 = .ok (.iload_n 1, 1) := by decide +kernel
theorem dX8_estimateFrom_12 : decode cX8_estimateFrom 12 = .ok (.istore 4, 2) := by decide +kernel
theorem dX8_estimateFrom_14 : decode cX8_estimateFrom 14 = .ok (.iconst 0, 1) := by decide +kernel
theorem dX8_estimateFrom_15 : decode cX8_estimateFrom 15 = .ok (.istore 5, 2) := by decide +kernel
theorem dX8_estimateFrom_17 : decode cX8_estimateFrom 17 = .ok (.iload 5, 2) := by decide +kernel
theorem dX8_estimateFrom_19 : decode cX8_estimateFrom 19 = .ok (.aload_n 0, 1) := by decide +kernel
theorem dX8_estimateFrom_20 : decode cX8_estimateFrom 20 = .ok (.getfield 69, 3) := by decide +kernel
theorem dX8_estimateFrom_23 : decode cX8_estimateFrom 23 = .ok (.if_icmp .ge 91, 3) := by decide +kernel
theorem dX8_estimateFrom_26 : decode cX8_estimateFrom 26 = .ok (.iload 5, 2) := by decide +kernel
theorem dX8_estimateFrom_28 : decode cX8_estimateFrom 28 = .ok (.aload_n 0, 1) := by decide +kernel
theorem dX8_estimateFrom_29 : decode cX8_estimateFrom 29 = .ok (.getfield 28, 3) := by decide +kernel
theorem dX8_estimateFrom_32 : decode cX8_estimateFrom 32 = .ok (.arraylength, 1) := by decide +kernel
theorem dX8_estimateFrom_33 : decode cX8_estimateFrom 33 = .ok (.if_icmp .ge 81, 3) := by decide +kernel
theorem dX8_estimateFrom_36 : decode cX8_estimateFrom 36 = .ok (.lload_n 2, 1) := by decide +kernel
theorem dX8_estimateFrom_37 : decode cX8_estimateFrom 37 = .ok (.lconst 0, 1) := by decide +kernel
theorem dX8_estimateFrom_38 : decode cX8_estimateFrom 38 = .ok (.lcmp, 1) := by decide +kernel
theorem dX8_estimateFrom_39 : decode cX8_estimateFrom 39 = .ok (.ifCond .le 75, 3) := by decide +kernel
theorem dX8_estimateFrom_42 : decode cX8_estimateFrom 42 = .ok (.aload_n 0, 1) := by decide +kernel
theorem dX8_estimateFrom_43 : decode cX8_estimateFrom 43 = .ok (.aload_n 0, 1) := by decide +kernel
theorem dX8_estimateFrom_44 : decode cX8_estimateFrom 44 = .ok (.getfield 28, 3) := by decide +kernel
theorem dX8_estimateFrom_47 : decode cX8_estimateFrom 47 = .ok (.iload 5, 2) := by decide +kernel
theorem dX8_estimateFrom_49 : decode cX8_estimateFrom 49 = .ok (.iaload, 1) := by decide +kernel
theorem dX8_estimateFrom_50 : decode cX8_estimateFrom 50 = .ok (.invokevirtual 119, 3) := by decide +kernel
theorem dX8_estimateFrom_53 : decode cX8_estimateFrom 53 = .ok (.istore 6, 2) := by decide +kernel
theorem dX8_estimateFrom_55 : decode cX8_estimateFrom 55 = .ok (.lload_n 2, 1) := by decide +kernel
theorem dX8_estimateFrom_56 : decode cX8_estimateFrom 56 = .ok (.iload 6, 2) := by decide +kernel
theorem dX8_estimateFrom_58 : decode cX8_estimateFrom 58 = .ok (.i2l, 1) := by decide +kernel
theorem dX8_estimateFrom_59 : decode cX8_estimateFrom 59 = .ok (.lmul, 1) := by decide +kernel
theorem dX8_estimateFrom_60 : decode cX8_estimateFrom 60 = .ok (.lstore_n 2, 1) := by decide +kernel
theorem dX8_estimateFrom_61 : decode cX8_estimateFrom 61 = .ok (.sipush 25173, 3) := by decide +kernel
theorem dX8_estimateFrom_64 : decode cX8_estimateFrom 64 = .ok (.iload 4, 2) := by decide +kernel
theorem dX8_estimateFrom_66 : decode cX8_estimateFrom 66 = .ok (.imul, 1) := by decide +kernel
theorem dX8_estimateFrom_67 : decode cX8_estimateFrom 67 = .ok (.sipush 13849, 3) := by decide +kernel
theorem dX8_estimateFrom_70 : decode cX8_estimateFrom 70 = .ok (.iadd, 1) := by decide +kernel
theorem dX8_estimateFrom_71 : decode cX8_estimateFrom 71 = .ok (.ldc 122, 2) := by decide +kernel
theorem dX8_estimateFrom_73 : decode cX8_estimateFrom 73 = .ok (.irem, 1) := by decide +kernel
theorem dX8_estimateFrom_74 : decode cX8_estimateFrom 74 = .ok (.istore 4, 2) := by decide +kernel
theorem dX8_estimateFrom_76 : decode cX8_estimateFrom 76 = .ok (.iload 6, 2) := by decide +kernel
theorem dX8_estimateFrom_78 : decode cX8_estimateFrom 78 = .ok (.ifCond .le 30, 3) := by decide +kernel
theorem dX8_estimateFrom_81 : decode cX8_estimateFrom 81 = .ok (.aload_n 0, 1) := by decide +kernel
theorem dX8_estimateFrom_82 : decode cX8_estimateFrom 82 = .ok (.aload_n 0, 1) := by decide +kernel
theorem dX8_estimateFrom_83 : decode cX8_estimateFrom 83 = .ok (.getfield 28, 3) := by decide +kernel
theorem dX8_estimateFrom_86 : decode cX8_estimateFrom 86 = .ok (.iload 5, 2) := by decide +kernel
theorem dX8_estimateFrom_88 : decode cX8_estimateFrom 88 = .ok (.iaload, 1) := by decide +kernel
theorem dX8_estimateFrom_89 : decode cX8_estimateFrom 89 = .ok (.aload_n 0, 1) := by decide +kernel
theorem dX8_estimateFrom_90 : decode cX8_estimateFrom 90 = .ok (.aload_n 0, 1) := by decide +kernel
theorem dX8_estimateFrom_91 : decode cX8_estimateFrom 91 = .ok (.getfield 28, 3) := by decide +kernel
theorem dX8_estimateFrom_94 : decode cX8_estimateFrom 94 = .ok (.iload 5, 2) := by decide +kernel
theorem dX8_estimateFrom_96 : decode cX8_estimateFrom 96 = .ok (.iaload, 1) := by decide +kernel
theorem dX8_estimateFrom_97 : decode cX8_estimateFrom 97 = .ok (.iload 4, 2) := by decide +kernel
theorem dX8_estimateFrom_99 : decode cX8_estimateFrom 99 = .ok (.iload 6, 2) := by decide +kernel
theorem dX8_estimateFrom_101 : decode cX8_estimateFrom 101 = .ok (.irem, 1) := by decide +kernel
theorem dX8_estimateFrom_102 : decode cX8_estimateFrom 102 = .ok (.invokevirtual 123, 3) := by decide +kernel
theorem dX8_estimateFrom_105 : decode cX8_estimateFrom 105 = .ok (.invokevirtual 58, 3) := by decide +kernel
theorem dX8_estimateFrom_108 : decode cX8_estimateFrom 108 = .ok (.iinc 5 1, 3) := by decide +kernel
theorem dX8_estimateFrom_111 : decode cX8_estimateFrom 111 = .ok (.goto (-94), 3) := by decide +kernel
theorem dX8_estimateFrom_114 : decode cX8_estimateFrom 114 = .ok (.lload_n 2, 1) := by decide +kernel
theorem dX8_estimateFrom_115 : decode cX8_estimateFrom 115 = .ok (.lreturn, 1) := by decide +kernel
theorem dX8_countChoices_0 : decode cX8_countChoices 0 = .ok (.iconst 0, 1) := by decide +kernel
theorem dX8_countChoices_1 : decode cX8_countChoices 1 = .ok (.istore_n 2, 1) := by decide +kernel
theorem dX8_countChoices_2 : decode cX8_countChoices 2 = .ok (.aload_n 0, 1) := by decide +kernel
theorem dX8_countChoices_3 : decode cX8_countChoices 3 = .ok (.iload_n 1, 1) := by decide +kernel
theorem dX8_countChoices_4 : decode cX8_countChoices 4 = .ok (.invokevirtual 110, 3) := by decide +kernel
theorem dX8_countChoices_7 : decode cX8_countChoices 7 = .ok (.istore_n 3, 1) := by decide +kernel
theorem dX8_countChoices_8 : decode cX8_countChoices 8 = .ok (.aload_n 0, 1) := by decide +kernel
theorem dX8_countChoices_9 : decode cX8_countChoices 9 = .ok (.iload_n 1, 1) := by decide +kernel
theorem dX8_countChoices_10 : decode cX8_countChoices 10 = .ok (.invokevirtual 113, 3) := by decide +kernel
theorem dX8_countChoices_13 : decode cX8_countChoices 13 = .ok (.istore 4, 2) := by decide +kernel
theorem dX8_countChoices_15 : decode cX8_countChoices 15 = .ok (.iload 4, 2) := by decide +kernel
theorem dX8_countChoices_17 : decode cX8_countChoices 17 = .ok (.iload_n 3, 1) := by decide +kernel
theorem dX8_countChoices_18 : decode cX8_countChoices 18 = .ok (.if_icmp .gt 21, 3) := by decide +kernel
theorem dX8_countChoices_21 : decode cX8_countChoices 21 = .ok (.aload_n 0, 1) := by decide +kernel
theorem dX8_countChoices_22 : decode cX8_countChoices 22 = .ok (.iload 4, 2) := by decide +kernel
theorem dX8_countChoices_24 : decode cX8_countChoices 24 = .ok (.invokevirtual 54, 3) := by decide +kernel
theorem dX8_countChoices_27 : decode cX8_countChoices 27 = .ok (.ifCond .eq 6, 3) := by decide +kernel
theorem dX8_countChoices_30 : decode cX8_countChoices 30 = .ok (.iinc 2 1, 3) := by decide +kernel
theorem dX8_countChoices_33 : decode cX8_countChoices 33 = .ok (.iinc 4 1, 3) := by decide +kernel
theorem dX8_countChoices_36 : decode cX8_countChoices 36 = .ok (.goto (-21), 3) := by decide +kernel
theorem dX8_countChoices_39 : decode cX8_countChoices 39 = .ok (.iload_n 2, 1) := by decide +kernel
theorem dX8_countChoices_40 : decode cX8_countChoices 40 = .ok (.ireturn, 1) := by decide +kernel
theorem dX8_choiceAt_0 : decode cX8_choiceAt 0 = .ok (.iconst 0, 1) := by decide +kernel
theorem dX8_choiceAt_1 : decode cX8_choiceAt 1 = .ok (.istore_n 3, 1) := by decide +kernel
theorem dX8_choiceAt_2 : decode cX8_choiceAt 2 = .ok (.aload_n 0, 1) := by decide +kernel
theorem dX8_choiceAt_3 : decode cX8_choiceAt 3 = .ok (.iload_n 1, 1) := by decide +kernel
theorem dX8_choiceAt_4 : decode cX8_choiceAt 4 = .ok (.invokevirtual 110, 3) := by decide +kernel
theorem dX8_choiceAt_7 : decode cX8_choiceAt 7 = .ok (.istore 4, 2) := by decide +kernel
theorem dX8_choiceAt_9 : decode cX8_choiceAt 9 = .ok (.aload_n 0, 1) := by decide +kernel
theorem dX8_choiceAt_10 : decode cX8_choiceAt 10 = .ok (.iload_n 1, 1) := by decide +kernel
theorem dX8_choiceAt_11 : decode cX8_choiceAt 11 = .ok (.invokevirtual 113, 3) := by decide +kernel
theorem dX8_choiceAt_14 : decode cX8_choiceAt 14 = .ok (.istore 5, 2) := by decide +kernel
theorem dX8_choiceAt_16 : decode cX8_choiceAt 16 = .ok (.iload 5, 2) := by decide +kernel
theorem dX8_choiceAt_18 : decode cX8_choiceAt 18 = .ok (.iload 4, 2) := by decide +kernel
theorem dX8_choiceAt_20 : decode cX8_choiceAt 20 = .ok (.if_icmp .gt 29, 3) := by decide +kernel
theorem dX8_choiceAt_23 : decode cX8_choiceAt 23 = .ok (.aload_n 0, 1) := by decide +kernel
theorem dX8_choiceAt_24 : decode cX8_choiceAt 24 = .ok (.iload 5, 2) := by decide +kernel
theorem dX8_choiceAt_26 : decode cX8_choiceAt 26 = .ok (.invokevirtual 54, 3) := by decide +kernel
theorem dX8_choiceAt_29 : decode cX8_choiceAt 29 = .ok (.ifCond .eq 14, 3) := by decide +kernel
theorem dX8_choiceAt_32 : decode cX8_choiceAt 32 = .ok (.iload_n 3, 1) := by decide +kernel
theorem dX8_choiceAt_33 : decode cX8_choiceAt 33 = .ok (.iload_n 2, 1) := by decide +kernel
theorem dX8_choiceAt_34 : decode cX8_choiceAt 34 = .ok (.if_icmp .ne 6, 3) := by decide +kernel
theorem dX8_choiceAt_37 : decode cX8_choiceAt 37 = .ok (.iload 5, 2) := by decide +kernel
theorem dX8_choiceAt_39 : decode cX8_choiceAt 39 = .ok (.ireturn, 1) := by decide +kernel
theorem dX8_choiceAt_40 : decode cX8_choiceAt 40 = .ok (.iinc 3 1, 3) := by decide +kernel
theorem dX8_choiceAt_43 : decode cX8_choiceAt 43 = .ok (.iinc 5 1, 3) := by decide +kernel
theorem dX8_choiceAt_46 : decode cX8_choiceAt 46 = .ok (.goto (-30), 3) := by decide +kernel
theorem dX8_choiceAt_49 : decode cX8_choiceAt 49 = .ok (.iconst 0, 1) := by decide +kernel
theorem dX8_choiceAt_50 : decode cX8_choiceAt 50 = .ok (.ireturn, 1) := by decide +kernel
theorem dX8_fits_0 : decode cX8_fits 0 = .ok (.aload_n 0, 1) := by decide +kernel
theorem dX8_fits_1 : decode cX8_fits 1 = .ok (.getfield 62, 3) := by decide +kernel
theorem dX8_fits_4 : decode cX8_fits 4 = .ok (.ifCond .eq 5, 3) := by decide +kernel
theorem dX8_fits_7 : decode cX8_fits 7 = .ok (.iconst 0, 1) := by decide +kernel
theorem dX8_fits_8 : decode cX8_fits 8 = .ok (.ireturn, 1) := by decide +kernel
theorem dX8_fits_9 : decode cX8_fits 9 = .ok (.iconst 0, 1) := by decide +kernel
theorem dX8_fits_10 : decode cX8_fits 10 = .ok (.istore_n 1, 1) := by decide +kernel
theorem dX8_fits_11 : decode cX8_fits 11 = .ok (.iload_n 1, 1) := by decide +kernel
theorem dX8_fits_12 : decode cX8_fits 12 = .ok (.iconst 2, 1) := by decide +kernel
theorem dX8_fits_13 : decode cX8_fits 13 = .ok (.aload_n 0, 1) := by decide +kernel
theorem dX8_fits_14 : decode cX8_fits 14 = .ok (.getfield 31, 3) := by decide +kernel
theorem dX8_fits_17 : decode cX8_fits 17 = .ok (.imul, 1) := by decide +kernel
theorem dX8_fits_18 : decode cX8_fits 18 = .ok (.iconst 2, 1) := by decide +kernel
theorem dX8_fits_19 : decode cX8_fits 19 = .ok (.iadd, 1) := by decide +kernel
theorem dX8_fits_20 : decode cX8_fits 20 = .ok (.if_icmp .ge 57, 3) := by decide +kernel
theorem dX8_fits_23 : decode cX8_fits 23 = .ok (.aload_n 0, 1) := by decide +kernel
theorem dX8_fits_24 : decode cX8_fits 24 = .ok (.iload_n 1, 1) := by decide +kernel
theorem dX8_fits_25 : decode cX8_fits 25 = .ok (.invokevirtual 126, 3) := by decide +kernel
theorem dX8_fits_28 : decode cX8_fits 28 = .ok (.ifCond .eq 49, 3) := by decide +kernel
theorem dX8_fits_31 : decode cX8_fits 31 = .ok (.aload_n 0, 1) := by decide +kernel
theorem dX8_fits_32 : decode cX8_fits 32 = .ok (.getfield 22, 3) := by decide +kernel
theorem dX8_fits_35 : decode cX8_fits 35 = .ok (.iload_n 1, 1) := by decide +kernel
theorem dX8_fits_36 : decode cX8_fits 36 = .ok (.iaload, 1) := by decide +kernel
theorem dX8_fits_37 : decode cX8_fits 37 = .ok (.ifCond .ne 19, 3) := by decide +kernel
theorem dX8_fits_40 : decode cX8_fits 40 = .ok (.aload_n 0, 1) := by decide +kernel
theorem dX8_fits_41 : decode cX8_fits 41 = .ok (.getfield 19, 3) := by decide +kernel
theorem dX8_fits_44 : decode cX8_fits 44 = .ok (.iload_n 1, 1) := by decide +kernel
theorem dX8_fits_45 : decode cX8_fits 45 = .ok (.iaload, 1) := by decide +kernel
theorem dX8_fits_46 : decode cX8_fits 46 = .ok (.aload_n 0, 1) := by decide +kernel
theorem dX8_fits_47 : decode cX8_fits 47 = .ok (.getfield 66, 3) := by decide +kernel
theorem dX8_fits_50 : decode cX8_fits 50 = .ok (.if_icmp .eq 21, 3) := by decide +kernel
theorem dX8_fits_53 : decode cX8_fits 53 = .ok (.goto 16, 3) := by decide +kernel
theorem dX8_fits_56 : decode cX8_fits 56 = .ok (.aload_n 0, 1) := by decide +kernel
theorem dX8_fits_57 : decode cX8_fits 57 = .ok (.getfield 19, 3) := by decide +kernel
theorem dX8_fits_60 : decode cX8_fits 60 = .ok (.iload_n 1, 1) := by decide +kernel
theorem dX8_fits_61 : decode cX8_fits 61 = .ok (.iaload, 1) := by decide +kernel
theorem dX8_fits_62 : decode cX8_fits 62 = .ok (.aload_n 0, 1) := by decide +kernel
theorem dX8_fits_63 : decode cX8_fits 63 = .ok (.getfield 66, 3) := by decide +kernel
theorem dX8_fits_66 : decode cX8_fits 66 = .ok (.if_icmp .lt 5, 3) := by decide +kernel
theorem dX8_fits_69 : decode cX8_fits 69 = .ok (.iconst 0, 1) := by decide +kernel
theorem dX8_fits_70 : decode cX8_fits 70 = .ok (.ireturn, 1) := by decide +kernel
theorem dX8_fits_71 : decode cX8_fits 71 = .ok (.iinc 1 1, 3) := by decide +kernel
theorem dX8_fits_74 : decode cX8_fits 74 = .ok (.goto (-63), 3) := by decide +kernel
theorem dX8_fits_77 : decode cX8_fits 77 = .ok (.iconst 1, 1) := by decide +kernel
theorem dX8_fits_78 : decode cX8_fits 78 = .ok (.ireturn, 1) := by decide +kernel
theorem dX8_lowestAt_0 : decode cX8_lowestAt 0 = .ok (.iconst 1, 1) := by decide +kernel
theorem dX8_lowestAt_1 : decode cX8_lowestAt 1 = .ok (.istore_n 2, 1) := by decide +kernel
theorem dX8_lowestAt_2 : decode cX8_lowestAt 2 = .ok (.iconst 0, 1) := by decide +kernel
theorem dX8_lowestAt_3 : decode cX8_lowestAt 3 = .ok (.istore_n 3, 1) := by decide +kernel
theorem dX8_lowestAt_4 : decode cX8_lowestAt 4 = .ok (.iload_n 3, 1) := by decide +kernel
theorem dX8_lowestAt_5 : decode cX8_lowestAt 5 = .ok (.iconst 4, 1) := by decide +kernel
theorem dX8_lowestAt_6 : decode cX8_lowestAt 6 = .ok (.if_icmp .ge 54, 3) := by decide +kernel
theorem dX8_lowestAt_9 : decode cX8_lowestAt 9 = .ok (.aload_n 0, 1) := by decide +kernel
theorem dX8_lowestAt_10 : decode cX8_lowestAt 10 = .ok (.iload_n 1, 1) := by decide +kernel
theorem dX8_lowestAt_11 : decode cX8_lowestAt 11 = .ok (.iload_n 3, 1) := by decide +kernel
theorem dX8_lowestAt_12 : decode cX8_lowestAt 12 = .ok (.invokevirtual 129, 3) := by decide +kernel
theorem dX8_lowestAt_15 : decode cX8_lowestAt 15 = .ok (.istore 4, 2) := by decide +kernel
theorem dX8_lowestAt_17 : decode cX8_lowestAt 17 = .ok (.aload_n 0, 1) := by decide +kernel
theorem dX8_lowestAt_18 : decode cX8_lowestAt 18 = .ok (.iload 4, 2) := by decide +kernel
theorem dX8_lowestAt_20 : decode cX8_lowestAt 20 = .ok (.invokevirtual 126, 3) := by decide +kernel
theorem dX8_lowestAt_23 : decode cX8_lowestAt 23 = .ok (.ifCond .eq 31, 3) := by decide +kernel
theorem dX8_lowestAt_26 : decode cX8_lowestAt 26 = .ok (.aload_n 0, 1) := by decide +kernel
theorem dX8_lowestAt_27 : decode cX8_lowestAt 27 = .ok (.getfield 22, 3) := by decide +kernel
theorem dX8_lowestAt_30 : decode cX8_lowestAt 30 = .ok (.iload 4, 2) := by decide +kernel
theorem dX8_lowestAt_32 : decode cX8_lowestAt 32 = .ok (.iaload, 1) := by decide +kernel
theorem dX8_lowestAt_33 : decode cX8_lowestAt 33 = .ok (.iconst 1, 1) := by decide +kernel
theorem dX8_lowestAt_34 : decode cX8_lowestAt 34 = .ok (.if_icmp .ne 20, 3) := by decide +kernel
theorem dX8_lowestAt_37 : decode cX8_lowestAt 37 = .ok (.iload_n 2, 1) := by decide +kernel
theorem dX8_lowestAt_38 : decode cX8_lowestAt 38 = .ok (.aload_n 0, 1) := by decide +kernel
theorem dX8_lowestAt_39 : decode cX8_lowestAt 39 = .ok (.getfield 66, 3) := by decide +kernel
theorem dX8_lowestAt_42 : decode cX8_lowestAt 42 = .ok (.aload_n 0, 1) := by decide +kernel
theorem dX8_lowestAt_43 : decode cX8_lowestAt 43 = .ok (.getfield 19, 3) := by decide +kernel
theorem dX8_lowestAt_46 : decode cX8_lowestAt 46 = .ok (.iload 4, 2) := by decide +kernel
theorem dX8_lowestAt_48 : decode cX8_lowestAt 48 = .ok (.iaload, 1) := by decide +kernel
theorem dX8_lowestAt_49 : decode cX8_lowestAt 49 = .ok (.isub, 1) := by decide +kernel
theorem dX8_lowestAt_50 : decode cX8_lowestAt 50 = .ok (.invokestatic 132, 3) := by decide +kernel
theorem dX8_lowestAt_53 : decode cX8_lowestAt 53 = .ok (.istore_n 2, 1) := by decide +kernel
theorem dX8_lowestAt_54 : decode cX8_lowestAt 54 = .ok (.iinc 3 1, 3) := by decide +kernel
theorem dX8_lowestAt_57 : decode cX8_lowestAt 57 = .ok (.goto (-53), 3) := by decide +kernel
theorem dX8_lowestAt_60 : decode cX8_lowestAt 60 = .ok (.iload_n 2, 1) := by decide +kernel
theorem dX8_lowestAt_61 : decode cX8_lowestAt 61 = .ok (.ireturn, 1) := by decide +kernel
theorem dX8_highestAt_0 : decode cX8_highestAt 0 = .ok (.aload_n 0, 1) := by decide +kernel
theorem dX8_highestAt_1 : decode cX8_highestAt 1 = .ok (.getfield 31, 3) := by decide +kernel
theorem dX8_highestAt_4 : decode cX8_highestAt 4 = .ok (.aload_n 0, 1) := by decide +kernel
theorem dX8_highestAt_5 : decode cX8_highestAt 5 = .ok (.getfield 31, 3) := by decide +kernel
theorem dX8_highestAt_8 : decode cX8_highestAt 8 = .ok (.imul, 1) := by decide +kernel
theorem dX8_highestAt_9 : decode cX8_highestAt 9 = .ok (.istore_n 2, 1) := by decide +kernel
theorem dX8_highestAt_10 : decode cX8_highestAt 10 = .ok (.iconst 0, 1) := by decide +kernel
theorem dX8_highestAt_11 : decode cX8_highestAt 11 = .ok (.istore_n 3, 1) := by decide +kernel
theorem dX8_highestAt_12 : decode cX8_highestAt 12 = .ok (.iload_n 3, 1) := by decide +kernel
theorem dX8_highestAt_13 : decode cX8_highestAt 13 = .ok (.iconst 4, 1) := by decide +kernel
theorem dX8_highestAt_14 : decode cX8_highestAt 14 = .ok (.if_icmp .ge 65, 3) := by decide +kernel
theorem dX8_highestAt_17 : decode cX8_highestAt 17 = .ok (.aload_n 0, 1) := by decide +kernel
theorem dX8_highestAt_18 : decode cX8_highestAt 18 = .ok (.iload_n 1, 1) := by decide +kernel
theorem dX8_highestAt_19 : decode cX8_highestAt 19 = .ok (.iload_n 3, 1) := by decide +kernel
theorem dX8_highestAt_20 : decode cX8_highestAt 20 = .ok (.invokevirtual 129, 3) := by decide +kernel
theorem dX8_highestAt_23 : decode cX8_highestAt 23 = .ok (.istore 4, 2) := by decide +kernel
theorem dX8_highestAt_25 : decode cX8_highestAt 25 = .ok (.aload_n 0, 1) := by decide +kernel
theorem dX8_highestAt_26 : decode cX8_highestAt 26 = .ok (.iload 4, 2) := by decide +kernel
theorem dX8_highestAt_28 : decode cX8_highestAt 28 = .ok (.invokevirtual 126, 3) := by decide +kernel
theorem dX8_highestAt_31 : decode cX8_highestAt 31 = .ok (.ifCond .eq 42, 3) := by decide +kernel
theorem dX8_highestAt_34 : decode cX8_highestAt 34 = .ok (.aload_n 0, 1) := by decide +kernel
theorem dX8_highestAt_35 : decode cX8_highestAt 35 = .ok (.getfield 66, 3) := by decide +kernel
theorem dX8_highestAt_38 : decode cX8_highestAt 38 = .ok (.aload_n 0, 1) := by decide +kernel
theorem dX8_highestAt_39 : decode cX8_highestAt 39 = .ok (.getfield 19, 3) := by decide +kernel
theorem dX8_highestAt_42 : decode cX8_highestAt 42 = .ok (.iload 4, 2) := by decide +kernel
theorem dX8_highestAt_44 : decode cX8_highestAt 44 = .ok (.iaload, 1) := by decide +kernel
theorem dX8_highestAt_45 : decode cX8_highestAt 45 = .ok (.isub, 1) := by decide +kernel
theorem dX8_highestAt_46 : decode cX8_highestAt 46 = .ok (.istore 5, 2) := by decide +kernel
theorem dX8_highestAt_48 : decode cX8_highestAt 48 = .ok (.iload_n 2, 1) := by decide +kernel
theorem dX8_highestAt_49 : decode cX8_highestAt 49 = .ok (.aload_n 0, 1) := by decide +kernel
theorem dX8_highestAt_50 : decode cX8_highestAt 50 = .ok (.getfield 22, 3) := by decide +kernel
theorem dX8_highestAt_53 : decode cX8_highestAt 53 = .ok (.iload 4, 2) := by decide +kernel
theorem dX8_highestAt_55 : decode cX8_highestAt 55 = .ok (.iaload, 1) := by decide +kernel
theorem dX8_highestAt_56 : decode cX8_highestAt 56 = .ok (.iconst 1, 1) := by decide +kernel
theorem dX8_highestAt_57 : decode cX8_highestAt 57 = .ok (.if_icmp .ne 8, 3) := by decide +kernel
theorem dX8_highestAt_60 : decode cX8_highestAt 60 = .ok (.iload 5, 2) := by decide +kernel
theorem dX8_highestAt_62 : decode cX8_highestAt 62 = .ok (.goto 7, 3) := by decide +kernel
theorem dX8_highestAt_65 : decode cX8_highestAt 65 = .ok (.iload 5, 2) := by decide +kernel
theorem dX8_highestAt_67 : decode cX8_highestAt 67 = .ok (.iconst 1, 1) := by decide +kernel
theorem dX8_highestAt_68 : decode cX8_highestAt 68 = .ok (.isub, 1) := by decide +kernel
theorem dX8_highestAt_69 : decode cX8_highestAt 69 = .ok (.invokestatic 137, 3) := by decide +kernel
theorem dX8_highestAt_72 : decode cX8_highestAt 72 = .ok (.istore_n 2, 1) := by decide +kernel
theorem dX8_highestAt_73 : decode cX8_highestAt 73 = .ok (.iinc 3 1, 3) := by decide +kernel
theorem dX8_highestAt_76 : decode cX8_highestAt 76 = .ok (.goto (-64), 3) := by decide +kernel
theorem dX8_highestAt_79 : decode cX8_highestAt 79 = .ok (.iload_n 2, 1) := by decide +kernel
theorem dX8_highestAt_80 : decode cX8_highestAt 80 = .ok (.ireturn, 1) := by decide +kernel
theorem dX8_lay_0 : decode cX8_lay 0 = .ok (.iload_n 1, 1) := by decide +kernel
theorem dX8_lay_1 : decode cX8_lay 1 = .ok (.ifCond .lt 41, 3) := by decide +kernel
theorem dX8_lay_4 : decode cX8_lay 4 = .ok (.iload_n 1, 1) := by decide +kernel
theorem dX8_lay_5 : decode cX8_lay 5 = .ok (.aload_n 0, 1) := by decide +kernel
theorem dX8_lay_6 : decode cX8_lay 6 = .ok (.getfield 11, 3) := by decide +kernel
theorem dX8_lay_9 : decode cX8_lay 9 = .ok (.arraylength, 1) := by decide +kernel
theorem dX8_lay_10 : decode cX8_lay 10 = .ok (.if_icmp .ge 32, 3) := by decide +kernel
theorem dX8_lay_13 : decode cX8_lay 13 = .ok (.aload_n 0, 1) := by decide +kernel
theorem dX8_lay_14 : decode cX8_lay 14 = .ok (.iload_n 2, 1) := by decide +kernel
theorem dX8_lay_15 : decode cX8_lay 15 = .ok (.invokevirtual 54, 3) := by decide +kernel
theorem dX8_lay_18 : decode cX8_lay 18 = .ok (.ifCond .eq 24, 3) := by decide +kernel
theorem dX8_lay_21 : decode cX8_lay 21 = .ok (.aload_n 0, 1) := by decide +kernel
theorem dX8_lay_22 : decode cX8_lay 22 = .ok (.getfield 11, 3) := by decide +kernel
theorem dX8_lay_25 : decode cX8_lay 25 = .ok (.iload_n 1, 1) := by decide +kernel
theorem dX8_lay_26 : decode cX8_lay 26 = .ok (.iload_n 2, 1) := by decide +kernel
theorem dX8_lay_27 : decode cX8_lay 27 = .ok (.iastore, 1) := by decide +kernel
theorem dX8_lay_28 : decode cX8_lay 28 = .ok (.aload_n 0, 1) := by decide +kernel
theorem dX8_lay_29 : decode cX8_lay 29 = .ok (.getfield 15, 3) := by decide +kernel
theorem dX8_lay_32 : decode cX8_lay 32 = .ok (.iload_n 2, 1) := by decide +kernel
theorem dX8_lay_33 : decode cX8_lay 33 = .ok (.iconst 1, 1) := by decide +kernel
theorem dX8_lay_34 : decode cX8_lay 34 = .ok (.bastore, 1) := by decide +kernel
theorem dX8_lay_35 : decode cX8_lay 35 = .ok (.aload_n 0, 1) := by decide +kernel
theorem dX8_lay_36 : decode cX8_lay 36 = .ok (.iload_n 1, 1) := by decide +kernel
theorem dX8_lay_37 : decode cX8_lay 37 = .ok (.iload_n 2, 1) := by decide +kernel
theorem dX8_lay_38 : decode cX8_lay 38 = .ok (.iconst (-1), 1) := by decide +kernel
theorem dX8_lay_39 : decode cX8_lay 39 = .ok (.invokevirtual 140, 3) := by decide +kernel
theorem dX8_lay_42 : decode cX8_lay 42 = .ok (.return_, 1) := by decide +kernel
theorem dX8_lift_0 : decode cX8_lift 0 = .ok (.iload_n 2, 1) := by decide +kernel
theorem dX8_lift_1 : decode cX8_lift 1 = .ok (.ifCond .lt 27, 3) := by decide +kernel
theorem dX8_lift_4 : decode cX8_lift 4 = .ok (.iload_n 2, 1) := by decide +kernel
theorem dX8_lift_5 : decode cX8_lift 5 = .ok (.aload_n 0, 1) := by decide +kernel
theorem dX8_lift_6 : decode cX8_lift 6 = .ok (.getfield 15, 3) := by decide +kernel
theorem dX8_lift_9 : decode cX8_lift 9 = .ok (.arraylength, 1) := by decide +kernel
theorem dX8_lift_10 : decode cX8_lift 10 = .ok (.if_icmp .ge 18, 3) := by decide +kernel
theorem dX8_lift_13 : decode cX8_lift 13 = .ok (.aload_n 0, 1) := by decide +kernel
theorem dX8_lift_14 : decode cX8_lift 14 = .ok (.getfield 15, 3) := by decide +kernel
theorem dX8_lift_17 : decode cX8_lift 17 = .ok (.iload_n 2, 1) := by decide +kernel
theorem dX8_lift_18 : decode cX8_lift 18 = .ok (.iconst 0, 1) := by decide +kernel
theorem dX8_lift_19 : decode cX8_lift 19 = .ok (.bastore, 1) := by decide +kernel
theorem dX8_lift_20 : decode cX8_lift 20 = .ok (.aload_n 0, 1) := by decide +kernel
theorem dX8_lift_21 : decode cX8_lift 21 = .ok (.iload_n 1, 1) := by decide +kernel
theorem dX8_lift_22 : decode cX8_lift 22 = .ok (.iload_n 2, 1) := by decide +kernel
theorem dX8_lift_23 : decode cX8_lift 23 = .ok (.ineg, 1) := by decide +kernel
theorem dX8_lift_24 : decode cX8_lift 24 = .ok (.iconst 1, 1) := by decide +kernel
theorem dX8_lift_25 : decode cX8_lift 25 = .ok (.invokevirtual 140, 3) := by decide +kernel
theorem dX8_lift_28 : decode cX8_lift 28 = .ok (.return_, 1) := by decide +kernel
theorem dX8_tally_0 : decode cX8_tally 0 = .ok (.iconst 0, 1) := by decide +kernel
theorem dX8_tally_1 : decode cX8_tally 1 = .ok (.istore 4, 2) := by decide +kernel
theorem dX8_tally_3 : decode cX8_tally 3 = .ok (.iload 4, 2) := by decide +kernel
theorem dX8_tally_5 : decode cX8_tally 5 = .ok (.iconst 4, 1) := by decide +kernel
theorem dX8_tally_6 : decode cX8_tally 6 = .ok (.if_icmp .ge 49, 3) := by decide +kernel
theorem dX8_tally_9 : decode cX8_tally 9 = .ok (.aload_n 0, 1) := by decide +kernel
theorem dX8_tally_10 : decode cX8_tally 10 = .ok (.iload_n 1, 1) := by decide +kernel
theorem dX8_tally_11 : decode cX8_tally 11 = .ok (.iload 4, 2) := by decide +kernel
theorem dX8_tally_13 : decode cX8_tally 13 = .ok (.invokevirtual 129, 3) := by decide +kernel
theorem dX8_tally_16 : decode cX8_tally 16 = .ok (.istore 5, 2) := by decide +kernel
theorem dX8_tally_18 : decode cX8_tally 18 = .ok (.aload_n 0, 1) := by decide +kernel
theorem dX8_tally_19 : decode cX8_tally 19 = .ok (.iload 5, 2) := by decide +kernel
theorem dX8_tally_21 : decode cX8_tally 21 = .ok (.invokevirtual 126, 3) := by decide +kernel
theorem dX8_tally_24 : decode cX8_tally 24 = .ok (.ifCond .eq 25, 3) := by decide +kernel
theorem dX8_tally_27 : decode cX8_tally 27 = .ok (.aload_n 0, 1) := by decide +kernel
theorem dX8_tally_28 : decode cX8_tally 28 = .ok (.getfield 19, 3) := by decide +kernel
theorem dX8_tally_31 : decode cX8_tally 31 = .ok (.iload 5, 2) := by decide +kernel
theorem dX8_tally_33 : decode cX8_tally 33 = .ok (.dup2, 1) := by decide +kernel
theorem dX8_tally_34 : decode cX8_tally 34 = .ok (.iaload, 1) := by decide +kernel
theorem dX8_tally_35 : decode cX8_tally 35 = .ok (.iload_n 2, 1) := by decide +kernel
theorem dX8_tally_36 : decode cX8_tally 36 = .ok (.iadd, 1) := by decide +kernel
theorem dX8_tally_37 : decode cX8_tally 37 = .ok (.iastore, 1) := by decide +kernel
theorem dX8_tally_38 : decode cX8_tally 38 = .ok (.aload_n 0, 1) := by decide +kernel
theorem dX8_tally_39 : decode cX8_tally 39 = .ok (.getfield 22, 3) := by decide +kernel
theorem dX8_tally_42 : decode cX8_tally 42 = .ok (.iload 5, 2) := by decide +kernel
theorem dX8_tally_44 : decode cX8_tally 44 = .ok (.dup2, 1) := by decide +kernel
theorem dX8_tally_45 : decode cX8_tally 45 = .ok (.iaload, 1) := by decide +kernel
theorem dX8_tally_46 : decode cX8_tally 46 = .ok (.iload_n 3, 1) := by decide +kernel
theorem dX8_tally_47 : decode cX8_tally 47 = .ok (.iadd, 1) := by decide +kernel
theorem dX8_tally_48 : decode cX8_tally 48 = .ok (.iastore, 1) := by decide +kernel
theorem dX8_tally_49 : decode cX8_tally 49 = .ok (.iinc 4 1, 3) := by decide +kernel
theorem dX8_tally_52 : decode cX8_tally 52 = .ok (.goto (-49), 3) := by decide +kernel
theorem dX8_tally_55 : decode cX8_tally 55 = .ok (.return_, 1) := by decide +kernel
theorem dX8_lineAt_0 : decode cX8_lineAt 0 = .ok (.iload_n 1, 1) := by decide +kernel
theorem dX8_lineAt_1 : decode cX8_lineAt 1 = .ok (.iconst 4, 1) := by decide +kernel
theorem dX8_lineAt_2 : decode cX8_lineAt 2 = .ok (.imul, 1) := by decide +kernel
theorem dX8_lineAt_3 : decode cX8_lineAt 3 = .ok (.iload_n 2, 1) := by decide +kernel
theorem dX8_lineAt_4 : decode cX8_lineAt 4 = .ok (.iadd, 1) := by decide +kernel
theorem dX8_lineAt_5 : decode cX8_lineAt 5 = .ok (.istore_n 3, 1) := by decide +kernel
theorem dX8_lineAt_6 : decode cX8_lineAt 6 = .ok (.iload_n 3, 1) := by decide +kernel
theorem dX8_lineAt_7 : decode cX8_lineAt 7 = .ok (.ifCond .lt 21, 3) := by decide +kernel
theorem dX8_lineAt_10 : decode cX8_lineAt 10 = .ok (.iload_n 3, 1) := by decide +kernel
theorem dX8_lineAt_11 : decode cX8_lineAt 11 = .ok (.aload_n 0, 1) := by decide +kernel
theorem dX8_lineAt_12 : decode cX8_lineAt 12 = .ok (.getfield 25, 3) := by decide +kernel
theorem dX8_lineAt_15 : decode cX8_lineAt 15 = .ok (.arraylength, 1) := by decide +kernel
theorem dX8_lineAt_16 : decode cX8_lineAt 16 = .ok (.if_icmp .ge 12, 3) := by decide +kernel
theorem dX8_lineAt_19 : decode cX8_lineAt 19 = .ok (.aload_n 0, 1) := by decide +kernel
theorem dX8_lineAt_20 : decode cX8_lineAt 20 = .ok (.getfield 25, 3) := by decide +kernel
theorem dX8_lineAt_23 : decode cX8_lineAt 23 = .ok (.iload_n 3, 1) := by decide +kernel
theorem dX8_lineAt_24 : decode cX8_lineAt 24 = .ok (.iaload, 1) := by decide +kernel
theorem dX8_lineAt_25 : decode cX8_lineAt 25 = .ok (.goto 4, 3) := by decide +kernel
theorem dX8_lineAt_28 : decode cX8_lineAt 28 = .ok (.iconst (-1), 1) := by decide +kernel
theorem dX8_lineAt_29 : decode cX8_lineAt 29 = .ok (.ireturn, 1) := by decide +kernel
theorem dX8_isLine_0 : decode cX8_isLine 0 = .ok (.iload_n 1, 1) := by decide +kernel
theorem dX8_isLine_1 : decode cX8_isLine 1 = .ok (.ifCond .lt 25, 3) := by decide +kernel
theorem dX8_isLine_4 : decode cX8_isLine 4 = .ok (.iload_n 1, 1) := by decide +kernel
theorem dX8_isLine_5 : decode cX8_isLine 5 = .ok (.aload_n 0, 1) := by decide +kernel
theorem dX8_isLine_6 : decode cX8_isLine 6 = .ok (.getfield 19, 3) := by decide +kernel
theorem dX8_isLine_9 : decode cX8_isLine 9 = .ok (.arraylength, 1) := by decide +kernel
theorem dX8_isLine_10 : decode cX8_isLine 10 = .ok (.if_icmp .ge 16, 3) := by decide +kernel
theorem dX8_isLine_13 : decode cX8_isLine 13 = .ok (.iload_n 1, 1) := by decide +kernel
theorem dX8_isLine_14 : decode cX8_isLine 14 = .ok (.aload_n 0, 1) := by decide +kernel
theorem dX8_isLine_15 : decode cX8_isLine 15 = .ok (.getfield 22, 3) := by decide +kernel
theorem dX8_isLine_18 : decode cX8_isLine 18 = .ok (.arraylength, 1) := by decide +kernel
theorem dX8_isLine_19 : decode cX8_isLine 19 = .ok (.if_icmp .ge 7, 3) := by decide +kernel
theorem dX8_isLine_22 : decode cX8_isLine 22 = .ok (.iconst 1, 1) := by decide +kernel
theorem dX8_isLine_23 : decode cX8_isLine 23 = .ok (.goto 4, 3) := by decide +kernel
theorem dX8_isLine_26 : decode cX8_isLine 26 = .ok (.iconst 0, 1) := by decide +kernel
theorem dX8_isLine_27 : decode cX8_isLine 27 = .ok (.ireturn, 1) := by decide +kernel
theorem dX8_isFree_0 : decode cX8_isFree 0 = .ok (.iload_n 1, 1) := by decide +kernel
theorem dX8_isFree_1 : decode cX8_isFree 1 = .ok (.iconst 1, 1) := by decide +kernel
theorem dX8_isFree_2 : decode cX8_isFree 2 = .ok (.if_icmp .lt 38, 3) := by decide +kernel
theorem dX8_isFree_5 : decode cX8_isFree 5 = .ok (.iload_n 1, 1) := by decide +kernel
theorem dX8_isFree_6 : decode cX8_isFree 6 = .ok (.aload_n 0, 1) := by decide +kernel
theorem dX8_isFree_7 : decode cX8_isFree 7 = .ok (.getfield 31, 3) := by decide +kernel
theorem dX8_isFree_10 : decode cX8_isFree 10 = .ok (.aload_n 0, 1) := by decide +kernel
theorem dX8_isFree_11 : decode cX8_isFree 11 = .ok (.getfield 31, 3) := by decide +kernel
theorem dX8_isFree_14 : decode cX8_isFree 14 = .ok (.imul, 1) := by decide +kernel
theorem dX8_isFree_15 : decode cX8_isFree 15 = .ok (.if_icmp .gt 25, 3) := by decide +kernel
theorem dX8_isFree_18 : decode cX8_isFree 18 = .ok (.iload_n 1, 1) := by decide +kernel
theorem dX8_isFree_19 : decode cX8_isFree 19 = .ok (.aload_n 0, 1) := by decide +kernel
theorem dX8_isFree_20 : decode cX8_isFree 20 = .ok (.getfield 15, 3) := by decide +kernel
theorem dX8_isFree_23 : decode cX8_isFree 23 = .ok (.arraylength, 1) := by decide +kernel
theorem dX8_isFree_24 : decode cX8_isFree 24 = .ok (.if_icmp .ge 16, 3) := by decide +kernel
theorem dX8_isFree_27 : decode cX8_isFree 27 = .ok (.aload_n 0, 1) := by decide +kernel
theorem dX8_isFree_28 : decode cX8_isFree 28 = .ok (.getfield 15, 3) := by decide +kernel
theorem dX8_isFree_31 : decode cX8_isFree 31 = .ok (.iload_n 1, 1) := by decide +kernel
theorem dX8_isFree_32 : decode cX8_isFree 32 = .ok (.baload, 1) := by decide +kernel
theorem dX8_isFree_33 : decode cX8_isFree 33 = .ok (.ifCond .ne 7, 3) := by decide +kernel
theorem dX8_isFree_36 : decode cX8_isFree 36 = .ok (.iconst 1, 1) := by decide +kernel
theorem dX8_isFree_37 : decode cX8_isFree 37 = .ok (.goto 4, 3) := by decide +kernel
theorem dX8_isFree_40 : decode cX8_isFree 40 = .ok (.iconst 0, 1) := by decide +kernel
theorem dX8_isFree_41 : decode cX8_isFree 41 = .ok (.ireturn, 1) := by decide +kernel
theorem dX9_tell_0 : decode cX9_tell 0 = .ok (.aload_n 0, 1) := by decide +kernel
theorem dX9_tell_1 : decode cX9_tell 1 = .ok (.invokevirtual 9, 3) := by decide +kernel
theorem dX9_tell_4 : decode cX9_tell 4 = .ok (.iconst 1, 1) := by decide +kernel
theorem dX9_tell_5 : decode cX9_tell 5 = .ok (.if_icmp .ne 13, 3) := by decide +kernel
theorem dX9_tell_8 : decode cX9_tell 8 = .ok (.aload_n 0, 1) := by decide +kernel
theorem dX9_tell_9 : decode cX9_tell 9 = .ok (.iconst 0, 1) := by decide +kernel
theorem dX9_tell_10 : decode cX9_tell 10 = .ok (.invokevirtual 15, 3) := by decide +kernel
theorem dX9_tell_13 : decode cX9_tell 13 = .ok (.iload_n 1, 1) := by decide +kernel
theorem dX9_tell_14 : decode cX9_tell 14 = .ok (.invokestatic 19, 3) := by decide +kernel
theorem dX9_tell_17 : decode cX9_tell 17 = .ok (.ireturn, 1) := by decide +kernel
theorem dX9_tell_18 : decode cX9_tell 18 = .ok (.iconst 0, 1) := by decide +kernel
theorem dX9_tell_19 : decode cX9_tell 19 = .ok (.istore_n 2, 1) := by decide +kernel
theorem dX9_tell_20 : decode cX9_tell 20 = .ok (.iconst 0, 1) := by decide +kernel
theorem dX9_tell_21 : decode cX9_tell 21 = .ok (.istore_n 3, 1) := by decide +kernel
theorem dX9_tell_22 : decode cX9_tell 22 = .ok (.iload_n 3, 1) := by decide +kernel
theorem dX9_tell_23 : decode cX9_tell 23 = .ok (.aload_n 0, 1) := by decide +kernel
theorem dX9_tell_24 : decode cX9_tell 24 = .ok (.invokevirtual 25, 3) := by decide +kernel
theorem dX9_tell_27 : decode cX9_tell 27 = .ok (.if_icmp .ge 41, 3) := by decide +kernel
theorem dX9_tell_30 : decode cX9_tell 30 = .ok (.aload_n 0, 1) := by decide +kernel
theorem dX9_tell_31 : decode cX9_tell 31 = .ok (.iload_n 3, 1) := by decide +kernel
theorem dX9_tell_32 : decode cX9_tell 32 = .ok (.invokestatic 28, 3) := by decide +kernel
theorem dX9_tell_35 : decode cX9_tell 35 = .ok (.istore 4, 2) := by decide +kernel
theorem dX9_tell_37 : decode cX9_tell 37 = .ok (.iload 4, 2) := by decide +kernel
theorem dX9_tell_39 : decode cX9_tell 39 = .ok (.iconst (-1), 1) := by decide +kernel
theorem dX9_tell_40 : decode cX9_tell 40 = .ok (.if_icmp .eq 22, 3) := by decide +kernel
theorem dX9_tell_43 : decode cX9_tell 43 = .ok (.iload_n 1, 1) := by decide +kernel
theorem dX9_tell_44 : decode cX9_tell 44 = .ok (.ifCond .eq 15, 3) := by decide +kernel
theorem dX9_tell_47 : decode cX9_tell 47 = .ok (.iload_n 1, 1) := by decide +kernel
theorem dX9_tell_48 : decode cX9_tell 48 = .ok (.iconst 1, 1) := by decide +kernel
theorem dX9_tell_49 : decode cX9_tell 49 = .ok (.if_icmp .ne 7, 3) := by decide +kernel
theorem dX9_tell_52 : decode cX9_tell 52 = .ok (.iload_n 3, 1) := by decide +kernel
theorem dX9_tell_53 : decode cX9_tell 53 = .ok (.goto 5, 3) := by decide +kernel
theorem dX9_tell_56 : decode cX9_tell 56 = .ok (.iload 4, 2) := by decide +kernel
theorem dX9_tell_58 : decode cX9_tell 58 = .ok (.ireturn, 1) := by decide +kernel
theorem dX9_tell_59 : decode cX9_tell 59 = .ok (.iinc 2 1, 3) := by decide +kernel
theorem dX9_tell_62 : decode cX9_tell 62 = .ok (.iinc 3 1, 3) := by decide +kernel
theorem dX9_tell_65 : decode cX9_tell 65 = .ok (.goto (-43), 3) := by decide +kernel
theorem dX9_tell_68 : decode cX9_tell 68 = .ok (.iload_n 1, 1) := by decide +kernel
theorem dX9_tell_69 : decode cX9_tell 69 = .ok (.ifCond .ne 7, 3) := by decide +kernel
theorem dX9_tell_72 : decode cX9_tell 72 = .ok (.iload_n 2, 1) := by decide +kernel
theorem dX9_tell_73 : decode cX9_tell 73 = .ok (.goto 4, 3) := by decide +kernel
theorem dX9_tell_76 : decode cX9_tell 76 = .ok (.iconst (-1), 1) := by decide +kernel
theorem dX9_tell_77 : decode cX9_tell 77 = .ok (.ireturn, 1) := by decide +kernel
theorem dX9_tellOfOnePoint_0 : decode cX9_tellOfOnePoint 0 = .ok (.iload_n 1, 1) := by decide +kernel
theorem dX9_tellOfOnePoint_1 : decode cX9_tellOfOnePoint 1 = .ok (.lookupswitch 43 #[(0, 27), (1, 41)], 27) := by decide +kernel
theorem dX9_tellOfOnePoint_28 : decode cX9_tellOfOnePoint 28 = .ok (.iload_n 0, 1) := by decide +kernel
theorem dX9_tellOfOnePoint_29 : decode cX9_tellOfOnePoint 29 = .ok (.ifCond .ne 9, 3) := by decide +kernel
theorem dX9_tellOfOnePoint_32 : decode cX9_tellOfOnePoint 32 = .ok (.sipush 999, 3) := by decide +kernel
theorem dX9_tellOfOnePoint_35 : decode cX9_tellOfOnePoint 35 = .ok (.goto 6, 3) := by decide +kernel
theorem dX9_tellOfOnePoint_38 : decode cX9_tellOfOnePoint 38 = .ok (.sipush 998, 3) := by decide +kernel
theorem dX9_tellOfOnePoint_41 : decode cX9_tellOfOnePoint 41 = .ok (.ireturn, 1) := by decide +kernel
theorem dX9_tellOfOnePoint_42 : decode cX9_tellOfOnePoint 42 = .ok (.iconst 0, 1) := by decide +kernel
theorem dX9_tellOfOnePoint_43 : decode cX9_tellOfOnePoint 43 = .ok (.ireturn, 1) := by decide +kernel
theorem dX9_tellOfOnePoint_44 : decode cX9_tellOfOnePoint 44 = .ok (.iload_n 0, 1) := by decide +kernel
theorem dX9_tellOfOnePoint_45 : decode cX9_tellOfOnePoint 45 = .ok (.iconst 1, 1) := by decide +kernel
theorem dX9_tellOfOnePoint_46 : decode cX9_tellOfOnePoint 46 = .ok (.if_icmp .ne 7, 3) := by decide +kernel
theorem dX9_tellOfOnePoint_49 : decode cX9_tellOfOnePoint 49 = .ok (.iconst 2, 1) := by decide +kernel
theorem dX9_tellOfOnePoint_50 : decode cX9_tellOfOnePoint 50 = .ok (.goto 4, 3) := by decide +kernel
theorem dX9_tellOfOnePoint_53 : decode cX9_tellOfOnePoint 53 = .ok (.iconst 1, 1) := by decide +kernel
theorem dX9_tellOfOnePoint_54 : decode cX9_tellOfOnePoint 54 = .ok (.ireturn, 1) := by decide +kernel
theorem dX9_mendingAt_0 : decode cX9_mendingAt 0 = .ok (.aload_n 0, 1) := by decide +kernel
theorem dX9_mendingAt_1 : decode cX9_mendingAt 1 = .ok (.invokevirtual 9, 3) := by decide +kernel
theorem dX9_mendingAt_4 : decode cX9_mendingAt 4 = .ok (.iload_n 1, 1) := by decide +kernel
theorem dX9_mendingAt_5 : decode cX9_mendingAt 5 = .ok (.invokestatic 32, 3) := by decide +kernel
theorem dX9_mendingAt_8 : decode cX9_mendingAt 8 = .ok (.istore_n 2, 1) := by decide +kernel
theorem dX9_mendingAt_9 : decode cX9_mendingAt 9 = .ok (.iload_n 2, 1) := by decide +kernel
theorem dX9_mendingAt_10 : decode cX9_mendingAt 10 = .ok (.ifCond .ne 7, 3) := by decide +kernel
theorem dX9_mendingAt_13 : decode cX9_mendingAt 13 = .ok (.iconst 1, 1) := by decide +kernel
theorem dX9_mendingAt_14 : decode cX9_mendingAt 14 = .ok (.goto 4, 3) := by decide +kernel
theorem dX9_mendingAt_17 : decode cX9_mendingAt 17 = .ok (.iconst 0, 1) := by decide +kernel
theorem dX9_mendingAt_18 : decode cX9_mendingAt 18 = .ok (.istore_n 3, 1) := by decide +kernel
theorem dX9_mendingAt_19 : decode cX9_mendingAt 19 = .ok (.aload_n 0, 1) := by decide +kernel
theorem dX9_mendingAt_20 : decode cX9_mendingAt 20 = .ok (.iload_n 1, 1) := by decide +kernel
theorem dX9_mendingAt_21 : decode cX9_mendingAt 21 = .ok (.invokevirtual 15, 3) := by decide +kernel
theorem dX9_mendingAt_24 : decode cX9_mendingAt 24 = .ok (.istore 4, 2) := by decide +kernel
theorem dX9_mendingAt_26 : decode cX9_mendingAt 26 = .ok (.iload 4, 2) := by decide +kernel
theorem dX9_mendingAt_28 : decode cX9_mendingAt 28 = .ok (.aload_n 0, 1) := by decide +kernel
theorem dX9_mendingAt_29 : decode cX9_mendingAt 29 = .ok (.iconst 0, 1) := by decide +kernel
theorem dX9_mendingAt_30 : decode cX9_mendingAt 30 = .ok (.iload_n 3, 1) := by decide +kernel
theorem dX9_mendingAt_31 : decode cX9_mendingAt 31 = .ok (.invokevirtual 37, 3) := by decide +kernel
theorem dX9_mendingAt_34 : decode cX9_mendingAt 34 = .ok (.iadd, 1) := by decide +kernel
theorem dX9_mendingAt_35 : decode cX9_mendingAt 35 = .ok (.aload_n 0, 1) := by decide +kernel
theorem dX9_mendingAt_36 : decode cX9_mendingAt 36 = .ok (.iconst 0, 1) := by decide +kernel
theorem dX9_mendingAt_37 : decode cX9_mendingAt 37 = .ok (.iload_n 2, 1) := by decide +kernel
theorem dX9_mendingAt_38 : decode cX9_mendingAt 38 = .ok (.invokevirtual 37, 3) := by decide +kernel
theorem dX9_mendingAt_41 : decode cX9_mendingAt 41 = .ok (.isub, 1) := by decide +kernel
theorem dX9_mendingAt_42 : decode cX9_mendingAt 42 = .ok (.istore 5, 2) := by decide +kernel
theorem dX9_mendingAt_44 : decode cX9_mendingAt 44 = .ok (.iload 5, 2) := by decide +kernel
theorem dX9_mendingAt_46 : decode cX9_mendingAt 46 = .ok (.iload 4, 2) := by decide +kernel
theorem dX9_mendingAt_48 : decode cX9_mendingAt 48 = .ok (.if_icmp .eq 17, 3) := by decide +kernel
theorem dX9_mendingAt_51 : decode cX9_mendingAt 51 = .ok (.iload 5, 2) := by decide +kernel
theorem dX9_mendingAt_53 : decode cX9_mendingAt 53 = .ok (.iconst 1, 1) := by decide +kernel
theorem dX9_mendingAt_54 : decode cX9_mendingAt 54 = .ok (.if_icmp .lt 11, 3) := by decide +kernel
theorem dX9_mendingAt_57 : decode cX9_mendingAt 57 = .ok (.iload 5, 2) := by decide +kernel
theorem dX9_mendingAt_59 : decode cX9_mendingAt 59 = .ok (.sipush 999, 3) := by decide +kernel
theorem dX9_mendingAt_62 : decode cX9_mendingAt 62 = .ok (.if_icmp .le 5, 3) := by decide +kernel
theorem dX9_mendingAt_65 : decode cX9_mendingAt 65 = .ok (.iconst (-1), 1) := by decide +kernel
theorem dX9_mendingAt_66 : decode cX9_mendingAt 66 = .ok (.ireturn, 1) := by decide +kernel
theorem dX9_mendingAt_67 : decode cX9_mendingAt 67 = .ok (.aload_n 0, 1) := by decide +kernel
theorem dX9_mendingAt_68 : decode cX9_mendingAt 68 = .ok (.iload_n 1, 1) := by decide +kernel
theorem dX9_mendingAt_69 : decode cX9_mendingAt 69 = .ok (.iload 5, 2) := by decide +kernel
theorem dX9_mendingAt_71 : decode cX9_mendingAt 71 = .ok (.invokevirtual 40, 3) := by decide +kernel
theorem dX9_mendingAt_74 : decode cX9_mendingAt 74 = .ok (.pop, 1) := by decide +kernel
theorem dX9_mendingAt_75 : decode cX9_mendingAt 75 = .ok (.aload_n 0, 1) := by decide +kernel
theorem dX9_mendingAt_76 : decode cX9_mendingAt 76 = .ok (.invokestatic 43, 3) := by decide +kernel
theorem dX9_mendingAt_79 : decode cX9_mendingAt 79 = .ok (.istore 6, 2) := by decide +kernel
theorem dX9_mendingAt_81 : decode cX9_mendingAt 81 = .ok (.aload_n 0, 1) := by decide +kernel
theorem dX9_mendingAt_82 : decode cX9_mendingAt 82 = .ok (.iload_n 1, 1) := by decide +kernel
theorem dX9_mendingAt_83 : decode cX9_mendingAt 83 = .ok (.iload 4, 2) := by decide +kernel
theorem dX9_mendingAt_85 : decode cX9_mendingAt 85 = .ok (.invokevirtual 40, 3) := by decide +kernel
theorem dX9_mendingAt_88 : decode cX9_mendingAt 88 = .ok (.pop, 1) := by decide +kernel
theorem dX9_mendingAt_89 : decode cX9_mendingAt 89 = .ok (.iload 6, 2) := by decide +kernel
theorem dX9_mendingAt_91 : decode cX9_mendingAt 91 = .ok (.ifCond .eq 8, 3) := by decide +kernel
theorem dX9_mendingAt_94 : decode cX9_mendingAt 94 = .ok (.iload 5, 2) := by decide +kernel
theorem dX9_mendingAt_96 : decode cX9_mendingAt 96 = .ok (.goto 4, 3) := by decide +kernel
theorem dX9_mendingAt_99 : decode cX9_mendingAt 99 = .ok (.iconst (-1), 1) := by decide +kernel
theorem dX9_mendingAt_100 : decode cX9_mendingAt 100 = .ok (.ireturn, 1) := by decide +kernel
theorem dX10_init_0 : decode cX10_init 0 = .ok (.aload_n 0, 1) := by decide +kernel
theorem dX10_init_1 : decode cX10_init 1 = .ok (.invokespecial 5, 3) := by decide +kernel
theorem dX10_init_4 : decode cX10_init 4 = .ok (.aload_n 0, 1) := by decide +kernel
theorem dX10_init_5 : decode cX10_init 5 = .ok (.bipush 38, 2) := by decide +kernel
theorem dX10_init_7 : decode cX10_init 7 = .ok (.bipush 38, 2) := by decide +kernel
theorem dX10_init_9 : decode cX10_init 9 = .ok (.multianewarray 11 2, 4) := by decide +kernel
theorem dX10_init_13 : decode cX10_init 13 = .ok (.putfield 13, 3) := by decide +kernel
theorem dX10_init_16 : decode cX10_init 16 = .ok (.aload_n 0, 1) := by decide +kernel
theorem dX10_init_17 : decode cX10_init 17 = .ok (.bipush 38, 2) := by decide +kernel
theorem dX10_init_19 : decode cX10_init 19 = .ok (.newarray .int, 2) := by decide +kernel
theorem dX10_init_21 : decode cX10_init 21 = .ok (.putfield 16, 3) := by decide +kernel
theorem dX10_init_24 : decode cX10_init 24 = .ok (.aload_n 0, 1) := by decide +kernel
theorem dX10_init_25 : decode cX10_init 25 = .ok (.bipush 38, 2) := by decide +kernel
theorem dX10_init_27 : decode cX10_init 27 = .ok (.newarray .int, 2) := by decide +kernel
theorem dX10_init_29 : decode cX10_init 29 = .ok (.putfield 20, 3) := by decide +kernel
theorem dX10_init_32 : decode cX10_init 32 = .ok (.aload_n 0, 1) := by decide +kernel
theorem dX10_init_33 : decode cX10_init 33 = .ok (.iconst 1, 1) := by decide +kernel
theorem dX10_init_34 : decode cX10_init 34 = .ok (.putfield 23, 3) := by decide +kernel
theorem dX10_init_37 : decode cX10_init 37 = .ok (.return_, 1) := by decide +kernel
theorem dX10_dimensionOf_0 : decode cX10_dimensionOf 0 = .ok (.aload_n 0, 1) := by decide +kernel
theorem dX10_dimensionOf_1 : decode cX10_dimensionOf 1 = .ok (.iload_n 1, 1) := by decide +kernel
theorem dX10_dimensionOf_2 : decode cX10_dimensionOf 2 = .ok (.putfield 23, 3) := by decide +kernel
theorem dX10_dimensionOf_5 : decode cX10_dimensionOf 5 = .ok (.aload_n 0, 1) := by decide +kernel
theorem dX10_dimensionOf_6 : decode cX10_dimensionOf 6 = .ok (.iconst 0, 1) := by decide +kernel
theorem dX10_dimensionOf_7 : decode cX10_dimensionOf 7 = .ok (.putfield 27, 3) := by decide +kernel
theorem dX10_dimensionOf_10 : decode cX10_dimensionOf 10 = .ok (.aload_n 0, 1) := by decide +kernel
theorem dX10_dimensionOf_11 : decode cX10_dimensionOf 11 = .ok (.getfield 23, 3) := by decide +kernel
theorem dX10_dimensionOf_14 : decode cX10_dimensionOf 14 = .ok (.aload_n 0, 1) := by decide +kernel
theorem dX10_dimensionOf_15 : decode cX10_dimensionOf 15 = .ok (.getfield 23, 3) := by decide +kernel
theorem dX10_dimensionOf_18 : decode cX10_dimensionOf 18 = .ok (.imul, 1) := by decide +kernel
theorem dX10_dimensionOf_19 : decode cX10_dimensionOf 19 = .ok (.istore_n 3, 1) := by decide +kernel
theorem dX10_dimensionOf_20 : decode cX10_dimensionOf 20 = .ok (.iload_n 2, 1) := by decide +kernel
theorem dX10_dimensionOf_21 : decode cX10_dimensionOf 21 = .ok (.bipush 30, 2) := by decide +kernel
theorem dX10_dimensionOf_23 : decode cX10_dimensionOf 23 = .ok (.iand, 1) := by decide +kernel
theorem dX10_dimensionOf_24 : decode cX10_dimensionOf 24 = .ok (.ifCond .eq 11, 3) := by decide +kernel
theorem dX10_dimensionOf_27 : decode cX10_dimensionOf 27 = .ok (.aload_n 0, 1) := by decide +kernel
theorem dX10_dimensionOf_28 : decode cX10_dimensionOf 28 = .ok (.iload_n 2, 1) := by decide +kernel
theorem dX10_dimensionOf_29 : decode cX10_dimensionOf 29 = .ok (.invokevirtual 30, 3) := by decide +kernel
theorem dX10_dimensionOf_32 : decode cX10_dimensionOf 32 = .ok (.iinc 3 1, 3) := by decide +kernel
theorem dX10_dimensionOf_35 : decode cX10_dimensionOf 35 = .ok (.iload_n 2, 1) := by decide +kernel
theorem dX10_dimensionOf_36 : decode cX10_dimensionOf 36 = .ok (.bipush 32, 2) := by decide +kernel
theorem dX10_dimensionOf_38 : decode cX10_dimensionOf 38 = .ok (.iand, 1) := by decide +kernel
theorem dX10_dimensionOf_39 : decode cX10_dimensionOf 39 = .ok (.ifCond .eq 10, 3) := by decide +kernel
theorem dX10_dimensionOf_42 : decode cX10_dimensionOf 42 = .ok (.aload_n 0, 1) := by decide +kernel
theorem dX10_dimensionOf_43 : decode cX10_dimensionOf 43 = .ok (.invokevirtual 34, 3) := by decide +kernel
theorem dX10_dimensionOf_46 : decode cX10_dimensionOf 46 = .ok (.iinc 3 1, 3) := by decide +kernel
theorem dX10_dimensionOf_49 : decode cX10_dimensionOf 49 = .ok (.iload_n 3, 1) := by decide +kernel
theorem dX10_dimensionOf_50 : decode cX10_dimensionOf 50 = .ok (.aload_n 0, 1) := by decide +kernel
theorem dX10_dimensionOf_51 : decode cX10_dimensionOf 51 = .ok (.getfield 27, 3) := by decide +kernel
theorem dX10_dimensionOf_54 : decode cX10_dimensionOf 54 = .ok (.isub, 1) := by decide +kernel
theorem dX10_dimensionOf_55 : decode cX10_dimensionOf 55 = .ok (.ireturn, 1) := by decide +kernel
theorem dX10_addLines_0 : decode cX10_addLines 0 = .ok (.iload_n 1, 1) := by decide +kernel
theorem dX10_addLines_1 : decode cX10_addLines 1 = .ok (.bipush 16, 2) := by decide +kernel
theorem dX10_addLines_3 : decode cX10_addLines 3 = .ok (.iand, 1) := by decide +kernel
theorem dX10_addLines_4 : decode cX10_addLines 4 = .ok (.ifCond .eq 7, 3) := by decide +kernel
theorem dX10_addLines_7 : decode cX10_addLines 7 = .ok (.iconst 1, 1) := by decide +kernel
theorem dX10_addLines_8 : decode cX10_addLines 8 = .ok (.goto 4, 3) := by decide +kernel
theorem dX10_addLines_11 : decode cX10_addLines 11 = .ok (.iconst 0, 1) := by decide +kernel
theorem dX10_addLines_12 : decode cX10_addLines 12 = .ok (.istore_n 2, 1) := by decide +kernel
theorem dX10_addLines_13 : decode cX10_addLines 13 = .ok (.iload_n 1, 1) := by decide +kernel
theorem dX10_addLines_14 : decode cX10_addLines 14 = .ok (.bipush 8, 2) := by decide +kernel
theorem dX10_addLines_16 : decode cX10_addLines 16 = .ok (.iand, 1) := by decide +kernel
theorem dX10_addLines_17 : decode cX10_addLines 17 = .ok (.ifCond .eq 7, 3) := by decide +kernel
theorem dX10_addLines_20 : decode cX10_addLines 20 = .ok (.iconst 1, 1) := by decide +kernel
theorem dX10_addLines_21 : decode cX10_addLines 21 = .ok (.goto 4, 3) := by decide +kernel
theorem dX10_addLines_24 : decode cX10_addLines 24 = .ok (.iconst 0, 1) := by decide +kernel
theorem dX10_addLines_25 : decode cX10_addLines 25 = .ok (.istore_n 3, 1) := by decide +kernel
theorem dX10_addLines_26 : decode cX10_addLines 26 = .ok (.iconst 0, 1) := by decide +kernel
theorem dX10_addLines_27 : decode cX10_addLines 27 = .ok (.istore 4, 2) := by decide +kernel
theorem dX10_addLines_29 : decode cX10_addLines 29 = .ok (.iload 4, 2) := by decide +kernel
theorem dX10_addLines_31 : decode cX10_addLines 31 = .ok (.aload_n 0, 1) := by decide +kernel
theorem dX10_addLines_32 : decode cX10_addLines 32 = .ok (.getfield 23, 3) := by decide +kernel
theorem dX10_addLines_35 : decode cX10_addLines 35 = .ok (.if_icmp .ge 81, 3) := by decide +kernel
theorem dX10_addLines_38 : decode cX10_addLines 38 = .ok (.iload_n 1, 1) := by decide +kernel
theorem dX10_addLines_39 : decode cX10_addLines 39 = .ok (.iconst 2, 1) := by decide +kernel
theorem dX10_addLines_40 : decode cX10_addLines 40 = .ok (.iand, 1) := by decide +kernel
theorem dX10_addLines_41 : decode cX10_addLines 41 = .ok (.ifCond .eq 10, 3) := by decide +kernel
theorem dX10_addLines_44 : decode cX10_addLines 44 = .ok (.aload_n 0, 1) := by decide +kernel
theorem dX10_addLines_45 : decode cX10_addLines 45 = .ok (.iconst 0, 1) := by decide +kernel
theorem dX10_addLines_46 : decode cX10_addLines 46 = .ok (.iload 4, 2) := by decide +kernel
theorem dX10_addLines_48 : decode cX10_addLines 48 = .ok (.invokevirtual 37, 3) := by decide +kernel
theorem dX10_addLines_51 : decode cX10_addLines 51 = .ok (.iload_n 1, 1) := by decide +kernel
theorem dX10_addLines_52 : decode cX10_addLines 52 = .ok (.iconst 4, 1) := by decide +kernel
theorem dX10_addLines_53 : decode cX10_addLines 53 = .ok (.iand, 1) := by decide +kernel
theorem dX10_addLines_54 : decode cX10_addLines 54 = .ok (.ifCond .eq 10, 3) := by decide +kernel
theorem dX10_addLines_57 : decode cX10_addLines 57 = .ok (.aload_n 0, 1) := by decide +kernel
theorem dX10_addLines_58 : decode cX10_addLines 58 = .ok (.iconst 1, 1) := by decide +kernel
theorem dX10_addLines_59 : decode cX10_addLines 59 = .ok (.iload 4, 2) := by decide +kernel
theorem dX10_addLines_61 : decode cX10_addLines 61 = .ok (.invokevirtual 37, 3) := by decide +kernel
theorem dX10_addLines_64 : decode cX10_addLines 64 = .ok (.iload_n 2, 1) := by decide +kernel
theorem dX10_addLines_65 : decode cX10_addLines 65 = .ok (.ifCond .ne 12, 3) := by decide +kernel
theorem dX10_addLines_68 : decode cX10_addLines 68 = .ok (.iload_n 3, 1) := by decide +kernel
theorem dX10_addLines_69 : decode cX10_addLines 69 = .ok (.ifCond .eq 15, 3) := by decide +kernel
theorem dX10_addLines_72 : decode cX10_addLines 72 = .ok (.iload 4, 2) := by decide +kernel
theorem dX10_addLines_74 : decode cX10_addLines 74 = .ok (.ifCond .ne 10, 3) := by decide +kernel
theorem dX10_addLines_77 : decode cX10_addLines 77 = .ok (.aload_n 0, 1) := by decide +kernel
theorem dX10_addLines_78 : decode cX10_addLines 78 = .ok (.iconst 2, 1) := by decide +kernel
theorem dX10_addLines_79 : decode cX10_addLines 79 = .ok (.iload 4, 2) := by decide +kernel
theorem dX10_addLines_81 : decode cX10_addLines 81 = .ok (.invokevirtual 37, 3) := by decide +kernel
theorem dX10_addLines_84 : decode cX10_addLines 84 = .ok (.iload_n 2, 1) := by decide +kernel
theorem dX10_addLines_85 : decode cX10_addLines 85 = .ok (.ifCond .ne 18, 3) := by decide +kernel
theorem dX10_addLines_88 : decode cX10_addLines 88 = .ok (.iload_n 3, 1) := by decide +kernel
theorem dX10_addLines_89 : decode cX10_addLines 89 = .ok (.ifCond .eq 21, 3) := by decide +kernel
theorem dX10_addLines_92 : decode cX10_addLines 92 = .ok (.iload 4, 2) := by decide +kernel
theorem dX10_addLines_94 : decode cX10_addLines 94 = .ok (.aload_n 0, 1) := by decide +kernel
theorem dX10_addLines_95 : decode cX10_addLines 95 = .ok (.getfield 23, 3) := by decide +kernel
theorem dX10_addLines_98 : decode cX10_addLines 98 = .ok (.iconst 1, 1) := by decide +kernel
theorem dX10_addLines_99 : decode cX10_addLines 99 = .ok (.isub, 1) := by decide +kernel
theorem dX10_addLines_100 : decode cX10_addLines 100 = .ok (.if_icmp .ne 10, 3) := by decide +kernel
theorem dX10_addLines_103 : decode cX10_addLines 103 = .ok (.aload_n 0, 1) := by decide +kernel
theorem dX10_addLines_104 : decode cX10_addLines 104 = .ok (.iconst 3, 1) := by decide +kernel
theorem dX10_addLines_105 : decode cX10_addLines 105 = .ok (.iload 4, 2) := by decide +kernel
theorem dX10_addLines_107 : decode cX10_addLines 107 = .ok (.invokevirtual 37, 3) := by decide +kernel
theorem dX10_addLines_110 : decode cX10_addLines 110 = .ok (.iinc 4 1, 3) := by decide +kernel
theorem dX10_addLines_113 : decode cX10_addLines 113 = .ok (.goto (-84), 3) := by decide +kernel
theorem dX10_addLines_116 : decode cX10_addLines 116 = .ok (.return_, 1) := by decide +kernel
theorem dX10_addLine_0 : decode cX10_addLine 0 = .ok (.aload_n 0, 1) := by decide +kernel
theorem dX10_addLine_1 : decode cX10_addLine 1 = .ok (.invokevirtual 41, 3) := by decide +kernel
theorem dX10_addLine_4 : decode cX10_addLine 4 = .ok (.iconst 0, 1) := by decide +kernel
theorem dX10_addLine_5 : decode cX10_addLine 5 = .ok (.istore_n 3, 1) := by decide +kernel
theorem dX10_addLine_6 : decode cX10_addLine 6 = .ok (.iload_n 3, 1) := by decide +kernel
theorem dX10_addLine_7 : decode cX10_addLine 7 = .ok (.aload_n 0, 1) := by decide +kernel
theorem dX10_addLine_8 : decode cX10_addLine 8 = .ok (.getfield 23, 3) := by decide +kernel
theorem dX10_addLine_11 : decode cX10_addLine 11 = .ok (.if_icmp .ge 24, 3) := by decide +kernel
theorem dX10_addLine_14 : decode cX10_addLine 14 = .ok (.aload_n 0, 1) := by decide +kernel
theorem dX10_addLine_15 : decode cX10_addLine 15 = .ok (.aload_n 0, 1) := by decide +kernel
theorem dX10_addLine_16 : decode cX10_addLine 16 = .ok (.getfield 23, 3) := by decide +kernel
theorem dX10_addLine_19 : decode cX10_addLine 19 = .ok (.iload_n 1, 1) := by decide +kernel
theorem dX10_addLine_20 : decode cX10_addLine 20 = .ok (.iload_n 2, 1) := by decide +kernel
theorem dX10_addLine_21 : decode cX10_addLine 21 = .ok (.iload_n 3, 1) := by decide +kernel
theorem dX10_addLine_22 : decode cX10_addLine 22 = .ok (.invokestatic 44, 3) := by decide +kernel
theorem dX10_addLine_25 : decode cX10_addLine 25 = .ok (.iconst 1, 1) := by decide +kernel
theorem dX10_addLine_26 : decode cX10_addLine 26 = .ok (.invokevirtual 50, 3) := by decide +kernel
theorem dX10_addLine_29 : decode cX10_addLine 29 = .ok (.iinc 3 1, 3) := by decide +kernel
theorem dX10_addLine_32 : decode cX10_addLine 32 = .ok (.goto (-26), 3) := by decide +kernel
theorem dX10_addLine_35 : decode cX10_addLine 35 = .ok (.aload_n 0, 1) := by decide +kernel
theorem dX10_addLine_36 : decode cX10_addLine 36 = .ok (.bipush 36, 2) := by decide +kernel
theorem dX10_addLine_38 : decode cX10_addLine 38 = .ok (.ldc 53, 2) := by decide +kernel
theorem dX10_addLine_40 : decode cX10_addLine 40 = .ok (.invokevirtual 50, 3) := by decide +kernel
theorem dX10_addLine_43 : decode cX10_addLine 43 = .ok (.aload_n 0, 1) := by decide +kernel
theorem dX10_addLine_44 : decode cX10_addLine 44 = .ok (.invokevirtual 54, 3) := by decide +kernel
theorem dX10_addLine_47 : decode cX10_addLine 47 = .ok (.return_, 1) := by decide +kernel
theorem dX10_addOpposites_0 : decode cX10_addOpposites 0 = .ok (.aload_n 0, 1) := by decide +kernel
theorem dX10_addOpposites_1 : decode cX10_addOpposites 1 = .ok (.getfield 23, 3) := by decide +kernel
theorem dX10_addOpposites_4 : decode cX10_addOpposites 4 = .ok (.aload_n 0, 1) := by decide +kernel
theorem dX10_addOpposites_5 : decode cX10_addOpposites 5 = .ok (.getfield 23, 3) := by decide +kernel
theorem dX10_addOpposites_8 : decode cX10_addOpposites 8 = .ok (.imul, 1) := by decide +kernel
theorem dX10_addOpposites_9 : decode cX10_addOpposites 9 = .ok (.iconst 1, 1) := by decide +kernel
theorem dX10_addOpposites_10 : decode cX10_addOpposites 10 = .ok (.isub, 1) := by decide +kernel
theorem dX10_addOpposites_11 : decode cX10_addOpposites 11 = .ok (.istore_n 1, 1) := by decide +kernel
theorem dX10_addOpposites_12 : decode cX10_addOpposites 12 = .ok (.iconst 0, 1) := by decide +kernel
theorem dX10_addOpposites_13 : decode cX10_addOpposites 13 = .ok (.istore_n 2, 1) := by decide +kernel
theorem dX10_addOpposites_14 : decode cX10_addOpposites 14 = .ok (.iload_n 2, 1) := by decide +kernel
theorem dX10_addOpposites_15 : decode cX10_addOpposites 15 = .ok (.iload_n 1, 1) := by decide +kernel
theorem dX10_addOpposites_16 : decode cX10_addOpposites 16 = .ok (.iload_n 2, 1) := by decide +kernel
theorem dX10_addOpposites_17 : decode cX10_addOpposites 17 = .ok (.isub, 1) := by decide +kernel
theorem dX10_addOpposites_18 : decode cX10_addOpposites 18 = .ok (.if_icmp .gt 39, 3) := by decide +kernel
theorem dX10_addOpposites_21 : decode cX10_addOpposites 21 = .ok (.aload_n 0, 1) := by decide +kernel
theorem dX10_addOpposites_22 : decode cX10_addOpposites 22 = .ok (.invokevirtual 41, 3) := by decide +kernel
theorem dX10_addOpposites_25 : decode cX10_addOpposites 25 = .ok (.aload_n 0, 1) := by decide +kernel
theorem dX10_addOpposites_26 : decode cX10_addOpposites 26 = .ok (.iload_n 2, 1) := by decide +kernel
theorem dX10_addOpposites_27 : decode cX10_addOpposites 27 = .ok (.iconst 1, 1) := by decide +kernel
theorem dX10_addOpposites_28 : decode cX10_addOpposites 28 = .ok (.invokevirtual 50, 3) := by decide +kernel
theorem dX10_addOpposites_31 : decode cX10_addOpposites 31 = .ok (.aload_n 0, 1) := by decide +kernel
theorem dX10_addOpposites_32 : decode cX10_addOpposites 32 = .ok (.iload_n 1, 1) := by decide +kernel
theorem dX10_addOpposites_33 : decode cX10_addOpposites 33 = .ok (.iload_n 2, 1) := by decide +kernel
theorem dX10_addOpposites_34 : decode cX10_addOpposites 34 = .ok (.isub, 1) := by decide +kernel
theorem dX10_addOpposites_35 : decode cX10_addOpposites 35 = .ok (.iconst 1, 1) := by decide +kernel
theorem dX10_addOpposites_36 : decode cX10_addOpposites 36 = .ok (.invokevirtual 50, 3) := by decide +kernel
theorem dX10_addOpposites_39 : decode cX10_addOpposites 39 = .ok (.aload_n 0, 1) := by decide +kernel
theorem dX10_addOpposites_40 : decode cX10_addOpposites 40 = .ok (.bipush 37, 2) := by decide +kernel
theorem dX10_addOpposites_42 : decode cX10_addOpposites 42 = .ok (.ldc 53, 2) := by decide +kernel
theorem dX10_addOpposites_44 : decode cX10_addOpposites 44 = .ok (.invokevirtual 50, 3) := by decide +kernel
theorem dX10_addOpposites_47 : decode cX10_addOpposites 47 = .ok (.aload_n 0, 1) := by decide +kernel
theorem dX10_addOpposites_48 : decode cX10_addOpposites 48 = .ok (.invokevirtual 54, 3) := by decide +kernel
theorem dX10_addOpposites_51 : decode cX10_addOpposites 51 = .ok (.iinc 2 1, 3) := by decide +kernel
theorem dX10_addOpposites_54 : decode cX10_addOpposites 54 = .ok (.goto (-40), 3) := by decide +kernel
theorem dX10_addOpposites_57 : decode cX10_addOpposites 57 = .ok (.return_, 1) := by decide +kernel
theorem dX10_clearRow_0 : decode cX10_clearRow 0 = .ok (.iconst 0, 1) := by decide +kernel
theorem dX10_clearRow_1 : decode cX10_clearRow 1 = .ok (.istore_n 1, 1) := by decide +kernel
theorem dX10_clearRow_2 : decode cX10_clearRow 2 = .ok (.iload_n 1, 1) := by decide +kernel
theorem dX10_clearRow_3 : decode cX10_clearRow 3 = .ok (.aload_n 0, 1) := by decide +kernel
theorem dX10_clearRow_4 : decode cX10_clearRow 4 = .ok (.getfield 20, 3) := by decide +kernel
theorem dX10_clearRow_7 : decode cX10_clearRow 7 = .ok (.arraylength, 1) := by decide +kernel
theorem dX10_clearRow_8 : decode cX10_clearRow 8 = .ok (.if_icmp .ge 16, 3) := by decide +kernel
theorem dX10_clearRow_11 : decode cX10_clearRow 11 = .ok (.aload_n 0, 1) := by decide +kernel
theorem dX10_clearRow_12 : decode cX10_clearRow 12 = .ok (.getfield 20, 3) := by decide +kernel
theorem dX10_clearRow_15 : decode cX10_clearRow 15 = .ok (.iload_n 1, 1) := by decide +kernel
theorem dX10_clearRow_16 : decode cX10_clearRow 16 = .ok (.iconst 0, 1) := by decide +kernel
theorem dX10_clearRow_17 : decode cX10_clearRow 17 = .ok (.iastore, 1) := by decide +kernel
theorem dX10_clearRow_18 : decode cX10_clearRow 18 = .ok (.iinc 1 1, 3) := by decide +kernel
theorem dX10_clearRow_21 : decode cX10_clearRow 21 = .ok (.goto (-19), 3) := by decide +kernel
theorem dX10_clearRow_24 : decode cX10_clearRow 24 = .ok (.return_, 1) := by decide +kernel
theorem dX10_addToRow_0 : decode cX10_addToRow 0 = .ok (.iload_n 1, 1) := by decide +kernel
theorem dX10_addToRow_1 : decode cX10_addToRow 1 = .ok (.ifCond .lt 22, 3) := by decide +kernel
theorem dX10_addToRow_4 : decode cX10_addToRow 4 = .ok (.iload_n 1, 1) := by decide +kernel
theorem dX10_addToRow_5 : decode cX10_addToRow 5 = .ok (.aload_n 0, 1) := by decide +kernel
theorem dX10_addToRow_6 : decode cX10_addToRow 6 = .ok (.getfield 20, 3) := by decide +kernel
theorem dX10_addToRow_9 : decode cX10_addToRow 9 = .ok (.arraylength, 1) := by decide +kernel
theorem dX10_addToRow_10 : decode cX10_addToRow 10 = .ok (.if_icmp .ge 13, 3) := by decide +kernel
theorem dX10_addToRow_13 : decode cX10_addToRow 13 = .ok (.aload_n 0, 1) := by decide +kernel
theorem dX10_addToRow_14 : decode cX10_addToRow 14 = .ok (.getfield 20, 3) := by decide +kernel
theorem dX10_addToRow_17 : decode cX10_addToRow 17 = .ok (.iload_n 1, 1) := by decide +kernel
theorem dX10_addToRow_18 : decode cX10_addToRow 18 = .ok (.dup2, 1) := by decide +kernel
theorem dX10_addToRow_19 : decode cX10_addToRow 19 = .ok (.iaload, 1) := by decide +kernel
theorem dX10_addToRow_20 : decode cX10_addToRow 20 = .ok (.iload_n 2, 1) := by decide +kernel
theorem dX10_addToRow_21 : decode cX10_addToRow 21 = .ok (.iadd, 1) := by decide +kernel
theorem dX10_addToRow_22 : decode cX10_addToRow 22 = .ok (.iastore, 1) := by decide +kernel
theorem dX10_addToRow_23 : decode cX10_addToRow 23 = .ok (.return_, 1) := by decide +kernel
theorem dX10_addRow_0 : decode cX10_addRow 0 = .ok (.iconst 0, 1) := by decide +kernel
theorem dX10_addRow_1 : decode cX10_addRow 1 = .ok (.istore_n 1, 1) := by decide +kernel
theorem dX10_addRow_2 : decode cX10_addRow 2 = .ok (.iload_n 1, 1) := by decide +kernel
theorem dX10_addRow_3 : decode cX10_addRow 3 = .ok (.aload_n 0, 1) := by decide +kernel
theorem dX10_addRow_4 : decode cX10_addRow 4 = .ok (.getfield 27, 3) := by decide +kernel
theorem dX10_addRow_7 : decode cX10_addRow 7 = .ok (.if_icmp .ge 43, 3) := by decide +kernel
theorem dX10_addRow_10 : decode cX10_addRow 10 = .ok (.iload_n 1, 1) := by decide +kernel
theorem dX10_addRow_11 : decode cX10_addRow 11 = .ok (.aload_n 0, 1) := by decide +kernel
theorem dX10_addRow_12 : decode cX10_addRow 12 = .ok (.getfield 13, 3) := by decide +kernel
theorem dX10_addRow_15 : decode cX10_addRow 15 = .ok (.arraylength, 1) := by decide +kernel
theorem dX10_addRow_16 : decode cX10_addRow 16 = .ok (.if_icmp .ge 34, 3) := by decide +kernel
theorem dX10_addRow_19 : decode cX10_addRow 19 = .ok (.iload_n 1, 1) := by decide +kernel
theorem dX10_addRow_20 : decode cX10_addRow 20 = .ok (.aload_n 0, 1) := by decide +kernel
theorem dX10_addRow_21 : decode cX10_addRow 21 = .ok (.getfield 16, 3) := by decide +kernel
theorem dX10_addRow_24 : decode cX10_addRow 24 = .ok (.arraylength, 1) := by decide +kernel
theorem dX10_addRow_25 : decode cX10_addRow 25 = .ok (.if_icmp .ge 25, 3) := by decide +kernel
theorem dX10_addRow_28 : decode cX10_addRow 28 = .ok (.aload_n 0, 1) := by decide +kernel
theorem dX10_addRow_29 : decode cX10_addRow 29 = .ok (.aload_n 0, 1) := by decide +kernel
theorem dX10_addRow_30 : decode cX10_addRow 30 = .ok (.getfield 13, 3) := by decide +kernel
theorem dX10_addRow_33 : decode cX10_addRow 33 = .ok (.iload_n 1, 1) := by decide +kernel
theorem dX10_addRow_34 : decode cX10_addRow 34 = .ok (.aaload, 1) := by decide +kernel
theorem dX10_addRow_35 : decode cX10_addRow 35 = .ok (.aload_n 0, 1) := by decide +kernel
theorem dX10_addRow_36 : decode cX10_addRow 36 = .ok (.getfield 16, 3) := by decide +kernel
theorem dX10_addRow_39 : decode cX10_addRow 39 = .ok (.iload_n 1, 1) := by decide +kernel
theorem dX10_addRow_40 : decode cX10_addRow 40 = .ok (.iaload, 1) := by decide +kernel
theorem dX10_addRow_41 : decode cX10_addRow 41 = .ok (.invokevirtual 57, 3) := by decide +kernel
theorem dX10_addRow_44 : decode cX10_addRow 44 = .ok (.iinc 1 1, 3) := by decide +kernel
theorem dX10_addRow_47 : decode cX10_addRow 47 = .ok (.goto (-45), 3) := by decide +kernel
theorem dX10_addRow_50 : decode cX10_addRow 50 = .ok (.aload_n 0, 1) := by decide +kernel
theorem dX10_addRow_51 : decode cX10_addRow 51 = .ok (.invokevirtual 61, 3) := by decide +kernel
theorem dX10_addRow_54 : decode cX10_addRow 54 = .ok (.istore_n 1, 1) := by decide +kernel
theorem dX10_addRow_55 : decode cX10_addRow 55 = .ok (.iload_n 1, 1) := by decide +kernel
theorem dX10_addRow_56 : decode cX10_addRow 56 = .ok (.iconst (-1), 1) := by decide +kernel
theorem dX10_addRow_57 : decode cX10_addRow 57 = .ok (.if_icmp .eq 60, 3) := by decide +kernel
theorem dX10_addRow_60 : decode cX10_addRow 60 = .ok (.aload_n 0, 1) := by decide +kernel
theorem dX10_addRow_61 : decode cX10_addRow 61 = .ok (.getfield 27, 3) := by decide +kernel
theorem dX10_addRow_64 : decode cX10_addRow 64 = .ok (.aload_n 0, 1) := by decide +kernel
theorem dX10_addRow_65 : decode cX10_addRow 65 = .ok (.getfield 13, 3) := by decide +kernel
theorem dX10_addRow_68 : decode cX10_addRow 68 = .ok (.arraylength, 1) := by decide +kernel
theorem dX10_addRow_69 : decode cX10_addRow 69 = .ok (.if_icmp .ge 48, 3) := by decide +kernel
theorem dX10_addRow_72 : decode cX10_addRow 72 = .ok (.aload_n 0, 1) := by decide +kernel
theorem dX10_addRow_73 : decode cX10_addRow 73 = .ok (.getfield 27, 3) := by decide +kernel
theorem dX10_addRow_76 : decode cX10_addRow 76 = .ok (.aload_n 0, 1) := by decide +kernel
theorem dX10_addRow_77 : decode cX10_addRow 77 = .ok (.getfield 16, 3) := by decide +kernel
theorem dX10_addRow_80 : decode cX10_addRow 80 = .ok (.arraylength, 1) := by decide +kernel
theorem dX10_addRow_81 : decode cX10_addRow 81 = .ok (.if_icmp .ge 36, 3) := by decide +kernel
theorem dX10_addRow_84 : decode cX10_addRow 84 = .ok (.aload_n 0, 1) := by decide +kernel
theorem dX10_addRow_85 : decode cX10_addRow 85 = .ok (.getfield 16, 3) := by decide +kernel
theorem dX10_addRow_88 : decode cX10_addRow 88 = .ok (.aload_n 0, 1) := by decide +kernel
theorem dX10_addRow_89 : decode cX10_addRow 89 = .ok (.getfield 27, 3) := by decide +kernel
theorem dX10_addRow_92 : decode cX10_addRow 92 = .ok (.iload_n 1, 1) := by decide +kernel
theorem dX10_addRow_93 : decode cX10_addRow 93 = .ok (.iastore, 1) := by decide +kernel
theorem dX10_addRow_94 : decode cX10_addRow 94 = .ok (.aload_n 0, 1) := by decide +kernel
theorem dX10_addRow_95 : decode cX10_addRow 95 = .ok (.aload_n 0, 1) := by decide +kernel
theorem dX10_addRow_96 : decode cX10_addRow 96 = .ok (.getfield 13, 3) := by decide +kernel
theorem dX10_addRow_99 : decode cX10_addRow 99 = .ok (.aload_n 0, 1) := by decide +kernel
theorem dX10_addRow_100 : decode cX10_addRow 100 = .ok (.getfield 27, 3) := by decide +kernel
theorem dX10_addRow_103 : decode cX10_addRow 103 = .ok (.aaload, 1) := by decide +kernel
theorem dX10_addRow_104 : decode cX10_addRow 104 = .ok (.invokevirtual 65, 3) := by decide +kernel
theorem dX10_addRow_107 : decode cX10_addRow 107 = .ok (.aload_n 0, 1) := by decide +kernel
theorem dX10_addRow_108 : decode cX10_addRow 108 = .ok (.dup, 1) := by decide +kernel
theorem dX10_addRow_109 : decode cX10_addRow 109 = .ok (.getfield 27, 3) := by decide +kernel
theorem dX10_addRow_112 : decode cX10_addRow 112 = .ok (.iconst 1, 1) := by decide +kernel
theorem dX10_addRow_113 : decode cX10_addRow 113 = .ok (.iadd, 1) := by decide +kernel
theorem dX10_addRow_114 : decode cX10_addRow 114 = .ok (.putfield 27, 3) := by decide +kernel
theorem dX10_addRow_117 : decode cX10_addRow 117 = .ok (.return_, 1) := by decide +kernel
theorem dX10_reduceBy_0 : decode cX10_reduceBy 0 = .ok (.aload_n 1, 1) := by decide +kernel
theorem dX10_reduceBy_1 : decode cX10_reduceBy 1 = .ok (.ifnull 31, 3) := by decide +kernel
theorem dX10_reduceBy_4 : decode cX10_reduceBy 4 = .ok (.iload_n 2, 1) := by decide +kernel
theorem dX10_reduceBy_5 : decode cX10_reduceBy 5 = .ok (.ifCond .lt 27, 3) := by decide +kernel
theorem dX10_reduceBy_8 : decode cX10_reduceBy 8 = .ok (.iload_n 2, 1) := by decide +kernel
theorem dX10_reduceBy_9 : decode cX10_reduceBy 9 = .ok (.aload_n 1, 1) := by decide +kernel
theorem dX10_reduceBy_10 : decode cX10_reduceBy 10 = .ok (.arraylength, 1) := by decide +kernel
theorem dX10_reduceBy_11 : decode cX10_reduceBy 11 = .ok (.if_icmp .ge 21, 3) := by decide +kernel
theorem dX10_reduceBy_14 : decode cX10_reduceBy 14 = .ok (.iload_n 2, 1) := by decide +kernel
theorem dX10_reduceBy_15 : decode cX10_reduceBy 15 = .ok (.aload_n 0, 1) := by decide +kernel
theorem dX10_reduceBy_16 : decode cX10_reduceBy 16 = .ok (.getfield 20, 3) := by decide +kernel
theorem dX10_reduceBy_19 : decode cX10_reduceBy 19 = .ok (.arraylength, 1) := by decide +kernel
theorem dX10_reduceBy_20 : decode cX10_reduceBy 20 = .ok (.if_icmp .ge 12, 3) := by decide +kernel
theorem dX10_reduceBy_23 : decode cX10_reduceBy 23 = .ok (.aload_n 0, 1) := by decide +kernel
theorem dX10_reduceBy_24 : decode cX10_reduceBy 24 = .ok (.getfield 20, 3) := by decide +kernel
theorem dX10_reduceBy_27 : decode cX10_reduceBy 27 = .ok (.iload_n 2, 1) := by decide +kernel
theorem dX10_reduceBy_28 : decode cX10_reduceBy 28 = .ok (.iaload, 1) := by decide +kernel
theorem dX10_reduceBy_29 : decode cX10_reduceBy 29 = .ok (.ifCond .ne 4, 3) := by decide +kernel
theorem dX10_reduceBy_32 : decode cX10_reduceBy 32 = .ok (.return_, 1) := by decide +kernel
theorem dX10_reduceBy_33 : decode cX10_reduceBy 33 = .ok (.aload_n 1, 1) := by decide +kernel
theorem dX10_reduceBy_34 : decode cX10_reduceBy 34 = .ok (.iload_n 2, 1) := by decide +kernel
theorem dX10_reduceBy_35 : decode cX10_reduceBy 35 = .ok (.iaload, 1) := by decide +kernel
theorem dX10_reduceBy_36 : decode cX10_reduceBy 36 = .ok (.i2l, 1) := by decide +kernel
theorem dX10_reduceBy_37 : decode cX10_reduceBy 37 = .ok (.lstore_n 3, 1) := by decide +kernel
theorem dX10_reduceBy_38 : decode cX10_reduceBy 38 = .ok (.aload_n 0, 1) := by decide +kernel
theorem dX10_reduceBy_39 : decode cX10_reduceBy 39 = .ok (.getfield 20, 3) := by decide +kernel
theorem dX10_reduceBy_42 : decode cX10_reduceBy 42 = .ok (.iload_n 2, 1) := by decide +kernel
theorem dX10_reduceBy_43 : decode cX10_reduceBy 43 = .ok (.iaload, 1) := by decide +kernel
theorem dX10_reduceBy_44 : decode cX10_reduceBy 44 = .ok (.i2l, 1) := by decide +kernel
theorem dX10_reduceBy_45 : decode cX10_reduceBy 45 = .ok (.lstore 5, 2) := by decide +kernel
theorem dX10_reduceBy_47 : decode cX10_reduceBy 47 = .ok (.iconst 0, 1) := by decide +kernel
theorem dX10_reduceBy_48 : decode cX10_reduceBy 48 = .ok (.istore 7, 2) := by decide +kernel
theorem dX10_reduceBy_50 : decode cX10_reduceBy 50 = .ok (.iload 7, 2) := by decide +kernel
theorem dX10_reduceBy_52 : decode cX10_reduceBy 52 = .ok (.aload_n 0, 1) := by decide +kernel
theorem dX10_reduceBy_53 : decode cX10_reduceBy 53 = .ok (.getfield 20, 3) := by decide +kernel
theorem dX10_reduceBy_56 : decode cX10_reduceBy 56 = .ok (.arraylength, 1) := by decide +kernel
theorem dX10_reduceBy_57 : decode cX10_reduceBy 57 = .ok (.if_icmp .ge 49, 3) := by decide +kernel
theorem dX10_reduceBy_60 : decode cX10_reduceBy 60 = .ok (.iload 7, 2) := by decide +kernel
theorem dX10_reduceBy_62 : decode cX10_reduceBy 62 = .ok (.aload_n 1, 1) := by decide +kernel
theorem dX10_reduceBy_63 : decode cX10_reduceBy 63 = .ok (.arraylength, 1) := by decide +kernel
theorem dX10_reduceBy_64 : decode cX10_reduceBy 64 = .ok (.if_icmp .ge 42, 3) := by decide +kernel
theorem dX10_reduceBy_67 : decode cX10_reduceBy 67 = .ok (.aload_n 0, 1) := by decide +kernel
theorem dX10_reduceBy_68 : decode cX10_reduceBy 68 = .ok (.getfield 20, 3) := by decide +kernel
theorem dX10_reduceBy_71 : decode cX10_reduceBy 71 = .ok (.iload 7, 2) := by decide +kernel
theorem dX10_reduceBy_73 : decode cX10_reduceBy 73 = .ok (.aload_n 0, 1) := by decide +kernel
theorem dX10_reduceBy_74 : decode cX10_reduceBy 74 = .ok (.getfield 20, 3) := by decide +kernel
theorem dX10_reduceBy_77 : decode cX10_reduceBy 77 = .ok (.iload 7, 2) := by decide +kernel
theorem dX10_reduceBy_79 : decode cX10_reduceBy 79 = .ok (.iaload, 1) := by decide +kernel
theorem dX10_reduceBy_80 : decode cX10_reduceBy 80 = .ok (.i2l, 1) := by decide +kernel
theorem dX10_reduceBy_81 : decode cX10_reduceBy 81 = .ok (.lload_n 3, 1) := by decide +kernel
theorem dX10_reduceBy_82 : decode cX10_reduceBy 82 = .ok (.lmul, 1) := by decide +kernel
theorem dX10_reduceBy_83 : decode cX10_reduceBy 83 = .ok (.aload_n 1, 1) := by decide +kernel
theorem dX10_reduceBy_84 : decode cX10_reduceBy 84 = .ok (.iload 7, 2) := by decide +kernel
theorem dX10_reduceBy_86 : decode cX10_reduceBy 86 = .ok (.iaload, 1) := by decide +kernel
theorem dX10_reduceBy_87 : decode cX10_reduceBy 87 = .ok (.i2l, 1) := by decide +kernel
theorem dX10_reduceBy_88 : decode cX10_reduceBy 88 = .ok (.lload 5, 2) := by decide +kernel
theorem dX10_reduceBy_90 : decode cX10_reduceBy 90 = .ok (.lmul, 1) := by decide +kernel
theorem dX10_reduceBy_91 : decode cX10_reduceBy 91 = .ok (.lsub, 1) := by decide +kernel
theorem dX10_reduceBy_92 : decode cX10_reduceBy 92 = .ok (.ldc2_w 69, 3) := by decide +kernel
theorem dX10_reduceBy_95 : decode cX10_reduceBy 95 = .ok (.invokestatic 71, 3) := by decide +kernel
theorem dX10_reduceBy_98 : decode cX10_reduceBy 98 = .ok (.l2i, 1) := by decide +kernel
theorem dX10_reduceBy_99 : decode cX10_reduceBy 99 = .ok (.iastore, 1) := by decide +kernel
theorem dX10_reduceBy_100 : decode cX10_reduceBy 100 = .ok (.iinc 7 1, 3) := by decide +kernel
theorem dX10_reduceBy_103 : decode cX10_reduceBy 103 = .ok (.goto (-53), 3) := by decide +kernel
theorem dX10_reduceBy_106 : decode cX10_reduceBy 106 = .ok (.return_, 1) := by decide +kernel
theorem dX10_leadOfRow_0 : decode cX10_leadOfRow 0 = .ok (.iconst 0, 1) := by decide +kernel
theorem dX10_leadOfRow_1 : decode cX10_leadOfRow 1 = .ok (.istore_n 1, 1) := by decide +kernel
theorem dX10_leadOfRow_2 : decode cX10_leadOfRow 2 = .ok (.iload_n 1, 1) := by decide +kernel
theorem dX10_leadOfRow_3 : decode cX10_leadOfRow 3 = .ok (.aload_n 0, 1) := by decide +kernel
theorem dX10_leadOfRow_4 : decode cX10_leadOfRow 4 = .ok (.getfield 20, 3) := by decide +kernel
theorem dX10_leadOfRow_7 : decode cX10_leadOfRow 7 = .ok (.arraylength, 1) := by decide +kernel
theorem dX10_leadOfRow_8 : decode cX10_leadOfRow 8 = .ok (.if_icmp .ge 20, 3) := by decide +kernel
theorem dX10_leadOfRow_11 : decode cX10_leadOfRow 11 = .ok (.aload_n 0, 1) := by decide +kernel
theorem dX10_leadOfRow_12 : decode cX10_leadOfRow 12 = .ok (.getfield 20, 3) := by decide +kernel
theorem dX10_leadOfRow_15 : decode cX10_leadOfRow 15 = .ok (.iload_n 1, 1) := by decide +kernel
theorem dX10_leadOfRow_16 : decode cX10_leadOfRow 16 = .ok (.iaload, 1) := by decide +kernel
theorem dX10_leadOfRow_17 : decode cX10_leadOfRow 17 = .ok (.ifCond .eq 5, 3) := by decide +kernel
theorem dX10_leadOfRow_20 : decode cX10_leadOfRow 20 = .ok (.iload_n 1, 1) := by decide +kernel
theorem dX10_leadOfRow_21 : decode cX10_leadOfRow 21 = .ok (.ireturn, 1) := by decide +kernel
theorem dX10_leadOfRow_22 : decode cX10_leadOfRow 22 = .ok (.iinc 1 1, 3) := by decide +kernel
theorem dX10_leadOfRow_25 : decode cX10_leadOfRow 25 = .ok (.goto (-23), 3) := by decide +kernel
theorem dX10_leadOfRow_28 : decode cX10_leadOfRow 28 = .ok (.iconst (-1), 1) := by decide +kernel
theorem dX10_leadOfRow_29 : decode cX10_leadOfRow 29 = .ok (.ireturn, 1) := by decide +kernel
theorem dX10_copyRowTo_0 : decode cX10_copyRowTo 0 = .ok (.aload_n 1, 1) := by decide +kernel
theorem dX10_copyRowTo_1 : decode cX10_copyRowTo 1 = .ok (.ifnonnull 4, 3) := by decide +kernel
theorem dX10_copyRowTo_4 : decode cX10_copyRowTo 4 = .ok (.return_, 1) := by decide +kernel
theorem dX10_copyRowTo_5 : decode cX10_copyRowTo 5 = .ok (.iconst 0, 1) := by decide +kernel
theorem dX10_copyRowTo_6 : decode cX10_copyRowTo 6 = .ok (.istore_n 2, 1) := by decide +kernel
theorem dX10_copyRowTo_7 : decode cX10_copyRowTo 7 = .ok (.iload_n 2, 1) := by decide +kernel
theorem dX10_copyRowTo_8 : decode cX10_copyRowTo 8 = .ok (.aload_n 0, 1) := by decide +kernel
theorem dX10_copyRowTo_9 : decode cX10_copyRowTo 9 = .ok (.getfield 20, 3) := by decide +kernel
theorem dX10_copyRowTo_12 : decode cX10_copyRowTo 12 = .ok (.arraylength, 1) := by decide +kernel
theorem dX10_copyRowTo_13 : decode cX10_copyRowTo 13 = .ok (.if_icmp .ge 24, 3) := by decide +kernel
theorem dX10_copyRowTo_16 : decode cX10_copyRowTo 16 = .ok (.iload_n 2, 1) := by decide +kernel
theorem dX10_copyRowTo_17 : decode cX10_copyRowTo 17 = .ok (.aload_n 1, 1) := by decide +kernel
theorem dX10_copyRowTo_18 : decode cX10_copyRowTo 18 = .ok (.arraylength, 1) := by decide +kernel
theorem dX10_copyRowTo_19 : decode cX10_copyRowTo 19 = .ok (.if_icmp .ge 18, 3) := by decide +kernel
theorem dX10_copyRowTo_22 : decode cX10_copyRowTo 22 = .ok (.aload_n 1, 1) := by decide +kernel
theorem dX10_copyRowTo_23 : decode cX10_copyRowTo 23 = .ok (.iload_n 2, 1) := by decide +kernel
theorem dX10_copyRowTo_24 : decode cX10_copyRowTo 24 = .ok (.aload_n 0, 1) := by decide +kernel
theorem dX10_copyRowTo_25 : decode cX10_copyRowTo 25 = .ok (.getfield 20, 3) := by decide +kernel
theorem dX10_copyRowTo_28 : decode cX10_copyRowTo 28 = .ok (.iload_n 2, 1) := by decide +kernel
theorem dX10_copyRowTo_29 : decode cX10_copyRowTo 29 = .ok (.iaload, 1) := by decide +kernel
theorem dX10_copyRowTo_30 : decode cX10_copyRowTo 30 = .ok (.iastore, 1) := by decide +kernel
theorem dX10_copyRowTo_31 : decode cX10_copyRowTo 31 = .ok (.iinc 2 1, 3) := by decide +kernel
theorem dX10_copyRowTo_34 : decode cX10_copyRowTo 34 = .ok (.goto (-27), 3) := by decide +kernel
theorem dX10_copyRowTo_37 : decode cX10_copyRowTo 37 = .ok (.return_, 1) := by decide +kernel
theorem dX11_init_0 : decode cX11_init 0 = .ok (.aload_n 0, 1) := by decide +kernel
theorem dX11_init_1 : decode cX11_init 1 = .ok (.invokespecial 1, 3) := by decide +kernel
theorem dX11_init_4 : decode cX11_init 4 = .ok (.aload_n 0, 1) := by decide +kernel
theorem dX11_init_5 : decode cX11_init 5 = .ok (.bipush 8, 2) := by decide +kernel
theorem dX11_init_7 : decode cX11_init 7 = .ok (.anewarray 9, 3) := by decide +kernel
theorem dX11_init_10 : decode cX11_init 10 = .ok (.putfield 11, 3) := by decide +kernel
theorem dX11_init_13 : decode cX11_init 13 = .ok (.iconst 0, 1) := by decide +kernel
theorem dX11_init_14 : decode cX11_init 14 = .ok (.istore_n 1, 1) := by decide +kernel
theorem dX11_init_15 : decode cX11_init 15 = .ok (.iload_n 1, 1) := by decide +kernel
theorem dX11_init_16 : decode cX11_init 16 = .ok (.aload_n 0, 1) := by decide +kernel
theorem dX11_init_17 : decode cX11_init 17 = .ok (.getfield 11, 3) := by decide +kernel
theorem dX11_init_20 : decode cX11_init 20 = .ok (.arraylength, 1) := by decide +kernel
theorem dX11_init_21 : decode cX11_init 21 = .ok (.if_icmp .ge 22, 3) := by decide +kernel
theorem dX11_init_24 : decode cX11_init 24 = .ok (.aload_n 0, 1) := by decide +kernel
theorem dX11_init_25 : decode cX11_init 25 = .ok (.getfield 11, 3) := by decide +kernel
theorem dX11_init_28 : decode cX11_init 28 = .ok (.iload_n 1, 1) := by decide +kernel
theorem dX11_init_29 : decode cX11_init 29 = .ok (.new 9, 3) := by decide +kernel
theorem dX11_init_32 : decode cX11_init 32 = .ok (.dup, 1) := by decide +kernel
theorem dX11_init_33 : decode cX11_init 33 = .ok (.invokespecial 15, 3) := by decide +kernel
theorem dX11_init_36 : decode cX11_init 36 = .ok (.aastore, 1) := by decide +kernel
theorem dX11_init_37 : decode cX11_init 37 = .ok (.iinc 1 1, 3) := by decide +kernel
theorem dX11_init_40 : decode cX11_init 40 = .ok (.goto (-25), 3) := by decide +kernel
theorem dX11_init_43 : decode cX11_init 43 = .ok (.aload_n 0, 1) := by decide +kernel
theorem dX11_init_44 : decode cX11_init 44 = .ok (.new 9, 3) := by decide +kernel
theorem dX11_init_47 : decode cX11_init 47 = .ok (.dup, 1) := by decide +kernel
theorem dX11_init_48 : decode cX11_init 48 = .ok (.invokespecial 15, 3) := by decide +kernel
theorem dX11_init_51 : decode cX11_init 51 = .ok (.putfield 16, 3) := by decide +kernel
theorem dX11_init_54 : decode cX11_init 54 = .ok (.aload_n 0, 1) := by decide +kernel
theorem dX11_init_55 : decode cX11_init 55 = .ok (.new 20, 3) := by decide +kernel
theorem dX11_init_58 : decode cX11_init 58 = .ok (.dup, 1) := by decide +kernel
theorem dX11_init_59 : decode cX11_init 59 = .ok (.invokespecial 22, 3) := by decide +kernel
theorem dX11_init_62 : decode cX11_init 62 = .ok (.putfield 23, 3) := by decide +kernel
theorem dX11_init_65 : decode cX11_init 65 = .ok (.aload_n 0, 1) := by decide +kernel
theorem dX11_init_66 : decode cX11_init 66 = .ok (.new 27, 3) := by decide +kernel
theorem dX11_init_69 : decode cX11_init 69 = .ok (.dup, 1) := by decide +kernel
theorem dX11_init_70 : decode cX11_init 70 = .ok (.invokespecial 29, 3) := by decide +kernel
theorem dX11_init_73 : decode cX11_init 73 = .ok (.putfield 30, 3) := by decide +kernel
theorem dX11_init_76 : decode cX11_init 76 = .ok (.aload_n 0, 1) := by decide +kernel
theorem dX11_init_77 : decode cX11_init 77 = .ok (.new 34, 3) := by decide +kernel
theorem dX11_init_80 : decode cX11_init 80 = .ok (.dup, 1) := by decide +kernel
theorem dX11_init_81 : decode cX11_init 81 = .ok (.invokespecial 36, 3) := by decide +kernel
theorem dX11_init_84 : decode cX11_init 84 = .ok (.putfield 37, 3) := by decide +kernel
theorem dX11_init_87 : decode cX11_init 87 = .ok (.aload_n 0, 1) := by decide +kernel
theorem dX11_init_88 : decode cX11_init 88 = .ok (.iconst 0, 1) := by decide +kernel
theorem dX11_init_89 : decode cX11_init 89 = .ok (.putfield 41, 3) := by decide +kernel
theorem dX11_init_92 : decode cX11_init 92 = .ok (.return_, 1) := by decide +kernel
theorem dX11_square_0 : decode cX11_square 0 = .ok (.iload_n 1, 1) := by decide +kernel
theorem dX11_square_1 : decode cX11_square 1 = .ok (.iconst 1, 1) := by decide +kernel
theorem dX11_square_2 : decode cX11_square 2 = .ok (.bipush 9, 2) := by decide +kernel
theorem dX11_square_4 : decode cX11_square 4 = .ok (.invokestatic 45, 3) := by decide +kernel
theorem dX11_square_7 : decode cX11_square 7 = .ok (.aload_n 0, 1) := by decide +kernel
theorem dX11_square_8 : decode cX11_square 8 = .ok (.invokevirtual 49, 3) := by decide +kernel
theorem dX11_square_11 : decode cX11_square 11 = .ok (.aload_n 0, 1) := by decide +kernel
theorem dX11_square_12 : decode cX11_square 12 = .ok (.iload_n 1, 1) := by decide +kernel
theorem dX11_square_13 : decode cX11_square 13 = .ok (.invokevirtual 52, 3) := by decide +kernel
theorem dX11_square_16 : decode cX11_square 16 = .ok (.ireturn, 1) := by decide +kernel
theorem dX11_put_0 : decode cX11_put 0 = .ok (.aload_n 0, 1) := by decide +kernel
theorem dX11_put_1 : decode cX11_put 1 = .ok (.iload_n 1, 1) := by decide +kernel
theorem dX11_put_2 : decode cX11_put 2 = .ok (.invokevirtual 56, 3) := by decide +kernel
theorem dX11_put_5 : decode cX11_put 5 = .ok (.astore 5, 2) := by decide +kernel
theorem dX11_put_7 : decode cX11_put 7 = .ok (.aload 5, 2) := by decide +kernel
theorem dX11_put_9 : decode cX11_put 9 = .ok (.iload_n 2, 1) := by decide +kernel
theorem dX11_put_10 : decode cX11_put 10 = .ok (.iload_n 3, 1) := by decide +kernel
theorem dX11_put_11 : decode cX11_put 11 = .ok (.invokestatic 60, 3) := by decide +kernel
theorem dX11_put_14 : decode cX11_put 14 = .ok (.iload 4, 2) := by decide +kernel
theorem dX11_put_16 : decode cX11_put 16 = .ok (.iconst 0, 1) := by decide +kernel
theorem dX11_put_17 : decode cX11_put 17 = .ok (.sipush 999, 3) := by decide +kernel
theorem dX11_put_20 : decode cX11_put 20 = .ok (.invokestatic 45, 3) := by decide +kernel
theorem dX11_put_23 : decode cX11_put 23 = .ok (.aload 5, 2) := by decide +kernel
theorem dX11_put_25 : decode cX11_put 25 = .ok (.aload 5, 2) := by decide +kernel
theorem dX11_put_27 : decode cX11_put 27 = .ok (.iload_n 2, 1) := by decide +kernel
theorem dX11_put_28 : decode cX11_put 28 = .ok (.iload_n 3, 1) := by decide +kernel
theorem dX11_put_29 : decode cX11_put 29 = .ok (.invokevirtual 64, 3) := by decide +kernel
theorem dX11_put_32 : decode cX11_put 32 = .ok (.iload 4, 2) := by decide +kernel
theorem dX11_put_34 : decode cX11_put 34 = .ok (.invokevirtual 68, 3) := by decide +kernel
theorem dX11_put_37 : decode cX11_put 37 = .ok (.ireturn, 1) := by decide +kernel
theorem dX11_at_0 : decode cX11_at 0 = .ok (.aload_n 0, 1) := by decide +kernel
theorem dX11_at_1 : decode cX11_at 1 = .ok (.iload_n 1, 1) := by decide +kernel
theorem dX11_at_2 : decode cX11_at 2 = .ok (.invokevirtual 56, 3) := by decide +kernel
theorem dX11_at_5 : decode cX11_at 5 = .ok (.astore 4, 2) := by decide +kernel
theorem dX11_at_7 : decode cX11_at 7 = .ok (.aload 4, 2) := by decide +kernel
theorem dX11_at_9 : decode cX11_at 9 = .ok (.iload_n 2, 1) := by decide +kernel
theorem dX11_at_10 : decode cX11_at 10 = .ok (.iload_n 3, 1) := by decide +kernel
theorem dX11_at_11 : decode cX11_at 11 = .ok (.invokestatic 60, 3) := by decide +kernel
theorem dX11_at_14 : decode cX11_at 14 = .ok (.aload 4, 2) := by decide +kernel
theorem dX11_at_16 : decode cX11_at 16 = .ok (.aload 4, 2) := by decide +kernel
theorem dX11_at_18 : decode cX11_at 18 = .ok (.iload_n 2, 1) := by decide +kernel
theorem dX11_at_19 : decode cX11_at 19 = .ok (.iload_n 3, 1) := by decide +kernel
theorem dX11_at_20 : decode cX11_at 20 = .ok (.invokevirtual 64, 3) := by decide +kernel
theorem dX11_at_23 : decode cX11_at 23 = .ok (.invokevirtual 71, 3) := by decide +kernel
theorem dX11_at_26 : decode cX11_at 26 = .ok (.ireturn, 1) := by decide +kernel
theorem dX11_make_0 : decode cX11_make 0 = .ok (.iload_n 1, 1) := by decide +kernel
theorem dX11_make_1 : decode cX11_make 1 = .ok (.iconst 0, 1) := by decide +kernel
theorem dX11_make_2 : decode cX11_make 2 = .ok (.iconst 3, 1) := by decide +kernel
theorem dX11_make_3 : decode cX11_make 3 = .ok (.invokestatic 45, 3) := by decide +kernel
theorem dX11_make_6 : decode cX11_make 6 = .ok (.iload_n 2, 1) := by decide +kernel
theorem dX11_make_7 : decode cX11_make 7 = .ok (.iconst 1, 1) := by decide +kernel
theorem dX11_make_8 : decode cX11_make 8 = .ok (.bipush 9, 2) := by decide +kernel
theorem dX11_make_10 : decode cX11_make 10 = .ok (.invokestatic 45, 3) := by decide +kernel
theorem dX11_make_13 : decode cX11_make 13 = .ok (.iload_n 1, 1) := by decide +kernel
theorem dX11_make_14 : decode cX11_make 14 = .ok (.iload_n 2, 1) := by decide +kernel
theorem dX11_make_15 : decode cX11_make 15 = .ok (.invokestatic 74, 3) := by decide +kernel
theorem dX11_make_18 : decode cX11_make 18 = .ok (.invokestatic 80, 3) := by decide +kernel
theorem dX11_make_21 : decode cX11_make 21 = .ok (.aload_n 0, 1) := by decide +kernel
theorem dX11_make_22 : decode cX11_make 22 = .ok (.invokevirtual 49, 3) := by decide +kernel
theorem dX11_make_25 : decode cX11_make 25 = .ok (.aload_n 0, 1) := by decide +kernel
theorem dX11_make_26 : decode cX11_make 26 = .ok (.iload_n 2, 1) := by decide +kernel
theorem dX11_make_27 : decode cX11_make 27 = .ok (.invokevirtual 52, 3) := by decide +kernel
theorem dX11_make_30 : decode cX11_make 30 = .ok (.istore_n 3, 1) := by decide +kernel
theorem dX11_make_31 : decode cX11_make 31 = .ok (.iload_n 1, 1) := by decide +kernel
theorem dX11_make_32 : decode cX11_make 32 = .ok (.aload_n 0, 1) := by decide +kernel
theorem dX11_make_33 : decode cX11_make 33 = .ok (.iload_n 3, 1) := by decide +kernel
theorem dX11_make_34 : decode cX11_make 34 = .ok (.invokevirtual 56, 3) := by decide +kernel
theorem dX11_make_37 : decode cX11_make 37 = .ok (.aload_n 0, 1) := by decide +kernel
theorem dX11_make_38 : decode cX11_make 38 = .ok (.getfield 16, 3) := by decide +kernel
theorem dX11_make_41 : decode cX11_make 41 = .ok (.invokestatic 84, 3) := by decide +kernel
theorem dX11_make_44 : decode cX11_make 44 = .ok (.iload_n 3, 1) := by decide +kernel
theorem dX11_make_45 : decode cX11_make 45 = .ok (.ireturn, 1) := by decide +kernel
theorem dX11_laws_0 : decode cX11_laws 0 = .ok (.aload_n 0, 1) := by decide +kernel
theorem dX11_laws_1 : decode cX11_laws 1 = .ok (.iload_n 1, 1) := by decide +kernel
theorem dX11_laws_2 : decode cX11_laws 2 = .ok (.invokevirtual 56, 3) := by decide +kernel
theorem dX11_laws_5 : decode cX11_laws 5 = .ok (.invokestatic 88, 3) := by decide +kernel
theorem dX11_laws_8 : decode cX11_laws 8 = .ok (.ireturn, 1) := by decide +kernel
theorem dX11_sum_0 : decode cX11_sum 0 = .ok (.aload_n 0, 1) := by decide +kernel
theorem dX11_sum_1 : decode cX11_sum 1 = .ok (.iload_n 1, 1) := by decide +kernel
theorem dX11_sum_2 : decode cX11_sum 2 = .ok (.invokevirtual 56, 3) := by decide +kernel
theorem dX11_sum_5 : decode cX11_sum 5 = .ok (.astore 4, 2) := by decide +kernel
theorem dX11_sum_7 : decode cX11_sum 7 = .ok (.iload_n 2, 1) := by decide +kernel
theorem dX11_sum_8 : decode cX11_sum 8 = .ok (.iconst 0, 1) := by decide +kernel
theorem dX11_sum_9 : decode cX11_sum 9 = .ok (.iconst 3, 1) := by decide +kernel
theorem dX11_sum_10 : decode cX11_sum 10 = .ok (.invokestatic 45, 3) := by decide +kernel
theorem dX11_sum_13 : decode cX11_sum 13 = .ok (.iload_n 3, 1) := by decide +kernel
theorem dX11_sum_14 : decode cX11_sum 14 = .ok (.iconst 0, 1) := by decide +kernel
theorem dX11_sum_15 : decode cX11_sum 15 = .ok (.aload 4, 2) := by decide +kernel
theorem dX11_sum_17 : decode cX11_sum 17 = .ok (.invokevirtual 94, 3) := by decide +kernel
theorem dX11_sum_20 : decode cX11_sum 20 = .ok (.iconst 1, 1) := by decide +kernel
theorem dX11_sum_21 : decode cX11_sum 21 = .ok (.isub, 1) := by decide +kernel
theorem dX11_sum_22 : decode cX11_sum 22 = .ok (.invokestatic 45, 3) := by decide +kernel
theorem dX11_sum_25 : decode cX11_sum 25 = .ok (.aload 4, 2) := by decide +kernel
theorem dX11_sum_27 : decode cX11_sum 27 = .ok (.iload_n 2, 1) := by decide +kernel
theorem dX11_sum_28 : decode cX11_sum 28 = .ok (.iload_n 3, 1) := by decide +kernel
theorem dX11_sum_29 : decode cX11_sum 29 = .ok (.invokevirtual 98, 3) := by decide +kernel
theorem dX11_sum_32 : decode cX11_sum 32 = .ok (.ireturn, 1) := by decide +kernel
theorem dX11_change_0 : decode cX11_change 0 = .ok (.aload_n 0, 1) := by decide +kernel
theorem dX11_change_1 : decode cX11_change 1 = .ok (.iload_n 1, 1) := by decide +kernel
end
section
theorem dX11_change_2 : decode cX11_change 2 = .ok (.invokevirtual 56, 3) := by decide +kernel
theorem dX11_change_5 : decode cX11_change 5 = .ok (.astore 4, 2) := by decide +kernel
theorem dX11_change_7 : decode cX11_change 7 = .ok (.iload_n 2, 1) := by decide +kernel
theorem dX11_change_8 : decode cX11_change 8 = .ok (.iconst 0, 1) := by decide +kernel
theorem dX11_change_9 : decode cX11_change 9 = .ok (.iconst 5, 1) := by decide +kernel
theorem dX11_change_10 : decode cX11_change 10 = .ok (.invokestatic 45, 3) := by decide +kernel
theorem dX11_change_13 : decode cX11_change 13 = .ok (.iload_n 3, 1) := by decide +kernel
theorem dX11_change_14 : decode cX11_change 14 = .ok (.iconst 0, 1) := by decide +kernel
theorem dX11_change_15 : decode cX11_change 15 = .ok (.iload_n 2, 1) := by decide +kernel
theorem dX11_change_16 : decode cX11_change 16 = .ok (.aload 4, 2) := by decide +kernel
theorem dX11_change_18 : decode cX11_change 18 = .ok (.invokevirtual 94, 3) := by decide +kernel
theorem dX11_change_21 : decode cX11_change 21 = .ok (.invokestatic 101, 3) := by decide +kernel
theorem dX11_change_24 : decode cX11_change 24 = .ok (.invokestatic 45, 3) := by decide +kernel
theorem dX11_change_27 : decode cX11_change 27 = .ok (.iload_n 2, 1) := by decide +kernel
theorem dX11_change_28 : decode cX11_change 28 = .ok (.iconst 2, 1) := by decide +kernel
theorem dX11_change_29 : decode cX11_change 29 = .ok (.if_icmp .eq 15, 3) := by decide +kernel
theorem dX11_change_32 : decode cX11_change 32 = .ok (.aload 4, 2) := by decide +kernel
theorem dX11_change_34 : decode cX11_change 34 = .ok (.aload_n 0, 1) := by decide +kernel
theorem dX11_change_35 : decode cX11_change 35 = .ok (.getfield 16, 3) := by decide +kernel
theorem dX11_change_38 : decode cX11_change 38 = .ok (.iload_n 2, 1) := by decide +kernel
theorem dX11_change_39 : decode cX11_change 39 = .ok (.iload_n 3, 1) := by decide +kernel
theorem dX11_change_40 : decode cX11_change 40 = .ok (.invokestatic 106, 3) := by decide +kernel
theorem dX11_change_43 : decode cX11_change 43 = .ok (.ireturn, 1) := by decide +kernel
theorem dX11_change_44 : decode cX11_change 44 = .ok (.aload 4, 2) := by decide +kernel
theorem dX11_change_46 : decode cX11_change 46 = .ok (.iload_n 3, 1) := by decide +kernel
theorem dX11_change_47 : decode cX11_change 47 = .ok (.invokestatic 110, 3) := by decide +kernel
theorem dX11_change_50 : decode cX11_change 50 = .ok (.invokestatic 80, 3) := by decide +kernel
theorem dX11_change_53 : decode cX11_change 53 = .ok (.aload 4, 2) := by decide +kernel
theorem dX11_change_55 : decode cX11_change 55 = .ok (.iload_n 3, 1) := by decide +kernel
theorem dX11_change_56 : decode cX11_change 56 = .ok (.invokestatic 114, 3) := by decide +kernel
theorem dX11_change_59 : decode cX11_change 59 = .ok (.ireturn, 1) := by decide +kernel
theorem dX11_same_0 : decode cX11_same 0 = .ok (.aload_n 0, 1) := by decide +kernel
theorem dX11_same_1 : decode cX11_same 1 = .ok (.iload_n 1, 1) := by decide +kernel
theorem dX11_same_2 : decode cX11_same 2 = .ok (.invokevirtual 56, 3) := by decide +kernel
theorem dX11_same_5 : decode cX11_same 5 = .ok (.astore_n 3, 1) := by decide +kernel
theorem dX11_same_6 : decode cX11_same 6 = .ok (.aload_n 3, 1) := by decide +kernel
theorem dX11_same_7 : decode cX11_same 7 = .ok (.aload_n 0, 1) := by decide +kernel
theorem dX11_same_8 : decode cX11_same 8 = .ok (.iload_n 2, 1) := by decide +kernel
theorem dX11_same_9 : decode cX11_same 9 = .ok (.invokevirtual 56, 3) := by decide +kernel
theorem dX11_same_12 : decode cX11_same 12 = .ok (.invokestatic 118, 3) := by decide +kernel
theorem dX11_same_15 : decode cX11_same 15 = .ok (.ireturn, 1) := by decide +kernel
theorem dX11_least_0 : decode cX11_least 0 = .ok (.aload_n 0, 1) := by decide +kernel
theorem dX11_least_1 : decode cX11_least 1 = .ok (.iload_n 1, 1) := by decide +kernel
theorem dX11_least_2 : decode cX11_least 2 = .ok (.invokevirtual 56, 3) := by decide +kernel
theorem dX11_least_5 : decode cX11_least 5 = .ok (.astore 4, 2) := by decide +kernel
theorem dX11_least_7 : decode cX11_least 7 = .ok (.aload 4, 2) := by decide +kernel
theorem dX11_least_9 : decode cX11_least 9 = .ok (.iload_n 2, 1) := by decide +kernel
theorem dX11_least_10 : decode cX11_least 10 = .ok (.iload_n 3, 1) := by decide +kernel
theorem dX11_least_11 : decode cX11_least 11 = .ok (.invokestatic 60, 3) := by decide +kernel
theorem dX11_least_14 : decode cX11_least 14 = .ok (.aload 4, 2) := by decide +kernel
theorem dX11_least_16 : decode cX11_least 16 = .ok (.aload 4, 2) := by decide +kernel
theorem dX11_least_18 : decode cX11_least 18 = .ok (.invokestatic 124, 3) := by decide +kernel
theorem dX11_least_21 : decode cX11_least 21 = .ok (.aload 4, 2) := by decide +kernel
theorem dX11_least_23 : decode cX11_least 23 = .ok (.iload_n 2, 1) := by decide +kernel
theorem dX11_least_24 : decode cX11_least 24 = .ok (.iload_n 3, 1) := by decide +kernel
theorem dX11_least_25 : decode cX11_least 25 = .ok (.invokevirtual 64, 3) := by decide +kernel
theorem dX11_least_28 : decode cX11_least 28 = .ok (.invokestatic 127, 3) := by decide +kernel
theorem dX11_least_31 : decode cX11_least 31 = .ok (.ireturn, 1) := by decide +kernel
theorem dX11_kin_0 : decode cX11_kin 0 = .ok (.aload_n 0, 1) := by decide +kernel
theorem dX11_kin_1 : decode cX11_kin 1 = .ok (.iload_n 1, 1) := by decide +kernel
theorem dX11_kin_2 : decode cX11_kin 2 = .ok (.invokevirtual 56, 3) := by decide +kernel
theorem dX11_kin_5 : decode cX11_kin 5 = .ok (.invokestatic 131, 3) := by decide +kernel
theorem dX11_kin_8 : decode cX11_kin 8 = .ok (.ireturn, 1) := by decide +kernel
theorem dX11_classes_0 : decode cX11_classes 0 = .ok (.iconst 0, 1) := by decide +kernel
theorem dX11_classes_1 : decode cX11_classes 1 = .ok (.istore_n 1, 1) := by decide +kernel
theorem dX11_classes_2 : decode cX11_classes 2 = .ok (.iconst 0, 1) := by decide +kernel
theorem dX11_classes_3 : decode cX11_classes 3 = .ok (.istore_n 2, 1) := by decide +kernel
theorem dX11_classes_4 : decode cX11_classes 4 = .ok (.iload_n 2, 1) := by decide +kernel
theorem dX11_classes_5 : decode cX11_classes 5 = .ok (.aload_n 0, 1) := by decide +kernel
theorem dX11_classes_6 : decode cX11_classes 6 = .ok (.getfield 41, 3) := by decide +kernel
theorem dX11_classes_9 : decode cX11_classes 9 = .ok (.if_icmp .ge 20, 3) := by decide +kernel
theorem dX11_classes_12 : decode cX11_classes 12 = .ok (.aload_n 0, 1) := by decide +kernel
theorem dX11_classes_13 : decode cX11_classes 13 = .ok (.iload_n 2, 1) := by decide +kernel
theorem dX11_classes_14 : decode cX11_classes 14 = .ok (.invokevirtual 134, 3) := by decide +kernel
theorem dX11_classes_17 : decode cX11_classes 17 = .ok (.ifCond .ne 6, 3) := by decide +kernel
theorem dX11_classes_20 : decode cX11_classes 20 = .ok (.iinc 1 1, 3) := by decide +kernel
theorem dX11_classes_23 : decode cX11_classes 23 = .ok (.iinc 2 1, 3) := by decide +kernel
theorem dX11_classes_26 : decode cX11_classes 26 = .ok (.goto (-22), 3) := by decide +kernel
theorem dX11_classes_29 : decode cX11_classes 29 = .ok (.iload_n 1, 1) := by decide +kernel
theorem dX11_classes_30 : decode cX11_classes 30 = .ok (.ireturn, 1) := by decide +kernel
theorem dX11_completions_0 : decode cX11_completions 0 = .ok (.aload_n 0, 1) := by decide +kernel
theorem dX11_completions_1 : decode cX11_completions 1 = .ok (.iload_n 1, 1) := by decide +kernel
theorem dX11_completions_2 : decode cX11_completions 2 = .ok (.invokevirtual 56, 3) := by decide +kernel
theorem dX11_completions_5 : decode cX11_completions 5 = .ok (.astore_n 2, 1) := by decide +kernel
theorem dX11_completions_6 : decode cX11_completions 6 = .ok (.aload_n 2, 1) := by decide +kernel
theorem dX11_completions_7 : decode cX11_completions 7 = .ok (.invokestatic 138, 3) := by decide +kernel
theorem dX11_completions_10 : decode cX11_completions 10 = .ok (.invokestatic 80, 3) := by decide +kernel
theorem dX11_completions_13 : decode cX11_completions 13 = .ok (.aload_n 0, 1) := by decide +kernel
theorem dX11_completions_14 : decode cX11_completions 14 = .ok (.getfield 23, 3) := by decide +kernel
theorem dX11_completions_17 : decode cX11_completions 17 = .ok (.aload_n 2, 1) := by decide +kernel
theorem dX11_completions_18 : decode cX11_completions 18 = .ok (.invokevirtual 142, 3) := by decide +kernel
theorem dX11_completions_21 : decode cX11_completions 21 = .ok (.aload_n 0, 1) := by decide +kernel
theorem dX11_completions_22 : decode cX11_completions 22 = .ok (.getfield 23, 3) := by decide +kernel
theorem dX11_completions_25 : decode cX11_completions 25 = .ok (.invokevirtual 146, 3) := by decide +kernel
theorem dX11_completions_28 : decode cX11_completions 28 = .ok (.ireturn, 1) := by decide +kernel
theorem dX11_completion_0 : decode cX11_completion 0 = .ok (.aload_n 0, 1) := by decide +kernel
theorem dX11_completion_1 : decode cX11_completion 1 = .ok (.iload_n 1, 1) := by decide +kernel
theorem dX11_completion_2 : decode cX11_completion 2 = .ok (.invokevirtual 56, 3) := by decide +kernel
theorem dX11_completion_5 : decode cX11_completion 5 = .ok (.astore 5, 2) := by decide +kernel
theorem dX11_completion_7 : decode cX11_completion 7 = .ok (.aload 5, 2) := by decide +kernel
theorem dX11_completion_9 : decode cX11_completion 9 = .ok (.iload_n 3, 1) := by decide +kernel
theorem dX11_completion_10 : decode cX11_completion 10 = .ok (.iload 4, 2) := by decide +kernel
theorem dX11_completion_12 : decode cX11_completion 12 = .ok (.invokestatic 60, 3) := by decide +kernel
theorem dX11_completion_15 : decode cX11_completion 15 = .ok (.iload_n 2, 1) := by decide +kernel
theorem dX11_completion_16 : decode cX11_completion 16 = .ok (.ifCond .ge 13, 3) := by decide +kernel
theorem dX11_completion_19 : decode cX11_completion 19 = .ok (.new 149, 3) := by decide +kernel
theorem dX11_completion_22 : decode cX11_completion 22 = .ok (.dup, 1) := by decide +kernel
theorem dX11_completion_23 : decode cX11_completion 23 = .ok (.ldc 151, 2) := by decide +kernel
theorem dX11_completion_25 : decode cX11_completion 25 = .ok (.invokespecial 153, 3) := by decide +kernel
theorem dX11_completion_28 : decode cX11_completion 28 = .ok (.athrow, 1) := by decide +kernel
theorem dX11_completion_29 : decode cX11_completion 29 = .ok (.aload 5, 2) := by decide +kernel
theorem dX11_completion_31 : decode cX11_completion 31 = .ok (.invokestatic 138, 3) := by decide +kernel
theorem dX11_completion_34 : decode cX11_completion 34 = .ok (.invokestatic 80, 3) := by decide +kernel
theorem dX11_completion_37 : decode cX11_completion 37 = .ok (.aload_n 0, 1) := by decide +kernel
theorem dX11_completion_38 : decode cX11_completion 38 = .ok (.getfield 23, 3) := by decide +kernel
theorem dX11_completion_41 : decode cX11_completion 41 = .ok (.aload 5, 2) := by decide +kernel
theorem dX11_completion_43 : decode cX11_completion 43 = .ok (.invokevirtual 142, 3) := by decide +kernel
theorem dX11_completion_46 : decode cX11_completion 46 = .ok (.aload_n 0, 1) := by decide +kernel
theorem dX11_completion_47 : decode cX11_completion 47 = .ok (.getfield 23, 3) := by decide +kernel
theorem dX11_completion_50 : decode cX11_completion 50 = .ok (.iload_n 2, 1) := by decide +kernel
theorem dX11_completion_51 : decode cX11_completion 51 = .ok (.aload 5, 2) := by decide +kernel
theorem dX11_completion_53 : decode cX11_completion 53 = .ok (.iload_n 3, 1) := by decide +kernel
theorem dX11_completion_54 : decode cX11_completion 54 = .ok (.iload 4, 2) := by decide +kernel
theorem dX11_completion_56 : decode cX11_completion 56 = .ok (.invokevirtual 64, 3) := by decide +kernel
theorem dX11_completion_59 : decode cX11_completion 59 = .ok (.invokevirtual 156, 3) := by decide +kernel
theorem dX11_completion_62 : decode cX11_completion 62 = .ok (.ireturn, 1) := by decide +kernel
theorem dX11_estimate_0 : decode cX11_estimate 0 = .ok (.aload_n 0, 1) := by decide +kernel
theorem dX11_estimate_1 : decode cX11_estimate 1 = .ok (.iload_n 1, 1) := by decide +kernel
theorem dX11_estimate_2 : decode cX11_estimate 2 = .ok (.invokevirtual 56, 3) := by decide +kernel
theorem dX11_estimate_5 : decode cX11_estimate 5 = .ok (.astore_n 3, 1) := by decide +kernel
theorem dX11_estimate_6 : decode cX11_estimate 6 = .ok (.iload_n 2, 1) := by decide +kernel
theorem dX11_estimate_7 : decode cX11_estimate 7 = .ok (.iconst 0, 1) := by decide +kernel
theorem dX11_estimate_8 : decode cX11_estimate 8 = .ok (.ldc 158, 2) := by decide +kernel
theorem dX11_estimate_10 : decode cX11_estimate 10 = .ok (.invokestatic 45, 3) := by decide +kernel
theorem dX11_estimate_13 : decode cX11_estimate 13 = .ok (.aload_n 3, 1) := by decide +kernel
theorem dX11_estimate_14 : decode cX11_estimate 14 = .ok (.invokevirtual 94, 3) := by decide +kernel
theorem dX11_estimate_17 : decode cX11_estimate 17 = .ok (.iconst 4, 1) := by decide +kernel
theorem dX11_estimate_18 : decode cX11_estimate 18 = .ok (.if_icmp .gt 7, 3) := by decide +kernel
theorem dX11_estimate_21 : decode cX11_estimate 21 = .ok (.iconst 1, 1) := by decide +kernel
theorem dX11_estimate_22 : decode cX11_estimate 22 = .ok (.goto 4, 3) := by decide +kernel
theorem dX11_estimate_25 : decode cX11_estimate 25 = .ok (.iconst 0, 1) := by decide +kernel
theorem dX11_estimate_26 : decode cX11_estimate 26 = .ok (.invokestatic 80, 3) := by decide +kernel
theorem dX11_estimate_29 : decode cX11_estimate 29 = .ok (.aload_n 0, 1) := by decide +kernel
theorem dX11_estimate_30 : decode cX11_estimate 30 = .ok (.getfield 23, 3) := by decide +kernel
theorem dX11_estimate_33 : decode cX11_estimate 33 = .ok (.aload_n 3, 1) := by decide +kernel
theorem dX11_estimate_34 : decode cX11_estimate 34 = .ok (.invokevirtual 142, 3) := by decide +kernel
theorem dX11_estimate_37 : decode cX11_estimate 37 = .ok (.aload_n 0, 1) := by decide +kernel
theorem dX11_estimate_38 : decode cX11_estimate 38 = .ok (.getfield 23, 3) := by decide +kernel
theorem dX11_estimate_41 : decode cX11_estimate 41 = .ok (.iload_n 2, 1) := by decide +kernel
theorem dX11_estimate_42 : decode cX11_estimate 42 = .ok (.invokevirtual 159, 3) := by decide +kernel
theorem dX11_estimate_45 : decode cX11_estimate 45 = .ok (.lreturn, 1) := by decide +kernel
theorem dX11_givens_0 : decode cX11_givens 0 = .ok (.aload_n 0, 1) := by decide +kernel
theorem dX11_givens_1 : decode cX11_givens 1 = .ok (.iload_n 1, 1) := by decide +kernel
theorem dX11_givens_2 : decode cX11_givens 2 = .ok (.invokevirtual 56, 3) := by decide +kernel
theorem dX11_givens_5 : decode cX11_givens 5 = .ok (.astore_n 3, 1) := by decide +kernel
theorem dX11_givens_6 : decode cX11_givens 6 = .ok (.aload_n 3, 1) := by decide +kernel
theorem dX11_givens_7 : decode cX11_givens 7 = .ok (.invokevirtual 94, 3) := by decide +kernel
theorem dX11_givens_10 : decode cX11_givens 10 = .ok (.iconst 3, 1) := by decide +kernel
theorem dX11_givens_11 : decode cX11_givens 11 = .ok (.if_icmp .gt 21, 3) := by decide +kernel
theorem dX11_givens_14 : decode cX11_givens 14 = .ok (.aload_n 3, 1) := by decide +kernel
theorem dX11_givens_15 : decode cX11_givens 15 = .ok (.invokestatic 163, 3) := by decide +kernel
theorem dX11_givens_18 : decode cX11_givens 18 = .ok (.ifCond .eq 14, 3) := by decide +kernel
theorem dX11_givens_21 : decode cX11_givens 21 = .ok (.aload_n 3, 1) := by decide +kernel
theorem dX11_givens_22 : decode cX11_givens 22 = .ok (.invokestatic 166, 3) := by decide +kernel
theorem dX11_givens_25 : decode cX11_givens 25 = .ok (.ifCond .eq 7, 3) := by decide +kernel
theorem dX11_givens_28 : decode cX11_givens 28 = .ok (.iconst 1, 1) := by decide +kernel
theorem dX11_givens_29 : decode cX11_givens 29 = .ok (.goto 4, 3) := by decide +kernel
theorem dX11_givens_32 : decode cX11_givens 32 = .ok (.iconst 0, 1) := by decide +kernel
theorem dX11_givens_33 : decode cX11_givens 33 = .ok (.invokestatic 80, 3) := by decide +kernel
theorem dX11_givens_36 : decode cX11_givens 36 = .ok (.aload_n 0, 1) := by decide +kernel
theorem dX11_givens_37 : decode cX11_givens 37 = .ok (.getfield 30, 3) := by decide +kernel
theorem dX11_givens_40 : decode cX11_givens 40 = .ok (.aload_n 3, 1) := by decide +kernel
theorem dX11_givens_41 : decode cX11_givens 41 = .ok (.invokevirtual 169, 3) := by decide +kernel
theorem dX11_givens_44 : decode cX11_givens 44 = .ok (.istore 4, 2) := by decide +kernel
theorem dX11_givens_46 : decode cX11_givens 46 = .ok (.iload_n 2, 1) := by decide +kernel
theorem dX11_givens_47 : decode cX11_givens 47 = .ok (.ifCond .eq 8, 3) := by decide +kernel
theorem dX11_givens_50 : decode cX11_givens 50 = .ok (.iload 4, 2) := by decide +kernel
theorem dX11_givens_52 : decode cX11_givens 52 = .ok (.goto 8, 3) := by decide +kernel
theorem dX11_givens_55 : decode cX11_givens 55 = .ok (.iload 4, 2) := by decide +kernel
theorem dX11_givens_57 : decode cX11_givens 57 = .ok (.invokestatic 172, 3) := by decide +kernel
theorem dX11_givens_60 : decode cX11_givens 60 = .ok (.ireturn, 1) := by decide +kernel
theorem dX11_slip_0 : decode cX11_slip 0 = .ok (.aload_n 0, 1) := by decide +kernel
theorem dX11_slip_1 : decode cX11_slip 1 = .ok (.iload_n 1, 1) := by decide +kernel
theorem dX11_slip_2 : decode cX11_slip 2 = .ok (.invokevirtual 56, 3) := by decide +kernel
theorem dX11_slip_5 : decode cX11_slip 5 = .ok (.astore_n 3, 1) := by decide +kernel
theorem dX11_slip_6 : decode cX11_slip 6 = .ok (.iload_n 2, 1) := by decide +kernel
theorem dX11_slip_7 : decode cX11_slip 7 = .ok (.iconst 0, 1) := by decide +kernel
theorem dX11_slip_8 : decode cX11_slip 8 = .ok (.iconst 2, 1) := by decide +kernel
theorem dX11_slip_9 : decode cX11_slip 9 = .ok (.invokestatic 45, 3) := by decide +kernel
theorem dX11_slip_12 : decode cX11_slip 12 = .ok (.aload_n 3, 1) := by decide +kernel
theorem dX11_slip_13 : decode cX11_slip 13 = .ok (.iload_n 2, 1) := by decide +kernel
theorem dX11_slip_14 : decode cX11_slip 14 = .ok (.invokestatic 179, 3) := by decide +kernel
theorem dX11_slip_17 : decode cX11_slip 17 = .ok (.ireturn, 1) := by decide +kernel
theorem dX11_orthogonal_0 : decode cX11_orthogonal 0 = .ok (.aload_n 0, 1) := by decide +kernel
theorem dX11_orthogonal_1 : decode cX11_orthogonal 1 = .ok (.iload_n 1, 1) := by decide +kernel
theorem dX11_orthogonal_2 : decode cX11_orthogonal 2 = .ok (.invokevirtual 56, 3) := by decide +kernel
theorem dX11_orthogonal_5 : decode cX11_orthogonal 5 = .ok (.astore_n 3, 1) := by decide +kernel
theorem dX11_orthogonal_6 : decode cX11_orthogonal 6 = .ok (.aload_n 0, 1) := by decide +kernel
theorem dX11_orthogonal_7 : decode cX11_orthogonal 7 = .ok (.iload_n 2, 1) := by decide +kernel
theorem dX11_orthogonal_8 : decode cX11_orthogonal 8 = .ok (.invokevirtual 56, 3) := by decide +kernel
theorem dX11_orthogonal_11 : decode cX11_orthogonal 11 = .ok (.astore 4, 2) := by decide +kernel
theorem dX11_orthogonal_13 : decode cX11_orthogonal 13 = .ok (.aload_n 3, 1) := by decide +kernel
theorem dX11_orthogonal_14 : decode cX11_orthogonal 14 = .ok (.invokevirtual 94, 3) := by decide +kernel
theorem dX11_orthogonal_17 : decode cX11_orthogonal 17 = .ok (.aload 4, 2) := by decide +kernel
theorem dX11_orthogonal_19 : decode cX11_orthogonal 19 = .ok (.invokevirtual 94, 3) := by decide +kernel
theorem dX11_orthogonal_22 : decode cX11_orthogonal 22 = .ok (.if_icmp .ne 7, 3) := by decide +kernel
theorem dX11_orthogonal_25 : decode cX11_orthogonal 25 = .ok (.iconst 1, 1) := by decide +kernel
theorem dX11_orthogonal_26 : decode cX11_orthogonal 26 = .ok (.goto 4, 3) := by decide +kernel
theorem dX11_orthogonal_29 : decode cX11_orthogonal 29 = .ok (.iconst 0, 1) := by decide +kernel
theorem dX11_orthogonal_30 : decode cX11_orthogonal 30 = .ok (.invokestatic 80, 3) := by decide +kernel
theorem dX11_orthogonal_33 : decode cX11_orthogonal 33 = .ok (.aload_n 3, 1) := by decide +kernel
theorem dX11_orthogonal_34 : decode cX11_orthogonal 34 = .ok (.aload 4, 2) := by decide +kernel
theorem dX11_orthogonal_36 : decode cX11_orthogonal 36 = .ok (.invokestatic 182, 3) := by decide +kernel
theorem dX11_orthogonal_39 : decode cX11_orthogonal 39 = .ok (.ireturn, 1) := by decide +kernel
theorem dX11_stack_0 : decode cX11_stack 0 = .ok (.aload_n 0, 1) := by decide +kernel
theorem dX11_stack_1 : decode cX11_stack 1 = .ok (.iload_n 1, 1) := by decide +kernel
theorem dX11_stack_2 : decode cX11_stack 2 = .ok (.invokevirtual 56, 3) := by decide +kernel
theorem dX11_stack_5 : decode cX11_stack 5 = .ok (.astore_n 3, 1) := by decide +kernel
theorem dX11_stack_6 : decode cX11_stack 6 = .ok (.aload_n 0, 1) := by decide +kernel
theorem dX11_stack_7 : decode cX11_stack 7 = .ok (.iload_n 2, 1) := by decide +kernel
theorem dX11_stack_8 : decode cX11_stack 8 = .ok (.invokevirtual 56, 3) := by decide +kernel
theorem dX11_stack_11 : decode cX11_stack 11 = .ok (.astore 4, 2) := by decide +kernel
theorem dX11_stack_13 : decode cX11_stack 13 = .ok (.aload_n 3, 1) := by decide +kernel
theorem dX11_stack_14 : decode cX11_stack 14 = .ok (.aload 4, 2) := by decide +kernel
theorem dX11_stack_16 : decode cX11_stack 16 = .ok (.invokestatic 187, 3) := by decide +kernel
theorem dX11_stack_19 : decode cX11_stack 19 = .ok (.invokestatic 80, 3) := by decide +kernel
theorem dX11_stack_22 : decode cX11_stack 22 = .ok (.aload_n 0, 1) := by decide +kernel
theorem dX11_stack_23 : decode cX11_stack 23 = .ok (.invokevirtual 49, 3) := by decide +kernel
theorem dX11_stack_26 : decode cX11_stack 26 = .ok (.aload_n 0, 1) := by decide +kernel
theorem dX11_stack_27 : decode cX11_stack 27 = .ok (.aload_n 3, 1) := by decide +kernel
theorem dX11_stack_28 : decode cX11_stack 28 = .ok (.invokevirtual 94, 3) := by decide +kernel
theorem dX11_stack_31 : decode cX11_stack 31 = .ok (.invokevirtual 52, 3) := by decide +kernel
theorem dX11_stack_34 : decode cX11_stack 34 = .ok (.istore 5, 2) := by decide +kernel
theorem dX11_stack_36 : decode cX11_stack 36 = .ok (.aload_n 0, 1) := by decide +kernel
theorem dX11_stack_37 : decode cX11_stack 37 = .ok (.iload 5, 2) := by decide +kernel
theorem dX11_stack_39 : decode cX11_stack 39 = .ok (.invokevirtual 56, 3) := by decide +kernel
theorem dX11_stack_42 : decode cX11_stack 42 = .ok (.aload_n 3, 1) := by decide +kernel
theorem dX11_stack_43 : decode cX11_stack 43 = .ok (.aload 4, 2) := by decide +kernel
theorem dX11_stack_45 : decode cX11_stack 45 = .ok (.invokestatic 190, 3) := by decide +kernel
theorem dX11_stack_48 : decode cX11_stack 48 = .ok (.iload 5, 2) := by decide +kernel
theorem dX11_stack_50 : decode cX11_stack 50 = .ok (.ireturn, 1) := by decide +kernel
theorem dX11_product_0 : decode cX11_product 0 = .ok (.aload_n 0, 1) := by decide +kernel
theorem dX11_product_1 : decode cX11_product 1 = .ok (.iload_n 1, 1) := by decide +kernel
theorem dX11_product_2 : decode cX11_product 2 = .ok (.invokevirtual 56, 3) := by decide +kernel
theorem dX11_product_5 : decode cX11_product 5 = .ok (.astore_n 3, 1) := by decide +kernel
theorem dX11_product_6 : decode cX11_product 6 = .ok (.aload_n 0, 1) := by decide +kernel
theorem dX11_product_7 : decode cX11_product 7 = .ok (.iload_n 2, 1) := by decide +kernel
theorem dX11_product_8 : decode cX11_product 8 = .ok (.invokevirtual 56, 3) := by decide +kernel
theorem dX11_product_11 : decode cX11_product 11 = .ok (.astore 4, 2) := by decide +kernel
theorem dX11_product_13 : decode cX11_product 13 = .ok (.aload_n 3, 1) := by decide +kernel
theorem dX11_product_14 : decode cX11_product 14 = .ok (.aload 4, 2) := by decide +kernel
theorem dX11_product_16 : decode cX11_product 16 = .ok (.invokestatic 194, 3) := by decide +kernel
theorem dX11_product_19 : decode cX11_product 19 = .ok (.invokestatic 80, 3) := by decide +kernel
theorem dX11_product_22 : decode cX11_product 22 = .ok (.aload_n 0, 1) := by decide +kernel
theorem dX11_product_23 : decode cX11_product 23 = .ok (.invokevirtual 49, 3) := by decide +kernel
theorem dX11_product_26 : decode cX11_product 26 = .ok (.aload_n 0, 1) := by decide +kernel
theorem dX11_product_27 : decode cX11_product 27 = .ok (.aload_n 3, 1) := by decide +kernel
theorem dX11_product_28 : decode cX11_product 28 = .ok (.invokevirtual 94, 3) := by decide +kernel
theorem dX11_product_31 : decode cX11_product 31 = .ok (.aload 4, 2) := by decide +kernel
theorem dX11_product_33 : decode cX11_product 33 = .ok (.invokevirtual 94, 3) := by decide +kernel
theorem dX11_product_36 : decode cX11_product 36 = .ok (.imul, 1) := by decide +kernel
theorem dX11_product_37 : decode cX11_product 37 = .ok (.invokevirtual 52, 3) := by decide +kernel
theorem dX11_product_40 : decode cX11_product 40 = .ok (.istore 5, 2) := by decide +kernel
theorem dX11_product_42 : decode cX11_product 42 = .ok (.aload_n 0, 1) := by decide +kernel
theorem dX11_product_43 : decode cX11_product 43 = .ok (.iload 5, 2) := by decide +kernel
theorem dX11_product_45 : decode cX11_product 45 = .ok (.invokevirtual 56, 3) := by decide +kernel
theorem dX11_product_48 : decode cX11_product 48 = .ok (.aload_n 3, 1) := by decide +kernel
theorem dX11_product_49 : decode cX11_product 49 = .ok (.aload 4, 2) := by decide +kernel
theorem dX11_product_51 : decode cX11_product 51 = .ok (.invokestatic 197, 3) := by decide +kernel
theorem dX11_product_54 : decode cX11_product 54 = .ok (.iload 5, 2) := by decide +kernel
theorem dX11_product_56 : decode cX11_product 56 = .ok (.ireturn, 1) := by decide +kernel
theorem dX11_crossings_0 : decode cX11_crossings 0 = .ok (.aload_n 0, 1) := by decide +kernel
theorem dX11_crossings_1 : decode cX11_crossings 1 = .ok (.iload_n 1, 1) := by decide +kernel
theorem dX11_crossings_2 : decode cX11_crossings 2 = .ok (.invokevirtual 56, 3) := by decide +kernel
theorem dX11_crossings_5 : decode cX11_crossings 5 = .ok (.astore_n 3, 1) := by decide +kernel
theorem dX11_crossings_6 : decode cX11_crossings 6 = .ok (.iload_n 2, 1) := by decide +kernel
theorem dX11_crossings_7 : decode cX11_crossings 7 = .ok (.iconst 0, 1) := by decide +kernel
theorem dX11_crossings_8 : decode cX11_crossings 8 = .ok (.sipush 8991, 3) := by decide +kernel
theorem dX11_crossings_11 : decode cX11_crossings 11 = .ok (.invokestatic 45, 3) := by decide +kernel
theorem dX11_crossings_14 : decode cX11_crossings 14 = .ok (.aload_n 3, 1) := by decide +kernel
theorem dX11_crossings_15 : decode cX11_crossings 15 = .ok (.invokevirtual 94, 3) := by decide +kernel
theorem dX11_crossings_18 : decode cX11_crossings 18 = .ok (.bipush 6, 2) := by decide +kernel
theorem dX11_crossings_20 : decode cX11_crossings 20 = .ok (.if_icmp .gt 7, 3) := by decide +kernel
theorem dX11_crossings_23 : decode cX11_crossings 23 = .ok (.iconst 1, 1) := by decide +kernel
theorem dX11_crossings_24 : decode cX11_crossings 24 = .ok (.goto 4, 3) := by decide +kernel
theorem dX11_crossings_27 : decode cX11_crossings 27 = .ok (.iconst 0, 1) := by decide +kernel
theorem dX11_crossings_28 : decode cX11_crossings 28 = .ok (.invokestatic 80, 3) := by decide +kernel
theorem dX11_crossings_31 : decode cX11_crossings 31 = .ok (.aload_n 3, 1) := by decide +kernel
theorem dX11_crossings_32 : decode cX11_crossings 32 = .ok (.iconst 0, 1) := by decide +kernel
theorem dX11_crossings_33 : decode cX11_crossings 33 = .ok (.iconst 0, 1) := by decide +kernel
theorem dX11_crossings_34 : decode cX11_crossings 34 = .ok (.iload_n 2, 1) := by decide +kernel
theorem dX11_crossings_35 : decode cX11_crossings 35 = .ok (.invokestatic 200, 3) := by decide +kernel
theorem dX11_crossings_38 : decode cX11_crossings 38 = .ok (.ireturn, 1) := by decide +kernel
theorem dX11_dimension_0 : decode cX11_dimension 0 = .ok (.iload_n 1, 1) := by decide +kernel
theorem dX11_dimension_1 : decode cX11_dimension 1 = .ok (.iconst 1, 1) := by decide +kernel
theorem dX11_dimension_2 : decode cX11_dimension 2 = .ok (.bipush 6, 2) := by decide +kernel
theorem dX11_dimension_4 : decode cX11_dimension 4 = .ok (.invokestatic 45, 3) := by decide +kernel
theorem dX11_dimension_7 : decode cX11_dimension 7 = .ok (.iload_n 2, 1) := by decide +kernel
theorem dX11_dimension_8 : decode cX11_dimension 8 = .ok (.bipush (-63), 2) := by decide +kernel
theorem dX11_dimension_10 : decode cX11_dimension 10 = .ok (.iand, 1) := by decide +kernel
theorem dX11_dimension_11 : decode cX11_dimension 11 = .ok (.ifCond .eq 13, 3) := by decide +kernel
theorem dX11_dimension_14 : decode cX11_dimension 14 = .ok (.new 149, 3) := by decide +kernel
theorem dX11_dimension_17 : decode cX11_dimension 17 = .ok (.dup, 1) := by decide +kernel
theorem dX11_dimension_18 : decode cX11_dimension 18 = .ok (.ldc 204, 2) := by decide +kernel
theorem dX11_dimension_20 : decode cX11_dimension 20 = .ok (.invokespecial 153, 3) := by decide +kernel
theorem dX11_dimension_23 : decode cX11_dimension 23 = .ok (.athrow, 1) := by decide +kernel
theorem dX11_dimension_24 : decode cX11_dimension 24 = .ok (.aload_n 0, 1) := by decide +kernel
theorem dX11_dimension_25 : decode cX11_dimension 25 = .ok (.getfield 37, 3) := by decide +kernel
theorem dX11_dimension_28 : decode cX11_dimension 28 = .ok (.iload_n 1, 1) := by decide +kernel
theorem dX11_dimension_29 : decode cX11_dimension 29 = .ok (.iload_n 2, 1) := by decide +kernel
theorem dX11_dimension_30 : decode cX11_dimension 30 = .ok (.invokevirtual 206, 3) := by decide +kernel
theorem dX11_dimension_33 : decode cX11_dimension 33 = .ok (.ireturn, 1) := by decide +kernel
theorem dX11_requireRange_0 : decode cX11_requireRange 0 = .ok (.iload_n 0, 1) := by decide +kernel
theorem dX11_requireRange_1 : decode cX11_requireRange 1 = .ok (.iload_n 1, 1) := by decide +kernel
theorem dX11_requireRange_2 : decode cX11_requireRange 2 = .ok (.if_icmp .lt 8, 3) := by decide +kernel
theorem dX11_requireRange_5 : decode cX11_requireRange 5 = .ok (.iload_n 0, 1) := by decide +kernel
theorem dX11_requireRange_6 : decode cX11_requireRange 6 = .ok (.iload_n 2, 1) := by decide +kernel
theorem dX11_requireRange_7 : decode cX11_requireRange 7 = .ok (.if_icmp .le 13, 3) := by decide +kernel
theorem dX11_requireRange_10 : decode cX11_requireRange 10 = .ok (.new 149, 3) := by decide +kernel
theorem dX11_requireRange_13 : decode cX11_requireRange 13 = .ok (.dup, 1) := by decide +kernel
theorem dX11_requireRange_14 : decode cX11_requireRange 14 = .ok (.ldc 209, 2) := by decide +kernel
theorem dX11_requireRange_16 : decode cX11_requireRange 16 = .ok (.invokespecial 153, 3) := by decide +kernel
theorem dX11_requireRange_19 : decode cX11_requireRange 19 = .ok (.athrow, 1) := by decide +kernel
theorem dX11_requireRange_20 : decode cX11_requireRange 20 = .ok (.return_, 1) := by decide +kernel
theorem dX11_requirePoint_0 : decode cX11_requirePoint 0 = .ok (.iload_n 1, 1) := by decide +kernel
theorem dX11_requirePoint_1 : decode cX11_requirePoint 1 = .ok (.ifCond .lt 23, 3) := by decide +kernel
theorem dX11_requirePoint_4 : decode cX11_requirePoint 4 = .ok (.iload_n 1, 1) := by decide +kernel
theorem dX11_requirePoint_5 : decode cX11_requirePoint 5 = .ok (.aload_n 0, 1) := by decide +kernel
theorem dX11_requirePoint_6 : decode cX11_requirePoint 6 = .ok (.invokevirtual 94, 3) := by decide +kernel
theorem dX11_requirePoint_9 : decode cX11_requirePoint 9 = .ok (.if_icmp .ge 15, 3) := by decide +kernel
theorem dX11_requirePoint_12 : decode cX11_requirePoint 12 = .ok (.iload_n 2, 1) := by decide +kernel
theorem dX11_requirePoint_13 : decode cX11_requirePoint 13 = .ok (.ifCond .lt 11, 3) := by decide +kernel
theorem dX11_requirePoint_16 : decode cX11_requirePoint 16 = .ok (.iload_n 2, 1) := by decide +kernel
theorem dX11_requirePoint_17 : decode cX11_requirePoint 17 = .ok (.aload_n 0, 1) := by decide +kernel
theorem dX11_requirePoint_18 : decode cX11_requirePoint 18 = .ok (.invokevirtual 94, 3) := by decide +kernel
theorem dX11_requirePoint_21 : decode cX11_requirePoint 21 = .ok (.if_icmp .lt 13, 3) := by decide +kernel
theorem dX11_requirePoint_24 : decode cX11_requirePoint 24 = .ok (.new 211, 3) := by decide +kernel
theorem dX11_requirePoint_27 : decode cX11_requirePoint 27 = .ok (.dup, 1) := by decide +kernel
theorem dX11_requirePoint_28 : decode cX11_requirePoint 28 = .ok (.ldc 213, 2) := by decide +kernel
theorem dX11_requirePoint_30 : decode cX11_requirePoint 30 = .ok (.invokespecial 215, 3) := by decide +kernel
theorem dX11_requirePoint_33 : decode cX11_requirePoint 33 = .ok (.athrow, 1) := by decide +kernel
theorem dX11_requirePoint_34 : decode cX11_requirePoint 34 = .ok (.return_, 1) := by decide +kernel
theorem dX11_requireState_0 : decode cX11_requireState 0 = .ok (.iload_n 0, 1) := by decide +kernel
theorem dX11_requireState_1 : decode cX11_requireState 1 = .ok (.ifCond .ne 13, 3) := by decide +kernel
theorem dX11_requireState_4 : decode cX11_requireState 4 = .ok (.new 216, 3) := by decide +kernel
theorem dX11_requireState_7 : decode cX11_requireState 7 = .ok (.dup, 1) := by decide +kernel
theorem dX11_requireState_8 : decode cX11_requireState 8 = .ok (.ldc 218, 2) := by decide +kernel
theorem dX11_requireState_10 : decode cX11_requireState 10 = .ok (.invokespecial 220, 3) := by decide +kernel
theorem dX11_requireState_13 : decode cX11_requireState 13 = .ok (.athrow, 1) := by decide +kernel
theorem dX11_requireState_14 : decode cX11_requireState 14 = .ok (.return_, 1) := by decide +kernel
theorem dX11_requireRoom_0 : decode cX11_requireRoom 0 = .ok (.aload_n 0, 1) := by decide +kernel
theorem dX11_requireRoom_1 : decode cX11_requireRoom 1 = .ok (.getfield 41, 3) := by decide +kernel
theorem dX11_requireRoom_4 : decode cX11_requireRoom 4 = .ok (.ifCond .lt 27, 3) := by decide +kernel
theorem dX11_requireRoom_7 : decode cX11_requireRoom 7 = .ok (.aload_n 0, 1) := by decide +kernel
theorem dX11_requireRoom_8 : decode cX11_requireRoom 8 = .ok (.getfield 41, 3) := by decide +kernel
theorem dX11_requireRoom_11 : decode cX11_requireRoom 11 = .ok (.aload_n 0, 1) := by decide +kernel
theorem dX11_requireRoom_12 : decode cX11_requireRoom 12 = .ok (.getfield 11, 3) := by decide +kernel
theorem dX11_requireRoom_15 : decode cX11_requireRoom 15 = .ok (.arraylength, 1) := by decide +kernel
theorem dX11_requireRoom_16 : decode cX11_requireRoom 16 = .ok (.if_icmp .ge 15, 3) := by decide +kernel
theorem dX11_requireRoom_19 : decode cX11_requireRoom 19 = .ok (.aload_n 0, 1) := by decide +kernel
theorem dX11_requireRoom_20 : decode cX11_requireRoom 20 = .ok (.getfield 11, 3) := by decide +kernel
theorem dX11_requireRoom_23 : decode cX11_requireRoom 23 = .ok (.aload_n 0, 1) := by decide +kernel
theorem dX11_requireRoom_24 : decode cX11_requireRoom 24 = .ok (.getfield 41, 3) := by decide +kernel
theorem dX11_requireRoom_27 : decode cX11_requireRoom 27 = .ok (.aaload, 1) := by decide +kernel
theorem dX11_requireRoom_28 : decode cX11_requireRoom 28 = .ok (.ifnonnull 13, 3) := by decide +kernel
theorem dX11_requireRoom_31 : decode cX11_requireRoom 31 = .ok (.new 216, 3) := by decide +kernel
theorem dX11_requireRoom_34 : decode cX11_requireRoom 34 = .ok (.dup, 1) := by decide +kernel
theorem dX11_requireRoom_35 : decode cX11_requireRoom 35 = .ok (.ldc 221, 2) := by decide +kernel
theorem dX11_requireRoom_37 : decode cX11_requireRoom 37 = .ok (.invokespecial 220, 3) := by decide +kernel
theorem dX11_requireRoom_40 : decode cX11_requireRoom 40 = .ok (.athrow, 1) := by decide +kernel
theorem dX11_requireRoom_41 : decode cX11_requireRoom 41 = .ok (.return_, 1) := by decide +kernel
theorem dX11_canBeCompleted_0 : decode cX11_canBeCompleted 0 = .ok (.aload_n 0, 1) := by decide +kernel
theorem dX11_canBeCompleted_1 : decode cX11_canBeCompleted 1 = .ok (.invokevirtual 94, 3) := by decide +kernel
theorem dX11_canBeCompleted_4 : decode cX11_canBeCompleted 4 = .ok (.iconst 4, 1) := by decide +kernel
theorem dX11_canBeCompleted_5 : decode cX11_canBeCompleted 5 = .ok (.if_icmp .gt 17, 3) := by decide +kernel
theorem dX11_canBeCompleted_8 : decode cX11_canBeCompleted 8 = .ok (.aload_n 0, 1) := by decide +kernel
theorem dX11_canBeCompleted_9 : decode cX11_canBeCompleted 9 = .ok (.iconst 0, 1) := by decide +kernel
theorem dX11_canBeCompleted_10 : decode cX11_canBeCompleted 10 = .ok (.invokevirtual 223, 3) := by decide +kernel
theorem dX11_canBeCompleted_13 : decode cX11_canBeCompleted 13 = .ok (.bipush 9, 2) := by decide +kernel
theorem dX11_canBeCompleted_15 : decode cX11_canBeCompleted 15 = .ok (.if_icmp .gt 7, 3) := by decide +kernel
theorem dX11_canBeCompleted_18 : decode cX11_canBeCompleted 18 = .ok (.iconst 1, 1) := by decide +kernel
theorem dX11_canBeCompleted_19 : decode cX11_canBeCompleted 19 = .ok (.goto 4, 3) := by decide +kernel
theorem dX11_canBeCompleted_22 : decode cX11_canBeCompleted 22 = .ok (.iconst 0, 1) := by decide +kernel
theorem dX11_canBeCompleted_23 : decode cX11_canBeCompleted 23 = .ok (.ireturn, 1) := by decide +kernel
theorem dX11_figureOf_0 : decode cX11_figureOf 0 = .ok (.iload_n 1, 1) := by decide +kernel
theorem dX11_figureOf_1 : decode cX11_figureOf 1 = .ok (.ifCond .lt 29, 3) := by decide +kernel
theorem dX11_figureOf_4 : decode cX11_figureOf 4 = .ok (.iload_n 1, 1) := by decide +kernel
theorem dX11_figureOf_5 : decode cX11_figureOf 5 = .ok (.aload_n 0, 1) := by decide +kernel
theorem dX11_figureOf_6 : decode cX11_figureOf 6 = .ok (.getfield 41, 3) := by decide +kernel
theorem dX11_figureOf_9 : decode cX11_figureOf 9 = .ok (.if_icmp .ge 21, 3) := by decide +kernel
theorem dX11_figureOf_12 : decode cX11_figureOf 12 = .ok (.iload_n 1, 1) := by decide +kernel
theorem dX11_figureOf_13 : decode cX11_figureOf 13 = .ok (.aload_n 0, 1) := by decide +kernel
theorem dX11_figureOf_14 : decode cX11_figureOf 14 = .ok (.getfield 11, 3) := by decide +kernel
theorem dX11_figureOf_17 : decode cX11_figureOf 17 = .ok (.arraylength, 1) := by decide +kernel
theorem dX11_figureOf_18 : decode cX11_figureOf 18 = .ok (.if_icmp .ge 12, 3) := by decide +kernel
theorem dX11_figureOf_21 : decode cX11_figureOf 21 = .ok (.aload_n 0, 1) := by decide +kernel
theorem dX11_figureOf_22 : decode cX11_figureOf 22 = .ok (.getfield 11, 3) := by decide +kernel
theorem dX11_figureOf_25 : decode cX11_figureOf 25 = .ok (.iload_n 1, 1) := by decide +kernel
theorem dX11_figureOf_26 : decode cX11_figureOf 26 = .ok (.aaload, 1) := by decide +kernel
theorem dX11_figureOf_27 : decode cX11_figureOf 27 = .ok (.ifnonnull 13, 3) := by decide +kernel
theorem dX11_figureOf_30 : decode cX11_figureOf 30 = .ok (.new 211, 3) := by decide +kernel
theorem dX11_figureOf_33 : decode cX11_figureOf 33 = .ok (.dup, 1) := by decide +kernel
theorem dX11_figureOf_34 : decode cX11_figureOf 34 = .ok (.ldc 226, 2) := by decide +kernel
theorem dX11_figureOf_36 : decode cX11_figureOf 36 = .ok (.invokespecial 215, 3) := by decide +kernel
theorem dX11_figureOf_39 : decode cX11_figureOf 39 = .ok (.athrow, 1) := by decide +kernel
theorem dX11_figureOf_40 : decode cX11_figureOf 40 = .ok (.aload_n 0, 1) := by decide +kernel
theorem dX11_figureOf_41 : decode cX11_figureOf 41 = .ok (.getfield 11, 3) := by decide +kernel
theorem dX11_figureOf_44 : decode cX11_figureOf 44 = .ok (.iload_n 1, 1) := by decide +kernel
theorem dX11_figureOf_45 : decode cX11_figureOf 45 = .ok (.aaload, 1) := by decide +kernel
theorem dX11_figureOf_46 : decode cX11_figureOf 46 = .ok (.areturn, 1) := by decide +kernel
theorem dX11_addFigure_0 : decode cX11_addFigure 0 = .ok (.aload_n 0, 1) := by decide +kernel
theorem dX11_addFigure_1 : decode cX11_addFigure 1 = .ok (.getfield 41, 3) := by decide +kernel
theorem dX11_addFigure_4 : decode cX11_addFigure 4 = .ok (.istore_n 2, 1) := by decide +kernel
theorem dX11_addFigure_5 : decode cX11_addFigure 5 = .ok (.iload_n 2, 1) := by decide +kernel
theorem dX11_addFigure_6 : decode cX11_addFigure 6 = .ok (.ifCond .lt 41, 3) := by decide +kernel
theorem dX11_addFigure_9 : decode cX11_addFigure 9 = .ok (.iload_n 2, 1) := by decide +kernel
theorem dX11_addFigure_10 : decode cX11_addFigure 10 = .ok (.aload_n 0, 1) := by decide +kernel
theorem dX11_addFigure_11 : decode cX11_addFigure 11 = .ok (.getfield 11, 3) := by decide +kernel
theorem dX11_addFigure_14 : decode cX11_addFigure 14 = .ok (.arraylength, 1) := by decide +kernel
theorem dX11_addFigure_15 : decode cX11_addFigure 15 = .ok (.if_icmp .ge 32, 3) := by decide +kernel
theorem dX11_addFigure_18 : decode cX11_addFigure 18 = .ok (.aload_n 0, 1) := by decide +kernel
theorem dX11_addFigure_19 : decode cX11_addFigure 19 = .ok (.getfield 11, 3) := by decide +kernel
theorem dX11_addFigure_22 : decode cX11_addFigure 22 = .ok (.iload_n 2, 1) := by decide +kernel
theorem dX11_addFigure_23 : decode cX11_addFigure 23 = .ok (.aaload, 1) := by decide +kernel
theorem dX11_addFigure_24 : decode cX11_addFigure 24 = .ok (.ifnull 23, 3) := by decide +kernel
theorem dX11_addFigure_27 : decode cX11_addFigure 27 = .ok (.aload_n 0, 1) := by decide +kernel
theorem dX11_addFigure_28 : decode cX11_addFigure 28 = .ok (.getfield 11, 3) := by decide +kernel
theorem dX11_addFigure_31 : decode cX11_addFigure 31 = .ok (.iload_n 2, 1) := by decide +kernel
theorem dX11_addFigure_32 : decode cX11_addFigure 32 = .ok (.aaload, 1) := by decide +kernel
theorem dX11_addFigure_33 : decode cX11_addFigure 33 = .ok (.iload_n 1, 1) := by decide +kernel
theorem dX11_addFigure_34 : decode cX11_addFigure 34 = .ok (.invokevirtual 228, 3) := by decide +kernel
theorem dX11_addFigure_37 : decode cX11_addFigure 37 = .ok (.aload_n 0, 1) := by decide +kernel
theorem dX11_addFigure_38 : decode cX11_addFigure 38 = .ok (.dup, 1) := by decide +kernel
theorem dX11_addFigure_39 : decode cX11_addFigure 39 = .ok (.getfield 41, 3) := by decide +kernel
theorem dX11_addFigure_42 : decode cX11_addFigure 42 = .ok (.iconst 1, 1) := by decide +kernel
theorem dX11_addFigure_43 : decode cX11_addFigure 43 = .ok (.iadd, 1) := by decide +kernel
theorem dX11_addFigure_44 : decode cX11_addFigure 44 = .ok (.putfield 41, 3) := by decide +kernel
theorem dX11_addFigure_47 : decode cX11_addFigure 47 = .ok (.iload_n 2, 1) := by decide +kernel
theorem dX11_addFigure_48 : decode cX11_addFigure 48 = .ok (.ireturn, 1) := by decide +kernel
theorem dX11_hasEarlierKin_0 : decode cX11_hasEarlierKin 0 = .ok (.iconst 0, 1) := by decide +kernel
theorem dX11_hasEarlierKin_1 : decode cX11_hasEarlierKin 1 = .ok (.istore_n 2, 1) := by decide +kernel
theorem dX11_hasEarlierKin_2 : decode cX11_hasEarlierKin 2 = .ok (.iload_n 2, 1) := by decide +kernel
theorem dX11_hasEarlierKin_3 : decode cX11_hasEarlierKin 3 = .ok (.iload_n 1, 1) := by decide +kernel
theorem dX11_hasEarlierKin_4 : decode cX11_hasEarlierKin 4 = .ok (.if_icmp .ge 27, 3) := by decide +kernel
theorem dX11_hasEarlierKin_7 : decode cX11_hasEarlierKin 7 = .ok (.aload_n 0, 1) := by decide +kernel
theorem dX11_hasEarlierKin_8 : decode cX11_hasEarlierKin 8 = .ok (.iload_n 2, 1) := by decide +kernel
theorem dX11_hasEarlierKin_9 : decode cX11_hasEarlierKin 9 = .ok (.invokevirtual 56, 3) := by decide +kernel
theorem dX11_hasEarlierKin_12 : decode cX11_hasEarlierKin 12 = .ok (.aload_n 0, 1) := by decide +kernel
theorem dX11_hasEarlierKin_13 : decode cX11_hasEarlierKin 13 = .ok (.iload_n 1, 1) := by decide +kernel
theorem dX11_hasEarlierKin_14 : decode cX11_hasEarlierKin 14 = .ok (.invokevirtual 56, 3) := by decide +kernel
theorem dX11_hasEarlierKin_17 : decode cX11_hasEarlierKin 17 = .ok (.invokestatic 118, 3) := by decide +kernel
theorem dX11_hasEarlierKin_20 : decode cX11_hasEarlierKin 20 = .ok (.ifCond .eq 5, 3) := by decide +kernel
theorem dX11_hasEarlierKin_23 : decode cX11_hasEarlierKin 23 = .ok (.iconst 1, 1) := by decide +kernel
theorem dX11_hasEarlierKin_24 : decode cX11_hasEarlierKin 24 = .ok (.ireturn, 1) := by decide +kernel
theorem dX11_hasEarlierKin_25 : decode cX11_hasEarlierKin 25 = .ok (.iinc 2 1, 3) := by decide +kernel
theorem dX11_hasEarlierKin_28 : decode cX11_hasEarlierKin 28 = .ok (.goto (-26), 3) := by decide +kernel
theorem dX11_hasEarlierKin_31 : decode cX11_hasEarlierKin 31 = .ok (.iconst 0, 1) := by decide +kernel
theorem dX11_hasEarlierKin_32 : decode cX11_hasEarlierKin 32 = .ok (.ireturn, 1) := by decide +kernel
theorem dX11_countCrossings_0 : decode cX11_countCrossings 0 = .ok (.iload_n 1, 1) := by decide +kernel
theorem dX11_countCrossings_1 : decode cX11_countCrossings 1 = .ok (.aload_n 0, 1) := by decide +kernel
theorem dX11_countCrossings_2 : decode cX11_countCrossings 2 = .ok (.invokevirtual 94, 3) := by decide +kernel
theorem dX11_countCrossings_5 : decode cX11_countCrossings 5 = .ok (.if_icmp .ge 9, 3) := by decide +kernel
theorem dX11_countCrossings_8 : decode cX11_countCrossings 8 = .ok (.iload_n 1, 1) := by decide +kernel
theorem dX11_countCrossings_9 : decode cX11_countCrossings 9 = .ok (.bipush 6, 2) := by decide +kernel
theorem dX11_countCrossings_11 : decode cX11_countCrossings 11 = .ok (.if_icmp .lt 13, 3) := by decide +kernel
theorem dX11_countCrossings_14 : decode cX11_countCrossings 14 = .ok (.iload_n 3, 1) := by decide +kernel
theorem dX11_countCrossings_15 : decode cX11_countCrossings 15 = .ok (.ifCond .ne 7, 3) := by decide +kernel
theorem dX11_countCrossings_18 : decode cX11_countCrossings 18 = .ok (.iconst 1, 1) := by decide +kernel
theorem dX11_countCrossings_19 : decode cX11_countCrossings 19 = .ok (.goto 4, 3) := by decide +kernel
theorem dX11_countCrossings_22 : decode cX11_countCrossings 22 = .ok (.iconst 0, 1) := by decide +kernel
theorem dX11_countCrossings_23 : decode cX11_countCrossings 23 = .ok (.ireturn, 1) := by decide +kernel
theorem dX11_countCrossings_24 : decode cX11_countCrossings 24 = .ok (.iconst 0, 1) := by decide +kernel
theorem dX11_countCrossings_25 : decode cX11_countCrossings 25 = .ok (.istore 4, 2) := by decide +kernel
theorem dX11_countCrossings_27 : decode cX11_countCrossings 27 = .ok (.iconst 0, 1) := by decide +kernel
theorem dX11_countCrossings_28 : decode cX11_countCrossings 28 = .ok (.istore 5, 2) := by decide +kernel
theorem dX11_countCrossings_30 : decode cX11_countCrossings 30 = .ok (.iload 5, 2) := by decide +kernel
theorem dX11_countCrossings_32 : decode cX11_countCrossings 32 = .ok (.aload_n 0, 1) := by decide +kernel
theorem dX11_countCrossings_33 : decode cX11_countCrossings 33 = .ok (.invokevirtual 94, 3) := by decide +kernel
theorem dX11_countCrossings_36 : decode cX11_countCrossings 36 = .ok (.if_icmp .ge 61, 3) := by decide +kernel
theorem dX11_countCrossings_39 : decode cX11_countCrossings 39 = .ok (.iconst 1, 1) := by decide +kernel
theorem dX11_countCrossings_40 : decode cX11_countCrossings 40 = .ok (.iload 5, 2) := by decide +kernel
theorem dX11_countCrossings_42 : decode cX11_countCrossings 42 = .ok (.ishl, 1) := by decide +kernel
theorem dX11_countCrossings_43 : decode cX11_countCrossings 43 = .ok (.istore 6, 2) := by decide +kernel
theorem dX11_countCrossings_45 : decode cX11_countCrossings 45 = .ok (.aload_n 0, 1) := by decide +kernel
theorem dX11_countCrossings_46 : decode cX11_countCrossings 46 = .ok (.aload_n 0, 1) := by decide +kernel
theorem dX11_countCrossings_47 : decode cX11_countCrossings 47 = .ok (.iload_n 1, 1) := by decide +kernel
theorem dX11_countCrossings_48 : decode cX11_countCrossings 48 = .ok (.iload 5, 2) := by decide +kernel
theorem dX11_countCrossings_50 : decode cX11_countCrossings 50 = .ok (.invokevirtual 64, 3) := by decide +kernel
theorem dX11_countCrossings_53 : decode cX11_countCrossings 53 = .ok (.invokevirtual 71, 3) := by decide +kernel
theorem dX11_countCrossings_56 : decode cX11_countCrossings 56 = .ok (.istore 7, 2) := by decide +kernel
theorem dX11_countCrossings_58 : decode cX11_countCrossings 58 = .ok (.iload_n 2, 1) := by decide +kernel
theorem dX11_countCrossings_59 : decode cX11_countCrossings 59 = .ok (.iload 6, 2) := by decide +kernel
theorem dX11_countCrossings_61 : decode cX11_countCrossings 61 = .ok (.iand, 1) := by decide +kernel
theorem dX11_countCrossings_62 : decode cX11_countCrossings 62 = .ok (.ifCond .ne 29, 3) := by decide +kernel
theorem dX11_countCrossings_65 : decode cX11_countCrossings 65 = .ok (.iload 7, 2) := by decide +kernel
theorem dX11_countCrossings_67 : decode cX11_countCrossings 67 = .ok (.iload_n 3, 1) := by decide +kernel
theorem dX11_countCrossings_68 : decode cX11_countCrossings 68 = .ok (.if_icmp .gt 23, 3) := by decide +kernel
theorem dX11_countCrossings_71 : decode cX11_countCrossings 71 = .ok (.iload 4, 2) := by decide +kernel
theorem dX11_countCrossings_73 : decode cX11_countCrossings 73 = .ok (.aload_n 0, 1) := by decide +kernel
theorem dX11_countCrossings_74 : decode cX11_countCrossings 74 = .ok (.iload_n 1, 1) := by decide +kernel
theorem dX11_countCrossings_75 : decode cX11_countCrossings 75 = .ok (.iconst 1, 1) := by decide +kernel
theorem dX11_countCrossings_76 : decode cX11_countCrossings 76 = .ok (.iadd, 1) := by decide +kernel
theorem dX11_countCrossings_77 : decode cX11_countCrossings 77 = .ok (.iload_n 2, 1) := by decide +kernel
theorem dX11_countCrossings_78 : decode cX11_countCrossings 78 = .ok (.iload 6, 2) := by decide +kernel
theorem dX11_countCrossings_80 : decode cX11_countCrossings 80 = .ok (.ior, 1) := by decide +kernel
theorem dX11_countCrossings_81 : decode cX11_countCrossings 81 = .ok (.iload_n 3, 1) := by decide +kernel
theorem dX11_countCrossings_82 : decode cX11_countCrossings 82 = .ok (.iload 7, 2) := by decide +kernel
theorem dX11_countCrossings_84 : decode cX11_countCrossings 84 = .ok (.isub, 1) := by decide +kernel
theorem dX11_countCrossings_85 : decode cX11_countCrossings 85 = .ok (.invokestatic 200, 3) := by decide +kernel
theorem dX11_countCrossings_88 : decode cX11_countCrossings 88 = .ok (.iadd, 1) := by decide +kernel
theorem dX11_countCrossings_89 : decode cX11_countCrossings 89 = .ok (.istore 4, 2) := by decide +kernel
theorem dX11_countCrossings_91 : decode cX11_countCrossings 91 = .ok (.iinc 5 1, 3) := by decide +kernel
theorem dX11_countCrossings_94 : decode cX11_countCrossings 94 = .ok (.goto (-64), 3) := by decide +kernel
theorem dX11_countCrossings_97 : decode cX11_countCrossings 97 = .ok (.iload 4, 2) := by decide +kernel
theorem dX11_countCrossings_99 : decode cX11_countCrossings 99 = .ok (.ireturn, 1) := by decide +kernel
theorem dX12_init_0 : decode cX12_init 0 = .ok (.aload_n 0, 1) := by decide +kernel
theorem dX12_init_1 : decode cX12_init 1 = .ok (.invokespecial 1, 3) := by decide +kernel
theorem dX12_init_4 : decode cX12_init 4 = .ok (.aload_n 0, 1) := by decide +kernel
theorem dX12_init_5 : decode cX12_init 5 = .ok (.bipush 8, 2) := by decide +kernel
theorem dX12_init_7 : decode cX12_init 7 = .ok (.newarray .int, 2) := by decide +kernel
theorem dX12_init_9 : decode cX12_init 9 = .ok (.putfield 7, 3) := by decide +kernel
theorem dX12_init_12 : decode cX12_init 12 = .ok (.aload_n 0, 1) := by decide +kernel
theorem dX12_init_13 : decode cX12_init 13 = .ok (.sipush 648, 3) := by decide +kernel
theorem dX12_init_16 : decode cX12_init 16 = .ok (.newarray .int, 2) := by decide +kernel
theorem dX12_init_18 : decode cX12_init 18 = .ok (.putfield 13, 3) := by decide +kernel
theorem dX12_init_21 : decode cX12_init 21 = .ok (.aload_n 0, 1) := by decide +kernel
theorem dX12_init_22 : decode cX12_init 22 = .ok (.bipush 81, 2) := by decide +kernel
theorem dX12_init_24 : decode cX12_init 24 = .ok (.newarray .int, 2) := by decide +kernel
theorem dX12_init_26 : decode cX12_init 26 = .ok (.putfield 16, 3) := by decide +kernel
theorem dX12_init_29 : decode cX12_init 29 = .ok (.aload_n 0, 1) := by decide +kernel
theorem dX12_init_30 : decode cX12_init 30 = .ok (.bipush 16, 2) := by decide +kernel
theorem dX12_init_32 : decode cX12_init 32 = .ok (.newarray .int, 2) := by decide +kernel
theorem dX12_init_34 : decode cX12_init 34 = .ok (.putfield 19, 3) := by decide +kernel
theorem dX12_init_37 : decode cX12_init 37 = .ok (.aload_n 0, 1) := by decide +kernel
theorem dX12_init_38 : decode cX12_init 38 = .ok (.bipush 16, 2) := by decide +kernel
theorem dX12_init_40 : decode cX12_init 40 = .ok (.newarray .int, 2) := by decide +kernel
theorem dX12_init_42 : decode cX12_init 42 = .ok (.putfield 22, 3) := by decide +kernel
theorem dX12_init_45 : decode cX12_init 45 = .ok (.aload_n 0, 1) := by decide +kernel
theorem dX12_init_46 : decode cX12_init 46 = .ok (.bipush 16, 2) := by decide +kernel
theorem dX12_init_48 : decode cX12_init 48 = .ok (.newarray .int, 2) := by decide +kernel
theorem dX12_init_50 : decode cX12_init 50 = .ok (.putfield 25, 3) := by decide +kernel
theorem dX12_init_53 : decode cX12_init 53 = .ok (.aload_n 0, 1) := by decide +kernel
theorem dX12_init_54 : decode cX12_init 54 = .ok (.bipush 16, 2) := by decide +kernel
theorem dX12_init_56 : decode cX12_init 56 = .ok (.newarray .int, 2) := by decide +kernel
theorem dX12_init_58 : decode cX12_init 58 = .ok (.putfield 28, 3) := by decide +kernel
theorem dX12_init_61 : decode cX12_init 61 = .ok (.aload_n 0, 1) := by decide +kernel
theorem dX12_init_62 : decode cX12_init 62 = .ok (.bipush 6, 2) := by decide +kernel
theorem dX12_init_64 : decode cX12_init 64 = .ok (.newarray .int, 2) := by decide +kernel
theorem dX12_init_66 : decode cX12_init 66 = .ok (.putfield 31, 3) := by decide +kernel
theorem dX12_init_69 : decode cX12_init 69 = .ok (.aload_n 0, 1) := by decide +kernel
theorem dX12_init_70 : decode cX12_init 70 = .ok (.bipush 36, 2) := by decide +kernel
theorem dX12_init_72 : decode cX12_init 72 = .ok (.newarray .long, 2) := by decide +kernel
theorem dX12_init_74 : decode cX12_init 74 = .ok (.putfield 34, 3) := by decide +kernel
theorem dX12_init_77 : decode cX12_init 77 = .ok (.aload_n 0, 1) := by decide +kernel
theorem dX12_init_78 : decode cX12_init 78 = .ok (.bipush 36, 2) := by decide +kernel
theorem dX12_init_80 : decode cX12_init 80 = .ok (.newarray .long, 2) := by decide +kernel
theorem dX12_init_82 : decode cX12_init 82 = .ok (.putfield 38, 3) := by decide +kernel
theorem dX12_init_85 : decode cX12_init 85 = .ok (.aload_n 0, 1) := by decide +kernel
theorem dX12_init_86 : decode cX12_init 86 = .ok (.sipush 1296, 3) := by decide +kernel
theorem dX12_init_89 : decode cX12_init 89 = .ok (.newarray .long, 2) := by decide +kernel
theorem dX12_init_91 : decode cX12_init 91 = .ok (.putfield 41, 3) := by decide +kernel
theorem dX12_init_94 : decode cX12_init 94 = .ok (.aload_n 0, 1) := by decide +kernel
theorem dX12_init_95 : decode cX12_init 95 = .ok (.bipush 36, 2) := by decide +kernel
theorem dX12_init_97 : decode cX12_init 97 = .ok (.newarray .boolean, 2) := by decide +kernel
theorem dX12_init_99 : decode cX12_init 99 = .ok (.putfield 44, 3) := by decide +kernel
theorem dX12_init_102 : decode cX12_init 102 = .ok (.return_, 1) := by decide +kernel
theorem dX12_thrown_0 : decode cX12_thrown 0 = .ok (.aload_n 0, 1) := by decide +kernel
theorem dX12_thrown_1 : decode cX12_thrown 1 = .ok (.getfield 48, 3) := by decide +kernel
theorem dX12_thrown_4 : decode cX12_thrown 4 = .ok (.ireturn, 1) := by decide +kernel
theorem dX12_isFine_0 : decode cX12_isFine 0 = .ok (.aload_n 0, 1) := by decide +kernel
theorem dX12_isFine_1 : decode cX12_isFine 1 = .ok (.iload_n 1, 1) := by decide +kernel
theorem dX12_isFine_2 : decode cX12_isFine 2 = .ok (.putfield 48, 3) := by decide +kernel
theorem dX12_isFine_5 : decode cX12_isFine 5 = .ok (.iload_n 1, 1) := by decide +kernel
theorem dX12_isFine_6 : decode cX12_isFine 6 = .ok (.ifCond .ne 7, 3) := by decide +kernel
theorem dX12_isFine_9 : decode cX12_isFine 9 = .ok (.iconst 1, 1) := by decide +kernel
theorem dX12_isFine_10 : decode cX12_isFine 10 = .ok (.goto 4, 3) := by decide +kernel
theorem dX12_isFine_13 : decode cX12_isFine 13 = .ok (.iconst 0, 1) := by decide +kernel
theorem dX12_isFine_14 : decode cX12_isFine 14 = .ok (.ireturn, 1) := by decide +kernel
theorem dX12_in_0 : decode cX12_in 0 = .ok (.iload_n 0, 1) := by decide +kernel
theorem dX12_in_1 : decode cX12_in 1 = .ok (.iload_n 1, 1) := by decide +kernel
theorem dX12_in_2 : decode cX12_in 2 = .ok (.if_icmp .lt 12, 3) := by decide +kernel
theorem dX12_in_5 : decode cX12_in 5 = .ok (.iload_n 0, 1) := by decide +kernel
theorem dX12_in_6 : decode cX12_in 6 = .ok (.iload_n 2, 1) := by decide +kernel
theorem dX12_in_7 : decode cX12_in 7 = .ok (.if_icmp .gt 7, 3) := by decide +kernel
theorem dX12_in_10 : decode cX12_in 10 = .ok (.iconst 1, 1) := by decide +kernel
theorem dX12_in_11 : decode cX12_in 11 = .ok (.goto 4, 3) := by decide +kernel
theorem dX12_in_14 : decode cX12_in 14 = .ok (.iconst 0, 1) := by decide +kernel
theorem dX12_in_15 : decode cX12_in 15 = .ok (.ireturn, 1) := by decide +kernel
theorem dX12_isSquare_0 : decode cX12_isSquare 0 = .ok (.iload_n 1, 1) := by decide +kernel
theorem dX12_isSquare_1 : decode cX12_isSquare 1 = .ok (.iconst 0, 1) := by decide +kernel
theorem dX12_isSquare_2 : decode cX12_isSquare 2 = .ok (.aload_n 0, 1) := by decide +kernel
theorem dX12_isSquare_3 : decode cX12_isSquare 3 = .ok (.getfield 52, 3) := by decide +kernel
theorem dX12_isSquare_6 : decode cX12_isSquare 6 = .ok (.iconst 1, 1) := by decide +kernel
theorem dX12_isSquare_7 : decode cX12_isSquare 7 = .ok (.isub, 1) := by decide +kernel
theorem dX12_isSquare_8 : decode cX12_isSquare 8 = .ok (.invokestatic 55, 3) := by decide +kernel
theorem dX12_isSquare_11 : decode cX12_isSquare 11 = .ok (.ireturn, 1) := by decide +kernel
theorem dX12_isPoint_0 : decode cX12_isPoint 0 = .ok (.aload_n 0, 1) := by decide +kernel
theorem dX12_isPoint_1 : decode cX12_isPoint 1 = .ok (.iload_n 1, 1) := by decide +kernel
theorem dX12_isPoint_2 : decode cX12_isPoint 2 = .ok (.invokevirtual 59, 3) := by decide +kernel
theorem dX12_isPoint_5 : decode cX12_isPoint 5 = .ok (.ifCond .eq 39, 3) := by decide +kernel
theorem dX12_isPoint_8 : decode cX12_isPoint 8 = .ok (.iload_n 2, 1) := by decide +kernel
theorem dX12_isPoint_9 : decode cX12_isPoint 9 = .ok (.iconst 0, 1) := by decide +kernel
theorem dX12_isPoint_10 : decode cX12_isPoint 10 = .ok (.aload_n 0, 1) := by decide +kernel
theorem dX12_isPoint_11 : decode cX12_isPoint 11 = .ok (.getfield 7, 3) := by decide +kernel
theorem dX12_isPoint_14 : decode cX12_isPoint 14 = .ok (.iload_n 1, 1) := by decide +kernel
theorem dX12_isPoint_15 : decode cX12_isPoint 15 = .ok (.iaload, 1) := by decide +kernel
theorem dX12_isPoint_16 : decode cX12_isPoint 16 = .ok (.iconst 1, 1) := by decide +kernel
theorem dX12_isPoint_17 : decode cX12_isPoint 17 = .ok (.isub, 1) := by decide +kernel
theorem dX12_isPoint_18 : decode cX12_isPoint 18 = .ok (.invokestatic 55, 3) := by decide +kernel
theorem dX12_isPoint_21 : decode cX12_isPoint 21 = .ok (.ifCond .eq 23, 3) := by decide +kernel
theorem dX12_isPoint_24 : decode cX12_isPoint 24 = .ok (.iload_n 3, 1) := by decide +kernel
theorem dX12_isPoint_25 : decode cX12_isPoint 25 = .ok (.iconst 0, 1) := by decide +kernel
theorem dX12_isPoint_26 : decode cX12_isPoint 26 = .ok (.aload_n 0, 1) := by decide +kernel
theorem dX12_isPoint_27 : decode cX12_isPoint 27 = .ok (.getfield 7, 3) := by decide +kernel
theorem dX12_isPoint_30 : decode cX12_isPoint 30 = .ok (.iload_n 1, 1) := by decide +kernel
theorem dX12_isPoint_31 : decode cX12_isPoint 31 = .ok (.iaload, 1) := by decide +kernel
theorem dX12_isPoint_32 : decode cX12_isPoint 32 = .ok (.iconst 1, 1) := by decide +kernel
theorem dX12_isPoint_33 : decode cX12_isPoint 33 = .ok (.isub, 1) := by decide +kernel
theorem dX12_isPoint_34 : decode cX12_isPoint 34 = .ok (.invokestatic 55, 3) := by decide +kernel
theorem dX12_isPoint_37 : decode cX12_isPoint 37 = .ok (.ifCond .eq 7, 3) := by decide +kernel
theorem dX12_isPoint_40 : decode cX12_isPoint 40 = .ok (.iconst 1, 1) := by decide +kernel
theorem dX12_isPoint_41 : decode cX12_isPoint 41 = .ok (.goto 4, 3) := by decide +kernel
theorem dX12_isPoint_44 : decode cX12_isPoint 44 = .ok (.iconst 0, 1) := by decide +kernel
theorem dX12_isPoint_45 : decode cX12_isPoint 45 = .ok (.ireturn, 1) := by decide +kernel
theorem dX12_areaOf_0 : decode cX12_areaOf 0 = .ok (.aload_n 0, 1) := by decide +kernel
theorem dX12_areaOf_1 : decode cX12_areaOf 1 = .ok (.getfield 7, 3) := by decide +kernel
theorem dX12_areaOf_4 : decode cX12_areaOf 4 = .ok (.iload_n 1, 1) := by decide +kernel
theorem dX12_areaOf_5 : decode cX12_areaOf 5 = .ok (.iaload, 1) := by decide +kernel
theorem dX12_areaOf_6 : decode cX12_areaOf 6 = .ok (.aload_n 0, 1) := by decide +kernel
theorem dX12_areaOf_7 : decode cX12_areaOf 7 = .ok (.getfield 7, 3) := by decide +kernel
theorem dX12_areaOf_10 : decode cX12_areaOf 10 = .ok (.iload_n 1, 1) := by decide +kernel
theorem dX12_areaOf_11 : decode cX12_areaOf 11 = .ok (.iaload, 1) := by decide +kernel
theorem dX12_areaOf_12 : decode cX12_areaOf 12 = .ok (.imul, 1) := by decide +kernel
theorem dX12_areaOf_13 : decode cX12_areaOf 13 = .ok (.ireturn, 1) := by decide +kernel
theorem dX12_numberAt_0 : decode cX12_numberAt 0 = .ok (.aload_n 0, 1) := by decide +kernel
theorem dX12_numberAt_1 : decode cX12_numberAt 1 = .ok (.getfield 13, 3) := by decide +kernel
theorem dX12_numberAt_4 : decode cX12_numberAt 4 = .ok (.bipush 81, 2) := by decide +kernel
theorem dX12_numberAt_6 : decode cX12_numberAt 6 = .ok (.iload_n 1, 1) := by decide +kernel
theorem dX12_numberAt_7 : decode cX12_numberAt 7 = .ok (.imul, 1) := by decide +kernel
theorem dX12_numberAt_8 : decode cX12_numberAt 8 = .ok (.aload_n 0, 1) := by decide +kernel
theorem dX12_numberAt_9 : decode cX12_numberAt 9 = .ok (.getfield 7, 3) := by decide +kernel
theorem dX12_numberAt_12 : decode cX12_numberAt 12 = .ok (.iload_n 1, 1) := by decide +kernel
theorem dX12_numberAt_13 : decode cX12_numberAt 13 = .ok (.iaload, 1) := by decide +kernel
theorem dX12_numberAt_14 : decode cX12_numberAt 14 = .ok (.iload_n 2, 1) := by decide +kernel
theorem dX12_numberAt_15 : decode cX12_numberAt 15 = .ok (.imul, 1) := by decide +kernel
theorem dX12_numberAt_16 : decode cX12_numberAt 16 = .ok (.iadd, 1) := by decide +kernel
theorem dX12_numberAt_17 : decode cX12_numberAt 17 = .ok (.iload_n 3, 1) := by decide +kernel
theorem dX12_numberAt_18 : decode cX12_numberAt 18 = .ok (.iadd, 1) := by decide +kernel
theorem dX12_numberAt_19 : decode cX12_numberAt 19 = .ok (.iaload, 1) := by decide +kernel
theorem dX12_numberAt_20 : decode cX12_numberAt 20 = .ok (.ireturn, 1) := by decide +kernel
theorem dX12_lay_0 : decode cX12_lay 0 = .ok (.aload_n 0, 1) := by decide +kernel
theorem dX12_lay_1 : decode cX12_lay 1 = .ok (.getfield 7, 3) := by decide +kernel
theorem dX12_lay_4 : decode cX12_lay 4 = .ok (.aload_n 0, 1) := by decide +kernel
theorem dX12_lay_5 : decode cX12_lay 5 = .ok (.getfield 52, 3) := by decide +kernel
theorem dX12_lay_8 : decode cX12_lay 8 = .ok (.iload_n 1, 1) := by decide +kernel
theorem dX12_lay_9 : decode cX12_lay 9 = .ok (.iastore, 1) := by decide +kernel
theorem dX12_lay_10 : decode cX12_lay 10 = .ok (.iconst 0, 1) := by decide +kernel
theorem dX12_lay_11 : decode cX12_lay 11 = .ok (.istore_n 2, 1) := by decide +kernel
theorem dX12_lay_12 : decode cX12_lay 12 = .ok (.iload_n 2, 1) := by decide +kernel
theorem dX12_lay_13 : decode cX12_lay 13 = .ok (.bipush 81, 2) := by decide +kernel
theorem dX12_lay_15 : decode cX12_lay 15 = .ok (.if_icmp .ge 40, 3) := by decide +kernel
theorem dX12_lay_18 : decode cX12_lay 18 = .ok (.aload_n 0, 1) := by decide +kernel
theorem dX12_lay_19 : decode cX12_lay 19 = .ok (.getfield 13, 3) := by decide +kernel
theorem dX12_lay_22 : decode cX12_lay 22 = .ok (.bipush 81, 2) := by decide +kernel
theorem dX12_lay_24 : decode cX12_lay 24 = .ok (.aload_n 0, 1) := by decide +kernel
theorem dX12_lay_25 : decode cX12_lay 25 = .ok (.getfield 52, 3) := by decide +kernel
theorem dX12_lay_28 : decode cX12_lay 28 = .ok (.imul, 1) := by decide +kernel
theorem dX12_lay_29 : decode cX12_lay 29 = .ok (.iload_n 2, 1) := by decide +kernel
theorem dX12_lay_30 : decode cX12_lay 30 = .ok (.iadd, 1) := by decide +kernel
theorem dX12_lay_31 : decode cX12_lay 31 = .ok (.iload_n 2, 1) := by decide +kernel
theorem dX12_lay_32 : decode cX12_lay 32 = .ok (.iload_n 1, 1) := by decide +kernel
theorem dX12_lay_33 : decode cX12_lay 33 = .ok (.iload_n 1, 1) := by decide +kernel
theorem dX12_lay_34 : decode cX12_lay 34 = .ok (.imul, 1) := by decide +kernel
theorem dX12_lay_35 : decode cX12_lay 35 = .ok (.if_icmp .ge 12, 3) := by decide +kernel
theorem dX12_lay_38 : decode cX12_lay 38 = .ok (.aload_n 0, 1) := by decide +kernel
theorem dX12_lay_39 : decode cX12_lay 39 = .ok (.getfield 16, 3) := by decide +kernel
theorem dX12_lay_42 : decode cX12_lay 42 = .ok (.iload_n 2, 1) := by decide +kernel
theorem dX12_lay_43 : decode cX12_lay 43 = .ok (.iaload, 1) := by decide +kernel
theorem dX12_lay_44 : decode cX12_lay 44 = .ok (.goto 4, 3) := by decide +kernel
theorem dX12_lay_47 : decode cX12_lay 47 = .ok (.iconst 0, 1) := by decide +kernel
theorem dX12_lay_48 : decode cX12_lay 48 = .ok (.iastore, 1) := by decide +kernel
theorem dX12_lay_49 : decode cX12_lay 49 = .ok (.iinc 2 1, 3) := by decide +kernel
theorem dX12_lay_52 : decode cX12_lay 52 = .ok (.goto (-40), 3) := by decide +kernel
theorem dX12_lay_55 : decode cX12_lay 55 = .ok (.aload_n 0, 1) := by decide +kernel
theorem dX12_lay_56 : decode cX12_lay 56 = .ok (.dup, 1) := by decide +kernel
theorem dX12_lay_57 : decode cX12_lay 57 = .ok (.getfield 52, 3) := by decide +kernel
theorem dX12_lay_60 : decode cX12_lay 60 = .ok (.iconst 1, 1) := by decide +kernel
theorem dX12_lay_61 : decode cX12_lay 61 = .ok (.iadd, 1) := by decide +kernel
theorem dX12_lay_62 : decode cX12_lay 62 = .ok (.putfield 52, 3) := by decide +kernel
theorem dX12_lay_65 : decode cX12_lay 65 = .ok (.aload_n 0, 1) := by decide +kernel
theorem dX12_lay_66 : decode cX12_lay 66 = .ok (.getfield 52, 3) := by decide +kernel
theorem dX12_lay_69 : decode cX12_lay 69 = .ok (.iconst 1, 1) := by decide +kernel
theorem dX12_lay_70 : decode cX12_lay 70 = .ok (.isub, 1) := by decide +kernel
theorem dX12_lay_71 : decode cX12_lay 71 = .ok (.ireturn, 1) := by decide +kernel
theorem dX12_wipe_0 : decode cX12_wipe 0 = .ok (.iconst 0, 1) := by decide +kernel
theorem dX12_wipe_1 : decode cX12_wipe 1 = .ok (.istore_n 1, 1) := by decide +kernel
theorem dX12_wipe_2 : decode cX12_wipe 2 = .ok (.iload_n 1, 1) := by decide +kernel
theorem dX12_wipe_3 : decode cX12_wipe 3 = .ok (.bipush 81, 2) := by decide +kernel
theorem dX12_wipe_5 : decode cX12_wipe 5 = .ok (.if_icmp .ge 16, 3) := by decide +kernel
theorem dX12_wipe_8 : decode cX12_wipe 8 = .ok (.aload_n 0, 1) := by decide +kernel
theorem dX12_wipe_9 : decode cX12_wipe 9 = .ok (.getfield 16, 3) := by decide +kernel
theorem dX12_wipe_12 : decode cX12_wipe 12 = .ok (.iload_n 1, 1) := by decide +kernel
theorem dX12_wipe_13 : decode cX12_wipe 13 = .ok (.iconst 0, 1) := by decide +kernel
theorem dX12_wipe_14 : decode cX12_wipe 14 = .ok (.iastore, 1) := by decide +kernel
theorem dX12_wipe_15 : decode cX12_wipe 15 = .ok (.iinc 1 1, 3) := by decide +kernel
theorem dX12_wipe_18 : decode cX12_wipe 18 = .ok (.goto (-16), 3) := by decide +kernel
theorem dX12_wipe_21 : decode cX12_wipe 21 = .ok (.return_, 1) := by decide +kernel
theorem dX12_square_0 : decode cX12_square 0 = .ok (.aload_n 0, 1) := by decide +kernel
theorem dX12_square_1 : decode cX12_square 1 = .ok (.iload_n 1, 1) := by decide +kernel
theorem dX12_square_2 : decode cX12_square 2 = .ok (.iconst 1, 1) := by decide +kernel
theorem dX12_square_3 : decode cX12_square 3 = .ok (.bipush 9, 2) := by decide +kernel
theorem dX12_square_5 : decode cX12_square 5 = .ok (.invokestatic 55, 3) := by decide +kernel
theorem dX12_square_8 : decode cX12_square 8 = .ok (.ifCond .ne 7, 3) := by decide +kernel
theorem dX12_square_11 : decode cX12_square 11 = .ok (.iconst 1, 1) := by decide +kernel
theorem dX12_square_12 : decode cX12_square 12 = .ok (.goto 17, 3) := by decide +kernel
theorem dX12_square_15 : decode cX12_square 15 = .ok (.aload_n 0, 1) := by decide +kernel
theorem dX12_square_16 : decode cX12_square 16 = .ok (.getfield 52, 3) := by decide +kernel
theorem dX12_square_19 : decode cX12_square 19 = .ok (.bipush 8, 2) := by decide +kernel
theorem dX12_square_21 : decode cX12_square 21 = .ok (.if_icmp .ne 7, 3) := by decide +kernel
theorem dX12_square_24 : decode cX12_square 24 = .ok (.iconst 2, 1) := by decide +kernel
theorem dX12_square_25 : decode cX12_square 25 = .ok (.goto 4, 3) := by decide +kernel
theorem dX12_square_28 : decode cX12_square 28 = .ok (.iconst 0, 1) := by decide +kernel
theorem dX12_square_29 : decode cX12_square 29 = .ok (.invokevirtual 63, 3) := by decide +kernel
theorem dX12_square_32 : decode cX12_square 32 = .ok (.ifCond .ne 5, 3) := by decide +kernel
theorem dX12_square_35 : decode cX12_square 35 = .ok (.iconst 0, 1) := by decide +kernel
theorem dX12_square_36 : decode cX12_square 36 = .ok (.ireturn, 1) := by decide +kernel
theorem dX12_square_37 : decode cX12_square 37 = .ok (.aload_n 0, 1) := by decide +kernel
theorem dX12_square_38 : decode cX12_square 38 = .ok (.invokevirtual 66, 3) := by decide +kernel
theorem dX12_square_41 : decode cX12_square 41 = .ok (.aload_n 0, 1) := by decide +kernel
theorem dX12_square_42 : decode cX12_square 42 = .ok (.iload_n 1, 1) := by decide +kernel
theorem dX12_square_43 : decode cX12_square 43 = .ok (.invokevirtual 69, 3) := by decide +kernel
theorem dX12_square_46 : decode cX12_square 46 = .ok (.ireturn, 1) := by decide +kernel
theorem dX12_put_0 : decode cX12_put 0 = .ok (.aload_n 0, 1) := by decide +kernel
theorem dX12_put_1 : decode cX12_put 1 = .ok (.aload_n 0, 1) := by decide +kernel
theorem dX12_put_2 : decode cX12_put 2 = .ok (.iload_n 1, 1) := by decide +kernel
theorem dX12_put_3 : decode cX12_put 3 = .ok (.iload_n 2, 1) := by decide +kernel
theorem dX12_put_4 : decode cX12_put 4 = .ok (.iload_n 3, 1) := by decide +kernel
theorem dX12_put_5 : decode cX12_put 5 = .ok (.invokevirtual 73, 3) := by decide +kernel
theorem dX12_put_8 : decode cX12_put 8 = .ok (.ifCond .ne 7, 3) := by decide +kernel
theorem dX12_put_11 : decode cX12_put 11 = .ok (.iconst 1, 1) := by decide +kernel
theorem dX12_put_12 : decode cX12_put 12 = .ok (.goto 20, 3) := by decide +kernel
theorem dX12_put_15 : decode cX12_put 15 = .ok (.iload 4, 2) := by decide +kernel
theorem dX12_put_17 : decode cX12_put 17 = .ok (.iconst 0, 1) := by decide +kernel
theorem dX12_put_18 : decode cX12_put 18 = .ok (.sipush 999, 3) := by decide +kernel
theorem dX12_put_21 : decode cX12_put 21 = .ok (.invokestatic 55, 3) := by decide +kernel
theorem dX12_put_24 : decode cX12_put 24 = .ok (.ifCond .ne 7, 3) := by decide +kernel
theorem dX12_put_27 : decode cX12_put 27 = .ok (.iconst 2, 1) := by decide +kernel
theorem dX12_put_28 : decode cX12_put 28 = .ok (.goto 4, 3) := by decide +kernel
theorem dX12_put_31 : decode cX12_put 31 = .ok (.iconst 0, 1) := by decide +kernel
theorem dX12_put_32 : decode cX12_put 32 = .ok (.invokevirtual 63, 3) := by decide +kernel
theorem dX12_put_35 : decode cX12_put 35 = .ok (.ifCond .ne 5, 3) := by decide +kernel
theorem dX12_put_38 : decode cX12_put 38 = .ok (.iconst 0, 1) := by decide +kernel
theorem dX12_put_39 : decode cX12_put 39 = .ok (.ireturn, 1) := by decide +kernel
theorem dX12_put_40 : decode cX12_put 40 = .ok (.bipush 81, 2) := by decide +kernel
theorem dX12_put_42 : decode cX12_put 42 = .ok (.iload_n 1, 1) := by decide +kernel
theorem dX12_put_43 : decode cX12_put 43 = .ok (.imul, 1) := by decide +kernel
theorem dX12_put_44 : decode cX12_put 44 = .ok (.aload_n 0, 1) := by decide +kernel
theorem dX12_put_45 : decode cX12_put 45 = .ok (.getfield 7, 3) := by decide +kernel
theorem dX12_put_48 : decode cX12_put 48 = .ok (.iload_n 1, 1) := by decide +kernel
theorem dX12_put_49 : decode cX12_put 49 = .ok (.iaload, 1) := by decide +kernel
theorem dX12_put_50 : decode cX12_put 50 = .ok (.iload_n 2, 1) := by decide +kernel
theorem dX12_put_51 : decode cX12_put 51 = .ok (.imul, 1) := by decide +kernel
theorem dX12_put_52 : decode cX12_put 52 = .ok (.iadd, 1) := by decide +kernel
theorem dX12_put_53 : decode cX12_put 53 = .ok (.iload_n 3, 1) := by decide +kernel
theorem dX12_put_54 : decode cX12_put 54 = .ok (.iadd, 1) := by decide +kernel
theorem dX12_put_55 : decode cX12_put 55 = .ok (.istore 5, 2) := by decide +kernel
theorem dX12_put_57 : decode cX12_put 57 = .ok (.aload_n 0, 1) := by decide +kernel
theorem dX12_put_58 : decode cX12_put 58 = .ok (.getfield 13, 3) := by decide +kernel
theorem dX12_put_61 : decode cX12_put 61 = .ok (.iload 5, 2) := by decide +kernel
theorem dX12_put_63 : decode cX12_put 63 = .ok (.iaload, 1) := by decide +kernel
theorem dX12_put_64 : decode cX12_put 64 = .ok (.istore 6, 2) := by decide +kernel
theorem dX12_put_66 : decode cX12_put 66 = .ok (.aload_n 0, 1) := by decide +kernel
theorem dX12_put_67 : decode cX12_put 67 = .ok (.getfield 13, 3) := by decide +kernel
theorem dX12_put_70 : decode cX12_put 70 = .ok (.iload 5, 2) := by decide +kernel
theorem dX12_put_72 : decode cX12_put 72 = .ok (.iload 4, 2) := by decide +kernel
theorem dX12_put_74 : decode cX12_put 74 = .ok (.iastore, 1) := by decide +kernel
theorem dX12_put_75 : decode cX12_put 75 = .ok (.iload 6, 2) := by decide +kernel
theorem dX12_put_77 : decode cX12_put 77 = .ok (.ireturn, 1) := by decide +kernel
theorem dX12_at_0 : decode cX12_at 0 = .ok (.aload_n 0, 1) := by decide +kernel
theorem dX12_at_1 : decode cX12_at 1 = .ok (.aload_n 0, 1) := by decide +kernel
theorem dX12_at_2 : decode cX12_at 2 = .ok (.iload_n 1, 1) := by decide +kernel
theorem dX12_at_3 : decode cX12_at 3 = .ok (.iload_n 2, 1) := by decide +kernel
theorem dX12_at_4 : decode cX12_at 4 = .ok (.iload_n 3, 1) := by decide +kernel
theorem dX12_at_5 : decode cX12_at 5 = .ok (.invokevirtual 73, 3) := by decide +kernel
theorem dX12_at_8 : decode cX12_at 8 = .ok (.ifCond .eq 7, 3) := by decide +kernel
theorem dX12_at_11 : decode cX12_at 11 = .ok (.iconst 0, 1) := by decide +kernel
theorem dX12_at_12 : decode cX12_at 12 = .ok (.goto 4, 3) := by decide +kernel
theorem dX12_at_15 : decode cX12_at 15 = .ok (.iconst 1, 1) := by decide +kernel
theorem dX12_at_16 : decode cX12_at 16 = .ok (.invokevirtual 63, 3) := by decide +kernel
theorem dX12_at_19 : decode cX12_at 19 = .ok (.ifCond .eq 13, 3) := by decide +kernel
theorem dX12_at_22 : decode cX12_at 22 = .ok (.aload_n 0, 1) := by decide +kernel
theorem dX12_at_23 : decode cX12_at 23 = .ok (.iload_n 1, 1) := by decide +kernel
theorem dX12_at_24 : decode cX12_at 24 = .ok (.iload_n 2, 1) := by decide +kernel
theorem dX12_at_25 : decode cX12_at 25 = .ok (.iload_n 3, 1) := by decide +kernel
theorem dX12_at_26 : decode cX12_at 26 = .ok (.invokevirtual 76, 3) := by decide +kernel
theorem dX12_at_29 : decode cX12_at 29 = .ok (.goto 4, 3) := by decide +kernel
theorem dX12_at_32 : decode cX12_at 32 = .ok (.iconst 0, 1) := by decide +kernel
theorem dX12_at_33 : decode cX12_at 33 = .ok (.ireturn, 1) := by decide +kernel
theorem dX12_siege_0 : decode cX12_siege 0 = .ok (.aload_n 0, 1) := by decide +kernel
theorem dX12_siege_1 : decode cX12_siege 1 = .ok (.invokevirtual 66, 3) := by decide +kernel
theorem dX12_siege_4 : decode cX12_siege 4 = .ok (.iconst 0, 1) := by decide +kernel
theorem dX12_siege_5 : decode cX12_siege 5 = .ok (.istore_n 2, 1) := by decide +kernel
theorem dX12_siege_6 : decode cX12_siege 6 = .ok (.iload_n 1, 1) := by decide +kernel
theorem dX12_siege_7 : decode cX12_siege 7 = .ok (.iconst 2, 1) := by decide +kernel
theorem dX12_siege_8 : decode cX12_siege 8 = .ok (.idiv, 1) := by decide +kernel
theorem dX12_siege_9 : decode cX12_siege 9 = .ok (.istore_n 3, 1) := by decide +kernel
theorem dX12_siege_10 : decode cX12_siege 10 = .ok (.iconst 1, 1) := by decide +kernel
theorem dX12_siege_11 : decode cX12_siege 11 = .ok (.istore 4, 2) := by decide +kernel
theorem dX12_siege_13 : decode cX12_siege 13 = .ok (.iload 4, 2) := by decide +kernel
theorem dX12_siege_15 : decode cX12_siege 15 = .ok (.iload_n 1, 1) := by decide +kernel
theorem dX12_siege_16 : decode cX12_siege 16 = .ok (.iload_n 1, 1) := by decide +kernel
theorem dX12_siege_17 : decode cX12_siege 17 = .ok (.imul, 1) := by decide +kernel
theorem dX12_siege_18 : decode cX12_siege 18 = .ok (.if_icmp .gt 111, 3) := by decide +kernel
theorem dX12_siege_21 : decode cX12_siege 21 = .ok (.aload_n 0, 1) := by decide +kernel
theorem dX12_siege_22 : decode cX12_siege 22 = .ok (.getfield 16, 3) := by decide +kernel
theorem dX12_siege_25 : decode cX12_siege 25 = .ok (.iload_n 1, 1) := by decide +kernel
theorem dX12_siege_26 : decode cX12_siege 26 = .ok (.iload_n 2, 1) := by decide +kernel
theorem dX12_siege_27 : decode cX12_siege 27 = .ok (.imul, 1) := by decide +kernel
theorem dX12_siege_28 : decode cX12_siege 28 = .ok (.iload_n 3, 1) := by decide +kernel
theorem dX12_siege_29 : decode cX12_siege 29 = .ok (.iadd, 1) := by decide +kernel
theorem dX12_siege_30 : decode cX12_siege 30 = .ok (.iload 4, 2) := by decide +kernel
theorem dX12_siege_32 : decode cX12_siege 32 = .ok (.iastore, 1) := by decide +kernel
theorem dX12_siege_33 : decode cX12_siege 33 = .ok (.iload_n 2, 1) := by decide +kernel
theorem dX12_siege_34 : decode cX12_siege 34 = .ok (.ifCond .ne 9, 3) := by decide +kernel
theorem dX12_siege_37 : decode cX12_siege 37 = .ok (.iload_n 1, 1) := by decide +kernel
theorem dX12_siege_38 : decode cX12_siege 38 = .ok (.iconst 1, 1) := by decide +kernel
theorem dX12_siege_39 : decode cX12_siege 39 = .ok (.isub, 1) := by decide +kernel
theorem dX12_siege_40 : decode cX12_siege 40 = .ok (.goto 6, 3) := by decide +kernel
theorem dX12_siege_43 : decode cX12_siege 43 = .ok (.iload_n 2, 1) := by decide +kernel
theorem dX12_siege_44 : decode cX12_siege 44 = .ok (.iconst 1, 1) := by decide +kernel
theorem dX12_siege_45 : decode cX12_siege 45 = .ok (.isub, 1) := by decide +kernel
theorem dX12_siege_46 : decode cX12_siege 46 = .ok (.istore 5, 2) := by decide +kernel
theorem dX12_siege_48 : decode cX12_siege 48 = .ok (.iload_n 3, 1) := by decide +kernel
theorem dX12_siege_49 : decode cX12_siege 49 = .ok (.iload_n 1, 1) := by decide +kernel
theorem dX12_siege_50 : decode cX12_siege 50 = .ok (.iconst 1, 1) := by decide +kernel
theorem dX12_siege_51 : decode cX12_siege 51 = .ok (.isub, 1) := by decide +kernel
theorem dX12_siege_52 : decode cX12_siege 52 = .ok (.if_icmp .ne 7, 3) := by decide +kernel
theorem dX12_siege_55 : decode cX12_siege 55 = .ok (.iconst 0, 1) := by decide +kernel
theorem dX12_siege_56 : decode cX12_siege 56 = .ok (.goto 6, 3) := by decide +kernel
theorem dX12_siege_59 : decode cX12_siege 59 = .ok (.iload_n 3, 1) := by decide +kernel
theorem dX12_siege_60 : decode cX12_siege 60 = .ok (.iconst 1, 1) := by decide +kernel
theorem dX12_siege_61 : decode cX12_siege 61 = .ok (.iadd, 1) := by decide +kernel
theorem dX12_siege_62 : decode cX12_siege 62 = .ok (.istore 6, 2) := by decide +kernel
theorem dX12_siege_64 : decode cX12_siege 64 = .ok (.aload_n 0, 1) := by decide +kernel
theorem dX12_siege_65 : decode cX12_siege 65 = .ok (.getfield 16, 3) := by decide +kernel
theorem dX12_siege_68 : decode cX12_siege 68 = .ok (.iload_n 1, 1) := by decide +kernel
theorem dX12_siege_69 : decode cX12_siege 69 = .ok (.iload 5, 2) := by decide +kernel
theorem dX12_siege_71 : decode cX12_siege 71 = .ok (.imul, 1) := by decide +kernel
theorem dX12_siege_72 : decode cX12_siege 72 = .ok (.iload 6, 2) := by decide +kernel
theorem dX12_siege_74 : decode cX12_siege 74 = .ok (.iadd, 1) := by decide +kernel
theorem dX12_siege_75 : decode cX12_siege 75 = .ok (.iaload, 1) := by decide +kernel
theorem dX12_siege_76 : decode cX12_siege 76 = .ok (.ifCond .ne 7, 3) := by decide +kernel
theorem dX12_siege_79 : decode cX12_siege 79 = .ok (.iconst 1, 1) := by decide +kernel
theorem dX12_siege_80 : decode cX12_siege 80 = .ok (.goto 4, 3) := by decide +kernel
theorem dX12_siege_83 : decode cX12_siege 83 = .ok (.iconst 0, 1) := by decide +kernel
theorem dX12_siege_84 : decode cX12_siege 84 = .ok (.istore 7, 2) := by decide +kernel
theorem dX12_siege_86 : decode cX12_siege 86 = .ok (.iload 7, 2) := by decide +kernel
theorem dX12_siege_88 : decode cX12_siege 88 = .ok (.ifCond .eq 8, 3) := by decide +kernel
theorem dX12_siege_91 : decode cX12_siege 91 = .ok (.iload 5, 2) := by decide +kernel
theorem dX12_siege_93 : decode cX12_siege 93 = .ok (.goto 17, 3) := by decide +kernel
theorem dX12_siege_96 : decode cX12_siege 96 = .ok (.iload_n 2, 1) := by decide +kernel
theorem dX12_siege_97 : decode cX12_siege 97 = .ok (.iload_n 1, 1) := by decide +kernel
theorem dX12_siege_98 : decode cX12_siege 98 = .ok (.iconst 1, 1) := by decide +kernel
theorem dX12_siege_99 : decode cX12_siege 99 = .ok (.isub, 1) := by decide +kernel
theorem dX12_siege_100 : decode cX12_siege 100 = .ok (.if_icmp .ne 7, 3) := by decide +kernel
theorem dX12_siege_103 : decode cX12_siege 103 = .ok (.iconst 0, 1) := by decide +kernel
theorem dX12_siege_104 : decode cX12_siege 104 = .ok (.goto 6, 3) := by decide +kernel
theorem dX12_siege_107 : decode cX12_siege 107 = .ok (.iload_n 2, 1) := by decide +kernel
theorem dX12_siege_108 : decode cX12_siege 108 = .ok (.iconst 1, 1) := by decide +kernel
theorem dX12_siege_109 : decode cX12_siege 109 = .ok (.iadd, 1) := by decide +kernel
theorem dX12_siege_110 : decode cX12_siege 110 = .ok (.istore_n 2, 1) := by decide +kernel
theorem dX12_siege_111 : decode cX12_siege 111 = .ok (.iload 7, 2) := by decide +kernel
theorem dX12_siege_113 : decode cX12_siege 113 = .ok (.ifCond .eq 8, 3) := by decide +kernel
theorem dX12_siege_116 : decode cX12_siege 116 = .ok (.iload 6, 2) := by decide +kernel
theorem dX12_siege_118 : decode cX12_siege 118 = .ok (.goto 4, 3) := by decide +kernel
theorem dX12_siege_121 : decode cX12_siege 121 = .ok (.iload_n 3, 1) := by decide +kernel
theorem dX12_siege_122 : decode cX12_siege 122 = .ok (.istore_n 3, 1) := by decide +kernel
theorem dX12_siege_123 : decode cX12_siege 123 = .ok (.iinc 4 1, 3) := by decide +kernel
theorem dX12_siege_126 : decode cX12_siege 126 = .ok (.goto (-113), 3) := by decide +kernel
theorem dX12_siege_129 : decode cX12_siege 129 = .ok (.return_, 1) := by decide +kernel
theorem dX12_cross_0 : decode cX12_cross 0 = .ok (.iconst 0, 1) := by decide +kernel
theorem dX12_cross_1 : decode cX12_cross 1 = .ok (.istore_n 2, 1) := by decide +kernel
theorem dX12_cross_2 : decode cX12_cross 2 = .ok (.iload_n 2, 1) := by decide +kernel
theorem dX12_cross_3 : decode cX12_cross 3 = .ok (.iload_n 1, 1) := by decide +kernel
theorem dX12_cross_4 : decode cX12_cross 4 = .ok (.iload_n 1, 1) := by decide +kernel
theorem dX12_cross_5 : decode cX12_cross 5 = .ok (.imul, 1) := by decide +kernel
theorem dX12_cross_6 : decode cX12_cross 6 = .ok (.if_icmp .ge 53, 3) := by decide +kernel
theorem dX12_cross_9 : decode cX12_cross 9 = .ok (.iload_n 2, 1) := by decide +kernel
theorem dX12_cross_10 : decode cX12_cross 10 = .ok (.iload_n 1, 1) := by decide +kernel
theorem dX12_cross_11 : decode cX12_cross 11 = .ok (.idiv, 1) := by decide +kernel
theorem dX12_cross_12 : decode cX12_cross 12 = .ok (.iconst 4, 1) := by decide +kernel
theorem dX12_cross_13 : decode cX12_cross 13 = .ok (.irem, 1) := by decide +kernel
theorem dX12_cross_14 : decode cX12_cross 14 = .ok (.istore_n 3, 1) := by decide +kernel
theorem dX12_cross_15 : decode cX12_cross 15 = .ok (.iload_n 2, 1) := by decide +kernel
theorem dX12_cross_16 : decode cX12_cross 16 = .ok (.iload_n 1, 1) := by decide +kernel
theorem dX12_cross_17 : decode cX12_cross 17 = .ok (.irem, 1) := by decide +kernel
theorem dX12_cross_18 : decode cX12_cross 18 = .ok (.iconst 4, 1) := by decide +kernel
theorem dX12_cross_19 : decode cX12_cross 19 = .ok (.irem, 1) := by decide +kernel
theorem dX12_cross_20 : decode cX12_cross 20 = .ok (.istore 4, 2) := by decide +kernel
theorem dX12_cross_22 : decode cX12_cross 22 = .ok (.aload_n 0, 1) := by decide +kernel
theorem dX12_cross_23 : decode cX12_cross 23 = .ok (.getfield 16, 3) := by decide +kernel
theorem dX12_cross_26 : decode cX12_cross 26 = .ok (.iload_n 2, 1) := by decide +kernel
theorem dX12_cross_27 : decode cX12_cross 27 = .ok (.iload_n 3, 1) := by decide +kernel
theorem dX12_cross_28 : decode cX12_cross 28 = .ok (.iload 4, 2) := by decide +kernel
theorem dX12_cross_30 : decode cX12_cross 30 = .ok (.if_icmp .eq 11, 3) := by decide +kernel
theorem dX12_cross_33 : decode cX12_cross 33 = .ok (.iload_n 3, 1) := by decide +kernel
theorem dX12_cross_34 : decode cX12_cross 34 = .ok (.iload 4, 2) := by decide +kernel
theorem dX12_cross_36 : decode cX12_cross 36 = .ok (.iadd, 1) := by decide +kernel
theorem dX12_cross_37 : decode cX12_cross 37 = .ok (.iconst 3, 1) := by decide +kernel
theorem dX12_cross_38 : decode cX12_cross 38 = .ok (.if_icmp .ne 11, 3) := by decide +kernel
theorem dX12_cross_41 : decode cX12_cross 41 = .ok (.iload_n 1, 1) := by decide +kernel
theorem dX12_cross_42 : decode cX12_cross 42 = .ok (.iload_n 1, 1) := by decide +kernel
theorem dX12_cross_43 : decode cX12_cross 43 = .ok (.imul, 1) := by decide +kernel
theorem dX12_cross_44 : decode cX12_cross 44 = .ok (.iload_n 2, 1) := by decide +kernel
theorem dX12_cross_45 : decode cX12_cross 45 = .ok (.isub, 1) := by decide +kernel
theorem dX12_cross_46 : decode cX12_cross 46 = .ok (.goto 6, 3) := by decide +kernel
theorem dX12_cross_49 : decode cX12_cross 49 = .ok (.iload_n 2, 1) := by decide +kernel
theorem dX12_cross_50 : decode cX12_cross 50 = .ok (.iconst 1, 1) := by decide +kernel
theorem dX12_cross_51 : decode cX12_cross 51 = .ok (.iadd, 1) := by decide +kernel
theorem dX12_cross_52 : decode cX12_cross 52 = .ok (.iastore, 1) := by decide +kernel
theorem dX12_cross_53 : decode cX12_cross 53 = .ok (.iinc 2 1, 3) := by decide +kernel
theorem dX12_cross_56 : decode cX12_cross 56 = .ok (.goto (-54), 3) := by decide +kernel
theorem dX12_cross_59 : decode cX12_cross 59 = .ok (.return_, 1) := by decide +kernel
theorem dX12_digits_0 : decode cX12_digits 0 = .ok (.iconst 0, 1) := by decide +kernel
theorem dX12_digits_1 : decode cX12_digits 1 = .ok (.istore_n 2, 1) := by decide +kernel
theorem dX12_digits_2 : decode cX12_digits 2 = .ok (.iload_n 2, 1) := by decide +kernel
theorem dX12_digits_3 : decode cX12_digits 3 = .ok (.iload_n 1, 1) := by decide +kernel
theorem dX12_digits_4 : decode cX12_digits 4 = .ok (.iload_n 1, 1) := by decide +kernel
theorem dX12_digits_5 : decode cX12_digits 5 = .ok (.imul, 1) := by decide +kernel
theorem dX12_digits_6 : decode cX12_digits 6 = .ok (.if_icmp .ge 45, 3) := by decide +kernel
theorem dX12_digits_9 : decode cX12_digits 9 = .ok (.iload_n 2, 1) := by decide +kernel
theorem dX12_digits_10 : decode cX12_digits 10 = .ok (.iload_n 1, 1) := by decide +kernel
theorem dX12_digits_11 : decode cX12_digits 11 = .ok (.idiv, 1) := by decide +kernel
theorem dX12_digits_12 : decode cX12_digits 12 = .ok (.istore_n 3, 1) := by decide +kernel
theorem dX12_digits_13 : decode cX12_digits 13 = .ok (.iload_n 2, 1) := by decide +kernel
theorem dX12_digits_14 : decode cX12_digits 14 = .ok (.iload_n 1, 1) := by decide +kernel
theorem dX12_digits_15 : decode cX12_digits 15 = .ok (.irem, 1) := by decide +kernel
theorem dX12_digits_16 : decode cX12_digits 16 = .ok (.istore 4, 2) := by decide +kernel
theorem dX12_digits_18 : decode cX12_digits 18 = .ok (.aload_n 0, 1) := by decide +kernel
theorem dX12_digits_19 : decode cX12_digits 19 = .ok (.getfield 16, 3) := by decide +kernel
theorem dX12_digits_22 : decode cX12_digits 22 = .ok (.iload_n 2, 1) := by decide +kernel
theorem dX12_digits_23 : decode cX12_digits 23 = .ok (.iload_n 1, 1) := by decide +kernel
theorem dX12_digits_24 : decode cX12_digits 24 = .ok (.iload_n 3, 1) := by decide +kernel
theorem dX12_digits_25 : decode cX12_digits 25 = .ok (.iconst 2, 1) := by decide +kernel
theorem dX12_digits_26 : decode cX12_digits 26 = .ok (.iload 4, 2) := by decide +kernel
theorem dX12_digits_28 : decode cX12_digits 28 = .ok (.imul, 1) := by decide +kernel
theorem dX12_digits_29 : decode cX12_digits 29 = .ok (.iadd, 1) := by decide +kernel
theorem dX12_digits_30 : decode cX12_digits 30 = .ok (.iload_n 1, 1) := by decide +kernel
theorem dX12_digits_31 : decode cX12_digits 31 = .ok (.irem, 1) := by decide +kernel
theorem dX12_digits_32 : decode cX12_digits 32 = .ok (.imul, 1) := by decide +kernel
theorem dX12_digits_33 : decode cX12_digits 33 = .ok (.iconst 2, 1) := by decide +kernel
theorem dX12_digits_34 : decode cX12_digits 34 = .ok (.iload_n 3, 1) := by decide +kernel
theorem dX12_digits_35 : decode cX12_digits 35 = .ok (.imul, 1) := by decide +kernel
theorem dX12_digits_36 : decode cX12_digits 36 = .ok (.iload 4, 2) := by decide +kernel
theorem dX12_digits_38 : decode cX12_digits 38 = .ok (.iadd, 1) := by decide +kernel
theorem dX12_digits_39 : decode cX12_digits 39 = .ok (.iload_n 1, 1) := by decide +kernel
theorem dX12_digits_40 : decode cX12_digits 40 = .ok (.irem, 1) := by decide +kernel
theorem dX12_digits_41 : decode cX12_digits 41 = .ok (.iadd, 1) := by decide +kernel
theorem dX12_digits_42 : decode cX12_digits 42 = .ok (.iconst 1, 1) := by decide +kernel
theorem dX12_digits_43 : decode cX12_digits 43 = .ok (.iadd, 1) := by decide +kernel
theorem dX12_digits_44 : decode cX12_digits 44 = .ok (.iastore, 1) := by decide +kernel
theorem dX12_digits_45 : decode cX12_digits 45 = .ok (.iinc 2 1, 3) := by decide +kernel
theorem dX12_digits_48 : decode cX12_digits 48 = .ok (.goto (-46), 3) := by decide +kernel
theorem dX12_digits_51 : decode cX12_digits 51 = .ok (.return_, 1) := by decide +kernel
theorem dX12_lux_0 : decode cX12_lux 0 = .ok (.aload_n 0, 1) := by decide +kernel
theorem dX12_lux_1 : decode cX12_lux 1 = .ok (.iconst 3, 1) := by decide +kernel
theorem dX12_lux_2 : decode cX12_lux 2 = .ok (.invokevirtual 80, 3) := by decide +kernel
theorem dX12_lux_5 : decode cX12_lux 5 = .ok (.iconst 0, 1) := by decide +kernel
theorem dX12_lux_6 : decode cX12_lux 6 = .ok (.istore_n 1, 1) := by decide +kernel
theorem dX12_lux_7 : decode cX12_lux 7 = .ok (.iload_n 1, 1) := by decide +kernel
theorem dX12_lux_8 : decode cX12_lux 8 = .ok (.bipush 9, 2) := by decide +kernel
theorem dX12_lux_10 : decode cX12_lux 10 = .ok (.if_icmp .ge 21, 3) := by decide +kernel
theorem dX12_lux_13 : decode cX12_lux 13 = .ok (.aload_n 0, 1) := by decide +kernel
theorem dX12_lux_14 : decode cX12_lux 14 = .ok (.getfield 19, 3) := by decide +kernel
theorem dX12_lux_17 : decode cX12_lux 17 = .ok (.iload_n 1, 1) := by decide +kernel
theorem dX12_lux_18 : decode cX12_lux 18 = .ok (.aload_n 0, 1) := by decide +kernel
theorem dX12_lux_19 : decode cX12_lux 19 = .ok (.getfield 16, 3) := by decide +kernel
theorem dX12_lux_22 : decode cX12_lux 22 = .ok (.iload_n 1, 1) := by decide +kernel
theorem dX12_lux_23 : decode cX12_lux 23 = .ok (.iaload, 1) := by decide +kernel
theorem dX12_lux_24 : decode cX12_lux 24 = .ok (.iastore, 1) := by decide +kernel
theorem dX12_lux_25 : decode cX12_lux 25 = .ok (.iinc 1 1, 3) := by decide +kernel
theorem dX12_lux_28 : decode cX12_lux 28 = .ok (.goto (-21), 3) := by decide +kernel
theorem dX12_lux_31 : decode cX12_lux 31 = .ok (.iconst 0, 1) := by decide +kernel
theorem dX12_lux_32 : decode cX12_lux 32 = .ok (.istore_n 1, 1) := by decide +kernel
theorem dX12_lux_33 : decode cX12_lux 33 = .ok (.iload_n 1, 1) := by decide +kernel
theorem dX12_lux_34 : decode cX12_lux 34 = .ok (.bipush 9, 2) := by decide +kernel
theorem dX12_lux_36 : decode cX12_lux 36 = .ok (.if_icmp .ge 142, 3) := by decide +kernel
theorem dX12_lux_39 : decode cX12_lux 39 = .ok (.iload_n 1, 1) := by decide +kernel
theorem dX12_lux_40 : decode cX12_lux 40 = .ok (.iconst 3, 1) := by decide +kernel
theorem dX12_lux_41 : decode cX12_lux 41 = .ok (.idiv, 1) := by decide +kernel
theorem dX12_lux_42 : decode cX12_lux 42 = .ok (.istore_n 2, 1) := by decide +kernel
theorem dX12_lux_43 : decode cX12_lux 43 = .ok (.iload_n 1, 1) := by decide +kernel
theorem dX12_lux_44 : decode cX12_lux 44 = .ok (.iconst 3, 1) := by decide +kernel
theorem dX12_lux_45 : decode cX12_lux 45 = .ok (.irem, 1) := by decide +kernel
theorem dX12_lux_46 : decode cX12_lux 46 = .ok (.istore_n 3, 1) := by decide +kernel
theorem dX12_lux_47 : decode cX12_lux 47 = .ok (.iconst 4, 1) := by decide +kernel
theorem dX12_lux_48 : decode cX12_lux 48 = .ok (.aload_n 0, 1) := by decide +kernel
theorem dX12_lux_49 : decode cX12_lux 49 = .ok (.getfield 19, 3) := by decide +kernel
theorem dX12_lux_52 : decode cX12_lux 52 = .ok (.iload_n 1, 1) := by decide +kernel
theorem dX12_lux_53 : decode cX12_lux 53 = .ok (.iaload, 1) := by decide +kernel
theorem dX12_lux_54 : decode cX12_lux 54 = .ok (.iconst 1, 1) := by decide +kernel
theorem dX12_lux_55 : decode cX12_lux 55 = .ok (.isub, 1) := by decide +kernel
theorem dX12_lux_56 : decode cX12_lux 56 = .ok (.imul, 1) := by decide +kernel
theorem dX12_lux_57 : decode cX12_lux 57 = .ok (.istore 4, 2) := by decide +kernel
theorem dX12_lux_59 : decode cX12_lux 59 = .ok (.bipush 12, 2) := by decide +kernel
theorem dX12_lux_61 : decode cX12_lux 61 = .ok (.iload_n 2, 1) := by decide +kernel
theorem dX12_lux_62 : decode cX12_lux 62 = .ok (.imul, 1) := by decide +kernel
theorem dX12_lux_63 : decode cX12_lux 63 = .ok (.iconst 2, 1) := by decide +kernel
theorem dX12_lux_64 : decode cX12_lux 64 = .ok (.iload_n 3, 1) := by decide +kernel
theorem dX12_lux_65 : decode cX12_lux 65 = .ok (.imul, 1) := by decide +kernel
theorem dX12_lux_66 : decode cX12_lux 66 = .ok (.iadd, 1) := by decide +kernel
theorem dX12_lux_67 : decode cX12_lux 67 = .ok (.istore 5, 2) := by decide +kernel
theorem dX12_lux_69 : decode cX12_lux 69 = .ok (.iload_n 2, 1) := by decide +kernel
theorem dX12_lux_70 : decode cX12_lux 70 = .ok (.iconst 1, 1) := by decide +kernel
theorem dX12_lux_71 : decode cX12_lux 71 = .ok (.if_icmp .ne 8, 3) := by decide +kernel
theorem dX12_lux_74 : decode cX12_lux 74 = .ok (.iload_n 3, 1) := by decide +kernel
theorem dX12_lux_75 : decode cX12_lux 75 = .ok (.iconst 1, 1) := by decide +kernel
theorem dX12_lux_76 : decode cX12_lux 76 = .ok (.if_icmp .eq 13, 3) := by decide +kernel
theorem dX12_lux_79 : decode cX12_lux 79 = .ok (.iload_n 2, 1) := by decide +kernel
theorem dX12_lux_80 : decode cX12_lux 80 = .ok (.iconst 2, 1) := by decide +kernel
theorem dX12_lux_81 : decode cX12_lux 81 = .ok (.if_icmp .ne 12, 3) := by decide +kernel
theorem dX12_lux_84 : decode cX12_lux 84 = .ok (.iload_n 3, 1) := by decide +kernel
theorem dX12_lux_85 : decode cX12_lux 85 = .ok (.iconst 1, 1) := by decide +kernel
theorem dX12_lux_86 : decode cX12_lux 86 = .ok (.if_icmp .eq 7, 3) := by decide +kernel
theorem dX12_lux_89 : decode cX12_lux 89 = .ok (.iconst 1, 1) := by decide +kernel
theorem dX12_lux_90 : decode cX12_lux 90 = .ok (.goto 4, 3) := by decide +kernel
theorem dX12_lux_93 : decode cX12_lux 93 = .ok (.iconst 0, 1) := by decide +kernel
theorem dX12_lux_94 : decode cX12_lux 94 = .ok (.istore 6, 2) := by decide +kernel
theorem dX12_lux_96 : decode cX12_lux 96 = .ok (.aload_n 0, 1) := by decide +kernel
theorem dX12_lux_97 : decode cX12_lux 97 = .ok (.getfield 16, 3) := by decide +kernel
theorem dX12_lux_100 : decode cX12_lux 100 = .ok (.iload 5, 2) := by decide +kernel
theorem dX12_lux_102 : decode cX12_lux 102 = .ok (.iload 6, 2) := by decide +kernel
theorem dX12_lux_104 : decode cX12_lux 104 = .ok (.ifCond .eq 10, 3) := by decide +kernel
theorem dX12_lux_107 : decode cX12_lux 107 = .ok (.iload 4, 2) := by decide +kernel
theorem dX12_lux_109 : decode cX12_lux 109 = .ok (.iconst 1, 1) := by decide +kernel
theorem dX12_lux_110 : decode cX12_lux 110 = .ok (.iadd, 1) := by decide +kernel
theorem dX12_lux_111 : decode cX12_lux 111 = .ok (.goto 7, 3) := by decide +kernel
theorem dX12_lux_114 : decode cX12_lux 114 = .ok (.iload 4, 2) := by decide +kernel
theorem dX12_lux_116 : decode cX12_lux 116 = .ok (.iconst 4, 1) := by decide +kernel
theorem dX12_lux_117 : decode cX12_lux 117 = .ok (.iadd, 1) := by decide +kernel
theorem dX12_lux_118 : decode cX12_lux 118 = .ok (.iastore, 1) := by decide +kernel
theorem dX12_lux_119 : decode cX12_lux 119 = .ok (.aload_n 0, 1) := by decide +kernel
theorem dX12_lux_120 : decode cX12_lux 120 = .ok (.getfield 16, 3) := by decide +kernel
theorem dX12_lux_123 : decode cX12_lux 123 = .ok (.iload 5, 2) := by decide +kernel
theorem dX12_lux_125 : decode cX12_lux 125 = .ok (.iconst 1, 1) := by decide +kernel
theorem dX12_lux_126 : decode cX12_lux 126 = .ok (.iadd, 1) := by decide +kernel
theorem dX12_lux_127 : decode cX12_lux 127 = .ok (.iload 6, 2) := by decide +kernel
theorem dX12_lux_129 : decode cX12_lux 129 = .ok (.ifCond .eq 10, 3) := by decide +kernel
theorem dX12_lux_132 : decode cX12_lux 132 = .ok (.iload 4, 2) := by decide +kernel
theorem dX12_lux_134 : decode cX12_lux 134 = .ok (.iconst 4, 1) := by decide +kernel
theorem dX12_lux_135 : decode cX12_lux 135 = .ok (.iadd, 1) := by decide +kernel
theorem dX12_lux_136 : decode cX12_lux 136 = .ok (.goto 7, 3) := by decide +kernel
theorem dX12_lux_139 : decode cX12_lux 139 = .ok (.iload 4, 2) := by decide +kernel
theorem dX12_lux_141 : decode cX12_lux 141 = .ok (.iconst 1, 1) := by decide +kernel
theorem dX12_lux_142 : decode cX12_lux 142 = .ok (.iadd, 1) := by decide +kernel
theorem dX12_lux_143 : decode cX12_lux 143 = .ok (.iastore, 1) := by decide +kernel
theorem dX12_lux_144 : decode cX12_lux 144 = .ok (.aload_n 0, 1) := by decide +kernel
theorem dX12_lux_145 : decode cX12_lux 145 = .ok (.getfield 16, 3) := by decide +kernel
theorem dX12_lux_148 : decode cX12_lux 148 = .ok (.iload 5, 2) := by decide +kernel
theorem dX12_lux_150 : decode cX12_lux 150 = .ok (.bipush 6, 2) := by decide +kernel
theorem dX12_lux_152 : decode cX12_lux 152 = .ok (.iadd, 1) := by decide +kernel
theorem dX12_lux_153 : decode cX12_lux 153 = .ok (.iload 4, 2) := by decide +kernel
theorem dX12_lux_155 : decode cX12_lux 155 = .ok (.iconst 2, 1) := by decide +kernel
theorem dX12_lux_156 : decode cX12_lux 156 = .ok (.iadd, 1) := by decide +kernel
theorem dX12_lux_157 : decode cX12_lux 157 = .ok (.iastore, 1) := by decide +kernel
theorem dX12_lux_158 : decode cX12_lux 158 = .ok (.aload_n 0, 1) := by decide +kernel
theorem dX12_lux_159 : decode cX12_lux 159 = .ok (.getfield 16, 3) := by decide +kernel
theorem dX12_lux_162 : decode cX12_lux 162 = .ok (.iload 5, 2) := by decide +kernel
theorem dX12_lux_164 : decode cX12_lux 164 = .ok (.bipush 7, 2) := by decide +kernel
theorem dX12_lux_166 : decode cX12_lux 166 = .ok (.iadd, 1) := by decide +kernel
theorem dX12_lux_167 : decode cX12_lux 167 = .ok (.iload 4, 2) := by decide +kernel
theorem dX12_lux_169 : decode cX12_lux 169 = .ok (.iconst 3, 1) := by decide +kernel
theorem dX12_lux_170 : decode cX12_lux 170 = .ok (.iadd, 1) := by decide +kernel
theorem dX12_lux_171 : decode cX12_lux 171 = .ok (.iastore, 1) := by decide +kernel
theorem dX12_lux_172 : decode cX12_lux 172 = .ok (.iinc 1 1, 3) := by decide +kernel
theorem dX12_lux_175 : decode cX12_lux 175 = .ok (.goto (-142), 3) := by decide +kernel
theorem dX12_lux_178 : decode cX12_lux 178 = .ok (.return_, 1) := by decide +kernel
theorem dX12_doesHold_0 : decode cX12_doesHold 0 = .ok (.iload_n 0, 1) := by decide +kernel
theorem dX12_doesHold_1 : decode cX12_doesHold 1 = .ok (.tableswitch 76 0 2 #[27, 40, 57], 27) := by decide +kernel
theorem dX12_doesHold_28 : decode cX12_doesHold 28 = .ok (.iload_n 1, 1) := by decide +kernel
theorem dX12_doesHold_29 : decode cX12_doesHold 29 = .ok (.iconst 2, 1) := by decide +kernel
theorem dX12_doesHold_30 : decode cX12_doesHold 30 = .ok (.irem, 1) := by decide +kernel
theorem dX12_doesHold_31 : decode cX12_doesHold 31 = .ok (.iconst 1, 1) := by decide +kernel
theorem dX12_doesHold_32 : decode cX12_doesHold 32 = .ok (.if_icmp .ne 7, 3) := by decide +kernel
theorem dX12_doesHold_35 : decode cX12_doesHold 35 = .ok (.iconst 1, 1) := by decide +kernel
theorem dX12_doesHold_36 : decode cX12_doesHold 36 = .ok (.goto 4, 3) := by decide +kernel
theorem dX12_doesHold_39 : decode cX12_doesHold 39 = .ok (.iconst 0, 1) := by decide +kernel
theorem dX12_doesHold_40 : decode cX12_doesHold 40 = .ok (.ireturn, 1) := by decide +kernel
theorem dX12_doesHold_41 : decode cX12_doesHold 41 = .ok (.iload_n 1, 1) := by decide +kernel
theorem dX12_doesHold_42 : decode cX12_doesHold 42 = .ok (.iconst 4, 1) := by decide +kernel
theorem dX12_doesHold_43 : decode cX12_doesHold 43 = .ok (.if_icmp .eq 9, 3) := by decide +kernel
theorem dX12_doesHold_46 : decode cX12_doesHold 46 = .ok (.iload_n 1, 1) := by decide +kernel
theorem dX12_doesHold_47 : decode cX12_doesHold 47 = .ok (.bipush 8, 2) := by decide +kernel
theorem dX12_doesHold_49 : decode cX12_doesHold 49 = .ok (.if_icmp .ne 7, 3) := by decide +kernel
theorem dX12_doesHold_52 : decode cX12_doesHold 52 = .ok (.iconst 1, 1) := by decide +kernel
theorem dX12_doesHold_53 : decode cX12_doesHold 53 = .ok (.goto 4, 3) := by decide +kernel
theorem dX12_doesHold_56 : decode cX12_doesHold 56 = .ok (.iconst 0, 1) := by decide +kernel
theorem dX12_doesHold_57 : decode cX12_doesHold 57 = .ok (.ireturn, 1) := by decide +kernel
theorem dX12_doesHold_58 : decode cX12_doesHold 58 = .ok (.iload_n 1, 1) := by decide +kernel
theorem dX12_doesHold_59 : decode cX12_doesHold 59 = .ok (.iconst 2, 1) := by decide +kernel
theorem dX12_doesHold_60 : decode cX12_doesHold 60 = .ok (.irem, 1) := by decide +kernel
theorem dX12_doesHold_61 : decode cX12_doesHold 61 = .ok (.iconst 1, 1) := by decide +kernel
theorem dX12_doesHold_62 : decode cX12_doesHold 62 = .ok (.if_icmp .ne 13, 3) := by decide +kernel
theorem dX12_doesHold_65 : decode cX12_doesHold 65 = .ok (.iload_n 1, 1) := by decide +kernel
theorem dX12_doesHold_66 : decode cX12_doesHold 66 = .ok (.iconst 3, 1) := by decide +kernel
theorem dX12_doesHold_67 : decode cX12_doesHold 67 = .ok (.irem, 1) := by decide +kernel
theorem dX12_doesHold_68 : decode cX12_doesHold 68 = .ok (.ifCond .eq 7, 3) := by decide +kernel
theorem dX12_doesHold_71 : decode cX12_doesHold 71 = .ok (.iconst 1, 1) := by decide +kernel
theorem dX12_doesHold_72 : decode cX12_doesHold 72 = .ok (.goto 4, 3) := by decide +kernel
theorem dX12_doesHold_75 : decode cX12_doesHold 75 = .ok (.iconst 0, 1) := by decide +kernel
theorem dX12_doesHold_76 : decode cX12_doesHold 76 = .ok (.ireturn, 1) := by decide +kernel
theorem dX12_doesHold_77 : decode cX12_doesHold 77 = .ok (.iload_n 1, 1) := by decide +kernel
theorem dX12_doesHold_78 : decode cX12_doesHold 78 = .ok (.bipush 6, 2) := by decide +kernel
theorem dX12_doesHold_80 : decode cX12_doesHold 80 = .ok (.if_icmp .ne 7, 3) := by decide +kernel
theorem dX12_doesHold_83 : decode cX12_doesHold 83 = .ok (.iconst 1, 1) := by decide +kernel
theorem dX12_doesHold_84 : decode cX12_doesHold 84 = .ok (.goto 4, 3) := by decide +kernel
theorem dX12_doesHold_87 : decode cX12_doesHold 87 = .ok (.iconst 0, 1) := by decide +kernel
theorem dX12_doesHold_88 : decode cX12_doesHold 88 = .ok (.ireturn, 1) := by decide +kernel
theorem dX12_make_0 : decode cX12_make 0 = .ok (.iload_n 1, 1) := by decide +kernel
theorem dX12_make_1 : decode cX12_make 1 = .ok (.iconst 0, 1) := by decide +kernel
theorem dX12_make_2 : decode cX12_make 2 = .ok (.iconst 3, 1) := by decide +kernel
theorem dX12_make_3 : decode cX12_make 3 = .ok (.invokestatic 55, 3) := by decide +kernel
theorem dX12_make_6 : decode cX12_make 6 = .ok (.ifCond .eq 17, 3) := by decide +kernel
theorem dX12_make_9 : decode cX12_make 9 = .ok (.iload_n 2, 1) := by decide +kernel
theorem dX12_make_10 : decode cX12_make 10 = .ok (.iconst 1, 1) := by decide +kernel
theorem dX12_make_11 : decode cX12_make 11 = .ok (.bipush 9, 2) := by decide +kernel
theorem dX12_make_13 : decode cX12_make 13 = .ok (.invokestatic 55, 3) := by decide +kernel
theorem dX12_make_16 : decode cX12_make 16 = .ok (.ifCond .eq 7, 3) := by decide +kernel
theorem dX12_make_19 : decode cX12_make 19 = .ok (.iconst 1, 1) := by decide +kernel
theorem dX12_make_20 : decode cX12_make 20 = .ok (.goto 4, 3) := by decide +kernel
theorem dX12_make_23 : decode cX12_make 23 = .ok (.iconst 0, 1) := by decide +kernel
theorem dX12_make_24 : decode cX12_make 24 = .ok (.istore_n 3, 1) := by decide +kernel
theorem dX12_make_25 : decode cX12_make 25 = .ok (.aload_n 0, 1) := by decide +kernel
theorem dX12_make_26 : decode cX12_make 26 = .ok (.iload_n 3, 1) := by decide +kernel
theorem dX12_make_27 : decode cX12_make 27 = .ok (.ifCond .ne 7, 3) := by decide +kernel
theorem dX12_make_30 : decode cX12_make 30 = .ok (.iconst 1, 1) := by decide +kernel
theorem dX12_make_31 : decode cX12_make 31 = .ok (.goto 25, 3) := by decide +kernel
theorem dX12_make_34 : decode cX12_make 34 = .ok (.iload_n 1, 1) := by decide +kernel
theorem dX12_make_35 : decode cX12_make 35 = .ok (.iload_n 2, 1) := by decide +kernel
theorem dX12_make_36 : decode cX12_make 36 = .ok (.invokestatic 84, 3) := by decide +kernel
theorem dX12_make_39 : decode cX12_make 39 = .ok (.ifCond .eq 12, 3) := by decide +kernel
theorem dX12_make_42 : decode cX12_make 42 = .ok (.aload_n 0, 1) := by decide +kernel
theorem dX12_make_43 : decode cX12_make 43 = .ok (.getfield 52, 3) := by decide +kernel
theorem dX12_make_46 : decode cX12_make 46 = .ok (.bipush 8, 2) := by decide +kernel
theorem dX12_make_48 : decode cX12_make 48 = .ok (.if_icmp .ne 7, 3) := by decide +kernel
theorem dX12_make_51 : decode cX12_make 51 = .ok (.iconst 2, 1) := by decide +kernel
theorem dX12_make_52 : decode cX12_make 52 = .ok (.goto 4, 3) := by decide +kernel
theorem dX12_make_55 : decode cX12_make 55 = .ok (.iconst 0, 1) := by decide +kernel
theorem dX12_make_56 : decode cX12_make 56 = .ok (.invokevirtual 63, 3) := by decide +kernel
theorem dX12_make_59 : decode cX12_make 59 = .ok (.ifCond .ne 5, 3) := by decide +kernel
theorem dX12_make_62 : decode cX12_make 62 = .ok (.iconst 0, 1) := by decide +kernel
theorem dX12_make_63 : decode cX12_make 63 = .ok (.ireturn, 1) := by decide +kernel
theorem dX12_make_64 : decode cX12_make 64 = .ok (.aload_n 0, 1) := by decide +kernel
theorem dX12_make_65 : decode cX12_make 65 = .ok (.invokevirtual 66, 3) := by decide +kernel
theorem dX12_make_68 : decode cX12_make 68 = .ok (.iload_n 1, 1) := by decide +kernel
theorem dX12_make_69 : decode cX12_make 69 = .ok (.ifCond .ne 11, 3) := by decide +kernel
theorem dX12_make_72 : decode cX12_make 72 = .ok (.aload_n 0, 1) := by decide +kernel
theorem dX12_make_73 : decode cX12_make 73 = .ok (.iload_n 2, 1) := by decide +kernel
theorem dX12_make_74 : decode cX12_make 74 = .ok (.invokevirtual 80, 3) := by decide +kernel
theorem dX12_make_77 : decode cX12_make 77 = .ok (.goto 33, 3) := by decide +kernel
theorem dX12_make_80 : decode cX12_make 80 = .ok (.iload_n 1, 1) := by decide +kernel
theorem dX12_make_81 : decode cX12_make 81 = .ok (.iconst 1, 1) := by decide +kernel
theorem dX12_make_82 : decode cX12_make 82 = .ok (.if_icmp .ne 11, 3) := by decide +kernel
theorem dX12_make_85 : decode cX12_make 85 = .ok (.aload_n 0, 1) := by decide +kernel
theorem dX12_make_86 : decode cX12_make 86 = .ok (.iload_n 2, 1) := by decide +kernel
theorem dX12_make_87 : decode cX12_make 87 = .ok (.invokevirtual 88, 3) := by decide +kernel
theorem dX12_make_90 : decode cX12_make 90 = .ok (.goto 20, 3) := by decide +kernel
theorem dX12_make_93 : decode cX12_make 93 = .ok (.iload_n 1, 1) := by decide +kernel
theorem dX12_make_94 : decode cX12_make 94 = .ok (.iconst 2, 1) := by decide +kernel
theorem dX12_make_95 : decode cX12_make 95 = .ok (.if_icmp .ne 11, 3) := by decide +kernel
theorem dX12_make_98 : decode cX12_make 98 = .ok (.aload_n 0, 1) := by decide +kernel
theorem dX12_make_99 : decode cX12_make 99 = .ok (.iload_n 2, 1) := by decide +kernel
theorem dX12_make_100 : decode cX12_make 100 = .ok (.invokevirtual 91, 3) := by decide +kernel
theorem dX12_make_103 : decode cX12_make 103 = .ok (.goto 7, 3) := by decide +kernel
theorem dX12_make_106 : decode cX12_make 106 = .ok (.aload_n 0, 1) := by decide +kernel
theorem dX12_make_107 : decode cX12_make 107 = .ok (.invokevirtual 94, 3) := by decide +kernel
theorem dX12_make_110 : decode cX12_make 110 = .ok (.aload_n 0, 1) := by decide +kernel
theorem dX12_make_111 : decode cX12_make 111 = .ok (.iload_n 2, 1) := by decide +kernel
theorem dX12_make_112 : decode cX12_make 112 = .ok (.invokevirtual 69, 3) := by decide +kernel
theorem dX12_make_115 : decode cX12_make 115 = .ok (.ireturn, 1) := by decide +kernel
theorem dX12_sumOf_0 : decode cX12_sumOf 0 = .ok (.aload_n 0, 1) := by decide +kernel
theorem dX12_sumOf_1 : decode cX12_sumOf 1 = .ok (.getfield 7, 3) := by decide +kernel
theorem dX12_sumOf_4 : decode cX12_sumOf 4 = .ok (.iload_n 1, 1) := by decide +kernel
theorem dX12_sumOf_5 : decode cX12_sumOf 5 = .ok (.iaload, 1) := by decide +kernel
theorem dX12_sumOf_6 : decode cX12_sumOf 6 = .ok (.istore 4, 2) := by decide +kernel
theorem dX12_sumOf_8 : decode cX12_sumOf 8 = .ok (.iconst 0, 1) := by decide +kernel
theorem dX12_sumOf_9 : decode cX12_sumOf 9 = .ok (.istore 5, 2) := by decide +kernel
theorem dX12_sumOf_11 : decode cX12_sumOf 11 = .ok (.iconst 0, 1) := by decide +kernel
theorem dX12_sumOf_12 : decode cX12_sumOf 12 = .ok (.istore 6, 2) := by decide +kernel
theorem dX12_sumOf_14 : decode cX12_sumOf 14 = .ok (.iload 6, 2) := by decide +kernel
theorem dX12_sumOf_16 : decode cX12_sumOf 16 = .ok (.iload 4, 2) := by decide +kernel
theorem dX12_sumOf_18 : decode cX12_sumOf 18 = .ok (.if_icmp .ge 80, 3) := by decide +kernel
theorem dX12_sumOf_21 : decode cX12_sumOf 21 = .ok (.iload_n 2, 1) := by decide +kernel
theorem dX12_sumOf_22 : decode cX12_sumOf 22 = .ok (.ifCond .ne 7, 3) := by decide +kernel
theorem dX12_sumOf_25 : decode cX12_sumOf 25 = .ok (.iload_n 3, 1) := by decide +kernel
theorem dX12_sumOf_26 : decode cX12_sumOf 26 = .ok (.goto 5, 3) := by decide +kernel
theorem dX12_sumOf_29 : decode cX12_sumOf 29 = .ok (.iload 6, 2) := by decide +kernel
theorem dX12_sumOf_31 : decode cX12_sumOf 31 = .ok (.istore 7, 2) := by decide +kernel
theorem dX12_sumOf_33 : decode cX12_sumOf 33 = .ok (.iload_n 2, 1) := by decide +kernel
theorem dX12_sumOf_34 : decode cX12_sumOf 34 = .ok (.ifCond .ne 8, 3) := by decide +kernel
theorem dX12_sumOf_37 : decode cX12_sumOf 37 = .ok (.iload 6, 2) := by decide +kernel
theorem dX12_sumOf_39 : decode cX12_sumOf 39 = .ok (.goto 37, 3) := by decide +kernel
theorem dX12_sumOf_42 : decode cX12_sumOf 42 = .ok (.iload_n 2, 1) := by decide +kernel
theorem dX12_sumOf_43 : decode cX12_sumOf 43 = .ok (.iconst 1, 1) := by decide +kernel
theorem dX12_sumOf_44 : decode cX12_sumOf 44 = .ok (.if_icmp .ne 7, 3) := by decide +kernel
theorem dX12_sumOf_47 : decode cX12_sumOf 47 = .ok (.iload_n 3, 1) := by decide +kernel
theorem dX12_sumOf_48 : decode cX12_sumOf 48 = .ok (.goto 28, 3) := by decide +kernel
theorem dX12_sumOf_51 : decode cX12_sumOf 51 = .ok (.iload_n 2, 1) := by decide +kernel
theorem dX12_sumOf_52 : decode cX12_sumOf 52 = .ok (.iconst 2, 1) := by decide +kernel
theorem dX12_sumOf_53 : decode cX12_sumOf 53 = .ok (.if_icmp .ne 13, 3) := by decide +kernel
theorem dX12_sumOf_56 : decode cX12_sumOf 56 = .ok (.iload_n 3, 1) := by decide +kernel
theorem dX12_sumOf_57 : decode cX12_sumOf 57 = .ok (.iload 6, 2) := by decide +kernel
theorem dX12_sumOf_59 : decode cX12_sumOf 59 = .ok (.iadd, 1) := by decide +kernel
theorem dX12_sumOf_60 : decode cX12_sumOf 60 = .ok (.iload 4, 2) := by decide +kernel
theorem dX12_sumOf_62 : decode cX12_sumOf 62 = .ok (.irem, 1) := by decide +kernel
theorem dX12_sumOf_63 : decode cX12_sumOf 63 = .ok (.goto 13, 3) := by decide +kernel
theorem dX12_sumOf_66 : decode cX12_sumOf 66 = .ok (.iload_n 3, 1) := by decide +kernel
theorem dX12_sumOf_67 : decode cX12_sumOf 67 = .ok (.iload 6, 2) := by decide +kernel
theorem dX12_sumOf_69 : decode cX12_sumOf 69 = .ok (.isub, 1) := by decide +kernel
theorem dX12_sumOf_70 : decode cX12_sumOf 70 = .ok (.iload 4, 2) := by decide +kernel
theorem dX12_sumOf_72 : decode cX12_sumOf 72 = .ok (.iadd, 1) := by decide +kernel
theorem dX12_sumOf_73 : decode cX12_sumOf 73 = .ok (.iload 4, 2) := by decide +kernel
theorem dX12_sumOf_75 : decode cX12_sumOf 75 = .ok (.irem, 1) := by decide +kernel
theorem dX12_sumOf_76 : decode cX12_sumOf 76 = .ok (.istore 8, 2) := by decide +kernel
theorem dX12_sumOf_78 : decode cX12_sumOf 78 = .ok (.iload 5, 2) := by decide +kernel
theorem dX12_sumOf_80 : decode cX12_sumOf 80 = .ok (.aload_n 0, 1) := by decide +kernel
theorem dX12_sumOf_81 : decode cX12_sumOf 81 = .ok (.iload_n 1, 1) := by decide +kernel
theorem dX12_sumOf_82 : decode cX12_sumOf 82 = .ok (.iload 7, 2) := by decide +kernel
theorem dX12_sumOf_84 : decode cX12_sumOf 84 = .ok (.iload 8, 2) := by decide +kernel
theorem dX12_sumOf_86 : decode cX12_sumOf 86 = .ok (.invokevirtual 76, 3) := by decide +kernel
theorem dX12_sumOf_89 : decode cX12_sumOf 89 = .ok (.iadd, 1) := by decide +kernel
theorem dX12_sumOf_90 : decode cX12_sumOf 90 = .ok (.istore 5, 2) := by decide +kernel
theorem dX12_sumOf_92 : decode cX12_sumOf 92 = .ok (.iinc 6 1, 3) := by decide +kernel
theorem dX12_sumOf_95 : decode cX12_sumOf 95 = .ok (.goto (-81), 3) := by decide +kernel
theorem dX12_sumOf_98 : decode cX12_sumOf 98 = .ok (.iload 5, 2) := by decide +kernel
theorem dX12_sumOf_100 : decode cX12_sumOf 100 = .ok (.ireturn, 1) := by decide +kernel
theorem dX12_squaresOf_0 : decode cX12_squaresOf 0 = .ok (.iconst 0, 1) := by decide +kernel
theorem dX12_squaresOf_1 : decode cX12_squaresOf 1 = .ok (.istore 4, 2) := by decide +kernel
theorem dX12_squaresOf_3 : decode cX12_squaresOf 3 = .ok (.iconst 0, 1) := by decide +kernel
theorem dX12_squaresOf_4 : decode cX12_squaresOf 4 = .ok (.istore 5, 2) := by decide +kernel
theorem dX12_squaresOf_6 : decode cX12_squaresOf 6 = .ok (.iload 5, 2) := by decide +kernel
theorem dX12_squaresOf_8 : decode cX12_squaresOf 8 = .ok (.aload_n 0, 1) := by decide +kernel
theorem dX12_squaresOf_9 : decode cX12_squaresOf 9 = .ok (.getfield 7, 3) := by decide +kernel
theorem dX12_squaresOf_12 : decode cX12_squaresOf 12 = .ok (.iload_n 1, 1) := by decide +kernel
theorem dX12_squaresOf_13 : decode cX12_squaresOf 13 = .ok (.iaload, 1) := by decide +kernel
theorem dX12_squaresOf_14 : decode cX12_squaresOf 14 = .ok (.if_icmp .ge 44, 3) := by decide +kernel
theorem dX12_squaresOf_17 : decode cX12_squaresOf 17 = .ok (.iload_n 2, 1) := by decide +kernel
theorem dX12_squaresOf_18 : decode cX12_squaresOf 18 = .ok (.ifCond .ne 14, 3) := by decide +kernel
theorem dX12_squaresOf_21 : decode cX12_squaresOf 21 = .ok (.aload_n 0, 1) := by decide +kernel
theorem dX12_squaresOf_22 : decode cX12_squaresOf 22 = .ok (.iload_n 1, 1) := by decide +kernel
theorem dX12_squaresOf_23 : decode cX12_squaresOf 23 = .ok (.iload_n 3, 1) := by decide +kernel
theorem dX12_squaresOf_24 : decode cX12_squaresOf 24 = .ok (.iload 5, 2) := by decide +kernel
theorem dX12_squaresOf_26 : decode cX12_squaresOf 26 = .ok (.invokevirtual 76, 3) := by decide +kernel
theorem dX12_squaresOf_29 : decode cX12_squaresOf 29 = .ok (.goto 11, 3) := by decide +kernel
theorem dX12_squaresOf_32 : decode cX12_squaresOf 32 = .ok (.aload_n 0, 1) := by decide +kernel
theorem dX12_squaresOf_33 : decode cX12_squaresOf 33 = .ok (.iload_n 1, 1) := by decide +kernel
theorem dX12_squaresOf_34 : decode cX12_squaresOf 34 = .ok (.iload 5, 2) := by decide +kernel
theorem dX12_squaresOf_36 : decode cX12_squaresOf 36 = .ok (.iload_n 3, 1) := by decide +kernel
theorem dX12_squaresOf_37 : decode cX12_squaresOf 37 = .ok (.invokevirtual 76, 3) := by decide +kernel
theorem dX12_squaresOf_40 : decode cX12_squaresOf 40 = .ok (.istore 6, 2) := by decide +kernel
theorem dX12_squaresOf_42 : decode cX12_squaresOf 42 = .ok (.iload 4, 2) := by decide +kernel
theorem dX12_squaresOf_44 : decode cX12_squaresOf 44 = .ok (.iload 6, 2) := by decide +kernel
theorem dX12_squaresOf_46 : decode cX12_squaresOf 46 = .ok (.iload 6, 2) := by decide +kernel
theorem dX12_squaresOf_48 : decode cX12_squaresOf 48 = .ok (.imul, 1) := by decide +kernel
theorem dX12_squaresOf_49 : decode cX12_squaresOf 49 = .ok (.iadd, 1) := by decide +kernel
theorem dX12_squaresOf_50 : decode cX12_squaresOf 50 = .ok (.istore 4, 2) := by decide +kernel
theorem dX12_squaresOf_52 : decode cX12_squaresOf 52 = .ok (.iinc 5 1, 3) := by decide +kernel
theorem dX12_squaresOf_55 : decode cX12_squaresOf 55 = .ok (.goto (-49), 3) := by decide +kernel
theorem dX12_squaresOf_58 : decode cX12_squaresOf 58 = .ok (.iload 4, 2) := by decide +kernel
theorem dX12_squaresOf_60 : decode cX12_squaresOf 60 = .ok (.ireturn, 1) := by decide +kernel
theorem dX12_areAlike_0 : decode cX12_areAlike 0 = .ok (.iconst 1, 1) := by decide +kernel
theorem dX12_areAlike_1 : decode cX12_areAlike 1 = .ok (.istore_n 3, 1) := by decide +kernel
theorem dX12_areAlike_2 : decode cX12_areAlike 2 = .ok (.iconst 0, 1) := by decide +kernel
theorem dX12_areAlike_3 : decode cX12_areAlike 3 = .ok (.istore 4, 2) := by decide +kernel
theorem dX12_areAlike_5 : decode cX12_areAlike 5 = .ok (.iload 4, 2) := by decide +kernel
theorem dX12_areAlike_7 : decode cX12_areAlike 7 = .ok (.aload_n 0, 1) := by decide +kernel
theorem dX12_areAlike_8 : decode cX12_areAlike 8 = .ok (.getfield 7, 3) := by decide +kernel
theorem dX12_areAlike_11 : decode cX12_areAlike 11 = .ok (.iload_n 1, 1) := by decide +kernel
theorem dX12_areAlike_12 : decode cX12_areAlike 12 = .ok (.iaload, 1) := by decide +kernel
theorem dX12_areAlike_13 : decode cX12_areAlike 13 = .ok (.if_icmp .ge 37, 3) := by decide +kernel
theorem dX12_areAlike_16 : decode cX12_areAlike 16 = .ok (.iload_n 3, 1) := by decide +kernel
theorem dX12_areAlike_17 : decode cX12_areAlike 17 = .ok (.ifCond .eq 25, 3) := by decide +kernel
theorem dX12_areAlike_20 : decode cX12_areAlike 20 = .ok (.aload_n 0, 1) := by decide +kernel
theorem dX12_areAlike_21 : decode cX12_areAlike 21 = .ok (.iload_n 1, 1) := by decide +kernel
theorem dX12_areAlike_22 : decode cX12_areAlike 22 = .ok (.iload_n 2, 1) := by decide +kernel
theorem dX12_areAlike_23 : decode cX12_areAlike 23 = .ok (.iload 4, 2) := by decide +kernel
theorem dX12_areAlike_25 : decode cX12_areAlike 25 = .ok (.invokevirtual 97, 3) := by decide +kernel
theorem dX12_areAlike_28 : decode cX12_areAlike 28 = .ok (.aload_n 0, 1) := by decide +kernel
theorem dX12_areAlike_29 : decode cX12_areAlike 29 = .ok (.iload_n 1, 1) := by decide +kernel
theorem dX12_areAlike_30 : decode cX12_areAlike 30 = .ok (.iconst 0, 1) := by decide +kernel
theorem dX12_areAlike_31 : decode cX12_areAlike 31 = .ok (.iconst 0, 1) := by decide +kernel
theorem dX12_areAlike_32 : decode cX12_areAlike 32 = .ok (.invokevirtual 97, 3) := by decide +kernel
theorem dX12_areAlike_35 : decode cX12_areAlike 35 = .ok (.if_icmp .ne 7, 3) := by decide +kernel
theorem dX12_areAlike_38 : decode cX12_areAlike 38 = .ok (.iconst 1, 1) := by decide +kernel
theorem dX12_areAlike_39 : decode cX12_areAlike 39 = .ok (.goto 4, 3) := by decide +kernel
theorem dX12_areAlike_42 : decode cX12_areAlike 42 = .ok (.iconst 0, 1) := by decide +kernel
theorem dX12_areAlike_43 : decode cX12_areAlike 43 = .ok (.istore_n 3, 1) := by decide +kernel
theorem dX12_areAlike_44 : decode cX12_areAlike 44 = .ok (.iinc 4 1, 3) := by decide +kernel
theorem dX12_areAlike_47 : decode cX12_areAlike 47 = .ok (.goto (-42), 3) := by decide +kernel
theorem dX12_areAlike_50 : decode cX12_areAlike 50 = .ok (.iload_n 3, 1) := by decide +kernel
theorem dX12_areAlike_51 : decode cX12_areAlike 51 = .ok (.ireturn, 1) := by decide +kernel
theorem dX12_areDiagonals_0 : decode cX12_areDiagonals 0 = .ok (.aload_n 0, 1) := by decide +kernel
theorem dX12_areDiagonals_1 : decode cX12_areDiagonals 1 = .ok (.iload_n 1, 1) := by decide +kernel
theorem dX12_areDiagonals_2 : decode cX12_areDiagonals 2 = .ok (.iconst 0, 1) := by decide +kernel
theorem dX12_areDiagonals_3 : decode cX12_areDiagonals 3 = .ok (.iconst 0, 1) := by decide +kernel
theorem dX12_areDiagonals_4 : decode cX12_areDiagonals 4 = .ok (.invokevirtual 97, 3) := by decide +kernel
theorem dX12_areDiagonals_7 : decode cX12_areDiagonals 7 = .ok (.istore_n 2, 1) := by decide +kernel
theorem dX12_areDiagonals_8 : decode cX12_areDiagonals 8 = .ok (.aload_n 0, 1) := by decide +kernel
theorem dX12_areDiagonals_9 : decode cX12_areDiagonals 9 = .ok (.iload_n 1, 1) := by decide +kernel
theorem dX12_areDiagonals_10 : decode cX12_areDiagonals 10 = .ok (.iconst 2, 1) := by decide +kernel
theorem dX12_areDiagonals_11 : decode cX12_areDiagonals 11 = .ok (.iconst 0, 1) := by decide +kernel
theorem dX12_areDiagonals_12 : decode cX12_areDiagonals 12 = .ok (.invokevirtual 97, 3) := by decide +kernel
theorem dX12_areDiagonals_15 : decode cX12_areDiagonals 15 = .ok (.iload_n 2, 1) := by decide +kernel
theorem dX12_areDiagonals_16 : decode cX12_areDiagonals 16 = .ok (.if_icmp .ne 25, 3) := by decide +kernel
theorem dX12_areDiagonals_19 : decode cX12_areDiagonals 19 = .ok (.aload_n 0, 1) := by decide +kernel
theorem dX12_areDiagonals_20 : decode cX12_areDiagonals 20 = .ok (.iload_n 1, 1) := by decide +kernel
theorem dX12_areDiagonals_21 : decode cX12_areDiagonals 21 = .ok (.iconst 3, 1) := by decide +kernel
theorem dX12_areDiagonals_22 : decode cX12_areDiagonals 22 = .ok (.aload_n 0, 1) := by decide +kernel
theorem dX12_areDiagonals_23 : decode cX12_areDiagonals 23 = .ok (.getfield 7, 3) := by decide +kernel
theorem dX12_areDiagonals_26 : decode cX12_areDiagonals 26 = .ok (.iload_n 1, 1) := by decide +kernel
theorem dX12_areDiagonals_27 : decode cX12_areDiagonals 27 = .ok (.iaload, 1) := by decide +kernel
theorem dX12_areDiagonals_28 : decode cX12_areDiagonals 28 = .ok (.iconst 1, 1) := by decide +kernel
theorem dX12_areDiagonals_29 : decode cX12_areDiagonals 29 = .ok (.isub, 1) := by decide +kernel
theorem dX12_areDiagonals_30 : decode cX12_areDiagonals 30 = .ok (.invokevirtual 97, 3) := by decide +kernel
theorem dX12_areDiagonals_33 : decode cX12_areDiagonals 33 = .ok (.iload_n 2, 1) := by decide +kernel
theorem dX12_areDiagonals_34 : decode cX12_areDiagonals 34 = .ok (.if_icmp .ne 7, 3) := by decide +kernel
theorem dX12_areDiagonals_37 : decode cX12_areDiagonals 37 = .ok (.iconst 1, 1) := by decide +kernel
theorem dX12_areDiagonals_38 : decode cX12_areDiagonals 38 = .ok (.goto 4, 3) := by decide +kernel
theorem dX12_areDiagonals_41 : decode cX12_areDiagonals 41 = .ok (.iconst 0, 1) := by decide +kernel
theorem dX12_areDiagonals_42 : decode cX12_areDiagonals 42 = .ok (.ireturn, 1) := by decide +kernel
theorem dX12_areOpposite_0 : decode cX12_areOpposite 0 = .ok (.aload_n 0, 1) := by decide +kernel
theorem dX12_areOpposite_1 : decode cX12_areOpposite 1 = .ok (.iload_n 1, 1) := by decide +kernel
theorem dX12_areOpposite_2 : decode cX12_areOpposite 2 = .ok (.invokevirtual 100, 3) := by decide +kernel
theorem dX12_areOpposite_5 : decode cX12_areOpposite 5 = .ok (.iconst 1, 1) := by decide +kernel
theorem dX12_areOpposite_6 : decode cX12_areOpposite 6 = .ok (.isub, 1) := by decide +kernel
theorem dX12_areOpposite_7 : decode cX12_areOpposite 7 = .ok (.istore_n 2, 1) := by decide +kernel
theorem dX12_areOpposite_8 : decode cX12_areOpposite 8 = .ok (.iconst 1, 1) := by decide +kernel
theorem dX12_areOpposite_9 : decode cX12_areOpposite 9 = .ok (.istore_n 3, 1) := by decide +kernel
theorem dX12_areOpposite_10 : decode cX12_areOpposite 10 = .ok (.iconst 0, 1) := by decide +kernel
theorem dX12_areOpposite_11 : decode cX12_areOpposite 11 = .ok (.istore 4, 2) := by decide +kernel
theorem dX12_areOpposite_13 : decode cX12_areOpposite 13 = .ok (.iload 4, 2) := by decide +kernel
theorem dX12_areOpposite_15 : decode cX12_areOpposite 15 = .ok (.iload_n 2, 1) := by decide +kernel
theorem dX12_areOpposite_16 : decode cX12_areOpposite 16 = .ok (.if_icmp .gt 70, 3) := by decide +kernel
theorem dX12_areOpposite_19 : decode cX12_areOpposite 19 = .ok (.iload_n 3, 1) := by decide +kernel
theorem dX12_areOpposite_20 : decode cX12_areOpposite 20 = .ok (.ifCond .eq 58, 3) := by decide +kernel
theorem dX12_areOpposite_23 : decode cX12_areOpposite 23 = .ok (.aload_n 0, 1) := by decide +kernel
theorem dX12_areOpposite_24 : decode cX12_areOpposite 24 = .ok (.getfield 13, 3) := by decide +kernel
theorem dX12_areOpposite_27 : decode cX12_areOpposite 27 = .ok (.bipush 81, 2) := by decide +kernel
theorem dX12_areOpposite_29 : decode cX12_areOpposite 29 = .ok (.iload_n 1, 1) := by decide +kernel
theorem dX12_areOpposite_30 : decode cX12_areOpposite 30 = .ok (.imul, 1) := by decide +kernel
theorem dX12_areOpposite_31 : decode cX12_areOpposite 31 = .ok (.iload 4, 2) := by decide +kernel
theorem dX12_areOpposite_33 : decode cX12_areOpposite 33 = .ok (.iadd, 1) := by decide +kernel
theorem dX12_areOpposite_34 : decode cX12_areOpposite 34 = .ok (.iaload, 1) := by decide +kernel
theorem dX12_areOpposite_35 : decode cX12_areOpposite 35 = .ok (.aload_n 0, 1) := by decide +kernel
theorem dX12_areOpposite_36 : decode cX12_areOpposite 36 = .ok (.getfield 13, 3) := by decide +kernel
theorem dX12_areOpposite_39 : decode cX12_areOpposite 39 = .ok (.bipush 81, 2) := by decide +kernel
theorem dX12_areOpposite_41 : decode cX12_areOpposite 41 = .ok (.iload_n 1, 1) := by decide +kernel
theorem dX12_areOpposite_42 : decode cX12_areOpposite 42 = .ok (.imul, 1) := by decide +kernel
theorem dX12_areOpposite_43 : decode cX12_areOpposite 43 = .ok (.iload_n 2, 1) := by decide +kernel
theorem dX12_areOpposite_44 : decode cX12_areOpposite 44 = .ok (.iadd, 1) := by decide +kernel
theorem dX12_areOpposite_45 : decode cX12_areOpposite 45 = .ok (.iload 4, 2) := by decide +kernel
theorem dX12_areOpposite_47 : decode cX12_areOpposite 47 = .ok (.isub, 1) := by decide +kernel
theorem dX12_areOpposite_48 : decode cX12_areOpposite 48 = .ok (.iaload, 1) := by decide +kernel
theorem dX12_areOpposite_49 : decode cX12_areOpposite 49 = .ok (.iadd, 1) := by decide +kernel
theorem dX12_areOpposite_50 : decode cX12_areOpposite 50 = .ok (.aload_n 0, 1) := by decide +kernel
theorem dX12_areOpposite_51 : decode cX12_areOpposite 51 = .ok (.getfield 13, 3) := by decide +kernel
theorem dX12_areOpposite_54 : decode cX12_areOpposite 54 = .ok (.bipush 81, 2) := by decide +kernel
theorem dX12_areOpposite_56 : decode cX12_areOpposite 56 = .ok (.iload_n 1, 1) := by decide +kernel
theorem dX12_areOpposite_57 : decode cX12_areOpposite 57 = .ok (.imul, 1) := by decide +kernel
theorem dX12_areOpposite_58 : decode cX12_areOpposite 58 = .ok (.iaload, 1) := by decide +kernel
theorem dX12_areOpposite_59 : decode cX12_areOpposite 59 = .ok (.aload_n 0, 1) := by decide +kernel
theorem dX12_areOpposite_60 : decode cX12_areOpposite 60 = .ok (.getfield 13, 3) := by decide +kernel
theorem dX12_areOpposite_63 : decode cX12_areOpposite 63 = .ok (.bipush 81, 2) := by decide +kernel
theorem dX12_areOpposite_65 : decode cX12_areOpposite 65 = .ok (.iload_n 1, 1) := by decide +kernel
theorem dX12_areOpposite_66 : decode cX12_areOpposite 66 = .ok (.imul, 1) := by decide +kernel
theorem dX12_areOpposite_67 : decode cX12_areOpposite 67 = .ok (.iload_n 2, 1) := by decide +kernel
theorem dX12_areOpposite_68 : decode cX12_areOpposite 68 = .ok (.iadd, 1) := by decide +kernel
theorem dX12_areOpposite_69 : decode cX12_areOpposite 69 = .ok (.iaload, 1) := by decide +kernel
theorem dX12_areOpposite_70 : decode cX12_areOpposite 70 = .ok (.iadd, 1) := by decide +kernel
theorem dX12_areOpposite_71 : decode cX12_areOpposite 71 = .ok (.if_icmp .ne 7, 3) := by decide +kernel
theorem dX12_areOpposite_74 : decode cX12_areOpposite 74 = .ok (.iconst 1, 1) := by decide +kernel
theorem dX12_areOpposite_75 : decode cX12_areOpposite 75 = .ok (.goto 4, 3) := by decide +kernel
theorem dX12_areOpposite_78 : decode cX12_areOpposite 78 = .ok (.iconst 0, 1) := by decide +kernel
theorem dX12_areOpposite_79 : decode cX12_areOpposite 79 = .ok (.istore_n 3, 1) := by decide +kernel
theorem dX12_areOpposite_80 : decode cX12_areOpposite 80 = .ok (.iinc 4 1, 3) := by decide +kernel
theorem dX12_areOpposite_83 : decode cX12_areOpposite 83 = .ok (.goto (-70), 3) := by decide +kernel
theorem dX12_areOpposite_86 : decode cX12_areOpposite 86 = .ok (.iload_n 3, 1) := by decide +kernel
theorem dX12_areOpposite_87 : decode cX12_areOpposite 87 = .ok (.ireturn, 1) := by decide +kernel
theorem dX12_isNormal_0 : decode cX12_isNormal 0 = .ok (.iconst 1, 1) := by decide +kernel
theorem dX12_isNormal_1 : decode cX12_isNormal 1 = .ok (.istore_n 2, 1) := by decide +kernel
theorem dX12_isNormal_2 : decode cX12_isNormal 2 = .ok (.iconst 1, 1) := by decide +kernel
theorem dX12_isNormal_3 : decode cX12_isNormal 3 = .ok (.istore_n 3, 1) := by decide +kernel
theorem dX12_isNormal_4 : decode cX12_isNormal 4 = .ok (.iload_n 3, 1) := by decide +kernel
theorem dX12_isNormal_5 : decode cX12_isNormal 5 = .ok (.aload_n 0, 1) := by decide +kernel
theorem dX12_isNormal_6 : decode cX12_isNormal 6 = .ok (.iload_n 1, 1) := by decide +kernel
theorem dX12_isNormal_7 : decode cX12_isNormal 7 = .ok (.invokevirtual 100, 3) := by decide +kernel
theorem dX12_isNormal_10 : decode cX12_isNormal 10 = .ok (.if_icmp .gt 73, 3) := by decide +kernel
theorem dX12_isNormal_13 : decode cX12_isNormal 13 = .ok (.iconst 0, 1) := by decide +kernel
theorem dX12_isNormal_14 : decode cX12_isNormal 14 = .ok (.istore 4, 2) := by decide +kernel
theorem dX12_isNormal_16 : decode cX12_isNormal 16 = .ok (.iconst 0, 1) := by decide +kernel
theorem dX12_isNormal_17 : decode cX12_isNormal 17 = .ok (.istore 5, 2) := by decide +kernel
theorem dX12_isNormal_19 : decode cX12_isNormal 19 = .ok (.iload 5, 2) := by decide +kernel
theorem dX12_isNormal_21 : decode cX12_isNormal 21 = .ok (.aload_n 0, 1) := by decide +kernel
theorem dX12_isNormal_22 : decode cX12_isNormal 22 = .ok (.iload_n 1, 1) := by decide +kernel
theorem dX12_isNormal_23 : decode cX12_isNormal 23 = .ok (.invokevirtual 100, 3) := by decide +kernel
theorem dX12_isNormal_26 : decode cX12_isNormal 26 = .ok (.if_icmp .ge 35, 3) := by decide +kernel
theorem dX12_isNormal_29 : decode cX12_isNormal 29 = .ok (.iload 4, 2) := by decide +kernel
theorem dX12_isNormal_31 : decode cX12_isNormal 31 = .ok (.aload_n 0, 1) := by decide +kernel
theorem dX12_isNormal_32 : decode cX12_isNormal 32 = .ok (.getfield 13, 3) := by decide +kernel
theorem dX12_isNormal_35 : decode cX12_isNormal 35 = .ok (.bipush 81, 2) := by decide +kernel
theorem dX12_isNormal_37 : decode cX12_isNormal 37 = .ok (.iload_n 1, 1) := by decide +kernel
theorem dX12_isNormal_38 : decode cX12_isNormal 38 = .ok (.imul, 1) := by decide +kernel
theorem dX12_isNormal_39 : decode cX12_isNormal 39 = .ok (.iload 5, 2) := by decide +kernel
theorem dX12_isNormal_41 : decode cX12_isNormal 41 = .ok (.iadd, 1) := by decide +kernel
theorem dX12_isNormal_42 : decode cX12_isNormal 42 = .ok (.iaload, 1) := by decide +kernel
theorem dX12_isNormal_43 : decode cX12_isNormal 43 = .ok (.iload_n 3, 1) := by decide +kernel
theorem dX12_isNormal_44 : decode cX12_isNormal 44 = .ok (.if_icmp .ne 7, 3) := by decide +kernel
theorem dX12_isNormal_47 : decode cX12_isNormal 47 = .ok (.iconst 1, 1) := by decide +kernel
theorem dX12_isNormal_48 : decode cX12_isNormal 48 = .ok (.goto 4, 3) := by decide +kernel
theorem dX12_isNormal_51 : decode cX12_isNormal 51 = .ok (.iconst 0, 1) := by decide +kernel
theorem dX12_isNormal_52 : decode cX12_isNormal 52 = .ok (.iadd, 1) := by decide +kernel
theorem dX12_isNormal_53 : decode cX12_isNormal 53 = .ok (.istore 4, 2) := by decide +kernel
theorem dX12_isNormal_55 : decode cX12_isNormal 55 = .ok (.iinc 5 1, 3) := by decide +kernel
theorem dX12_isNormal_58 : decode cX12_isNormal 58 = .ok (.goto (-39), 3) := by decide +kernel
theorem dX12_isNormal_61 : decode cX12_isNormal 61 = .ok (.iload_n 2, 1) := by decide +kernel
theorem dX12_isNormal_62 : decode cX12_isNormal 62 = .ok (.ifCond .eq 13, 3) := by decide +kernel
theorem dX12_isNormal_65 : decode cX12_isNormal 65 = .ok (.iload 4, 2) := by decide +kernel
theorem dX12_isNormal_67 : decode cX12_isNormal 67 = .ok (.iconst 1, 1) := by decide +kernel
theorem dX12_isNormal_68 : decode cX12_isNormal 68 = .ok (.if_icmp .ne 7, 3) := by decide +kernel
theorem dX12_isNormal_71 : decode cX12_isNormal 71 = .ok (.iconst 1, 1) := by decide +kernel
theorem dX12_isNormal_72 : decode cX12_isNormal 72 = .ok (.goto 4, 3) := by decide +kernel
theorem dX12_isNormal_75 : decode cX12_isNormal 75 = .ok (.iconst 0, 1) := by decide +kernel
theorem dX12_isNormal_76 : decode cX12_isNormal 76 = .ok (.istore_n 2, 1) := by decide +kernel
theorem dX12_isNormal_77 : decode cX12_isNormal 77 = .ok (.iinc 3 1, 3) := by decide +kernel
theorem dX12_isNormal_80 : decode cX12_isNormal 80 = .ok (.goto (-76), 3) := by decide +kernel
theorem dX12_isNormal_83 : decode cX12_isNormal 83 = .ok (.iload_n 2, 1) := by decide +kernel
theorem dX12_isNormal_84 : decode cX12_isNormal 84 = .ok (.ireturn, 1) := by decide +kernel
theorem dX12_lawsOf_0 : decode cX12_lawsOf 0 = .ok (.iconst 1, 1) := by decide +kernel
theorem dX12_lawsOf_1 : decode cX12_lawsOf 1 = .ok (.istore_n 2, 1) := by decide +kernel
theorem dX12_lawsOf_2 : decode cX12_lawsOf 2 = .ok (.iconst 1, 1) := by decide +kernel
theorem dX12_lawsOf_3 : decode cX12_lawsOf 3 = .ok (.istore_n 3, 1) := by decide +kernel
theorem dX12_lawsOf_4 : decode cX12_lawsOf 4 = .ok (.iconst 0, 1) := by decide +kernel
theorem dX12_lawsOf_5 : decode cX12_lawsOf 5 = .ok (.istore 4, 2) := by decide +kernel
theorem dX12_lawsOf_7 : decode cX12_lawsOf 7 = .ok (.iload 4, 2) := by decide +kernel
theorem dX12_lawsOf_9 : decode cX12_lawsOf 9 = .ok (.aload_n 0, 1) := by decide +kernel
theorem dX12_lawsOf_10 : decode cX12_lawsOf 10 = .ok (.iload_n 1, 1) := by decide +kernel
theorem dX12_lawsOf_11 : decode cX12_lawsOf 11 = .ok (.invokevirtual 100, 3) := by decide +kernel
theorem dX12_lawsOf_14 : decode cX12_lawsOf 14 = .ok (.if_icmp .ge 34, 3) := by decide +kernel
theorem dX12_lawsOf_17 : decode cX12_lawsOf 17 = .ok (.iload_n 2, 1) := by decide +kernel
theorem dX12_lawsOf_18 : decode cX12_lawsOf 18 = .ok (.ifCond .eq 22, 3) := by decide +kernel
theorem dX12_lawsOf_21 : decode cX12_lawsOf 21 = .ok (.aload_n 0, 1) := by decide +kernel
theorem dX12_lawsOf_22 : decode cX12_lawsOf 22 = .ok (.getfield 13, 3) := by decide +kernel
theorem dX12_lawsOf_25 : decode cX12_lawsOf 25 = .ok (.bipush 81, 2) := by decide +kernel
theorem dX12_lawsOf_27 : decode cX12_lawsOf 27 = .ok (.iload_n 1, 1) := by decide +kernel
theorem dX12_lawsOf_28 : decode cX12_lawsOf 28 = .ok (.imul, 1) := by decide +kernel
theorem dX12_lawsOf_29 : decode cX12_lawsOf 29 = .ok (.iload 4, 2) := by decide +kernel
theorem dX12_lawsOf_31 : decode cX12_lawsOf 31 = .ok (.iadd, 1) := by decide +kernel
theorem dX12_lawsOf_32 : decode cX12_lawsOf 32 = .ok (.iaload, 1) := by decide +kernel
theorem dX12_lawsOf_33 : decode cX12_lawsOf 33 = .ok (.ifCond .le 7, 3) := by decide +kernel
theorem dX12_lawsOf_36 : decode cX12_lawsOf 36 = .ok (.iconst 1, 1) := by decide +kernel
theorem dX12_lawsOf_37 : decode cX12_lawsOf 37 = .ok (.goto 4, 3) := by decide +kernel
theorem dX12_lawsOf_40 : decode cX12_lawsOf 40 = .ok (.iconst 0, 1) := by decide +kernel
theorem dX12_lawsOf_41 : decode cX12_lawsOf 41 = .ok (.istore_n 2, 1) := by decide +kernel
theorem dX12_lawsOf_42 : decode cX12_lawsOf 42 = .ok (.iinc 4 1, 3) := by decide +kernel
theorem dX12_lawsOf_45 : decode cX12_lawsOf 45 = .ok (.goto (-38), 3) := by decide +kernel
theorem dX12_lawsOf_48 : decode cX12_lawsOf 48 = .ok (.iconst 0, 1) := by decide +kernel
theorem dX12_lawsOf_49 : decode cX12_lawsOf 49 = .ok (.istore 4, 2) := by decide +kernel
theorem dX12_lawsOf_51 : decode cX12_lawsOf 51 = .ok (.iload 4, 2) := by decide +kernel
theorem dX12_lawsOf_53 : decode cX12_lawsOf 53 = .ok (.aload_n 0, 1) := by decide +kernel
theorem dX12_lawsOf_54 : decode cX12_lawsOf 54 = .ok (.getfield 7, 3) := by decide +kernel
theorem dX12_lawsOf_57 : decode cX12_lawsOf 57 = .ok (.iload_n 1, 1) := by decide +kernel
theorem dX12_lawsOf_58 : decode cX12_lawsOf 58 = .ok (.iaload, 1) := by decide +kernel
theorem dX12_lawsOf_59 : decode cX12_lawsOf 59 = .ok (.if_icmp .ge 55, 3) := by decide +kernel
theorem dX12_lawsOf_62 : decode cX12_lawsOf 62 = .ok (.iload_n 3, 1) := by decide +kernel
theorem dX12_lawsOf_63 : decode cX12_lawsOf 63 = .ok (.ifCond .eq 43, 3) := by decide +kernel
theorem dX12_lawsOf_66 : decode cX12_lawsOf 66 = .ok (.aload_n 0, 1) := by decide +kernel
theorem dX12_lawsOf_67 : decode cX12_lawsOf 67 = .ok (.iload_n 1, 1) := by decide +kernel
theorem dX12_lawsOf_68 : decode cX12_lawsOf 68 = .ok (.iconst 0, 1) := by decide +kernel
theorem dX12_lawsOf_69 : decode cX12_lawsOf 69 = .ok (.iload 4, 2) := by decide +kernel
theorem dX12_lawsOf_71 : decode cX12_lawsOf 71 = .ok (.invokevirtual 103, 3) := by decide +kernel
theorem dX12_lawsOf_74 : decode cX12_lawsOf 74 = .ok (.aload_n 0, 1) := by decide +kernel
theorem dX12_lawsOf_75 : decode cX12_lawsOf 75 = .ok (.iload_n 1, 1) := by decide +kernel
theorem dX12_lawsOf_76 : decode cX12_lawsOf 76 = .ok (.iconst 0, 1) := by decide +kernel
theorem dX12_lawsOf_77 : decode cX12_lawsOf 77 = .ok (.iconst 0, 1) := by decide +kernel
theorem dX12_lawsOf_78 : decode cX12_lawsOf 78 = .ok (.invokevirtual 103, 3) := by decide +kernel
theorem dX12_lawsOf_81 : decode cX12_lawsOf 81 = .ok (.if_icmp .ne 25, 3) := by decide +kernel
theorem dX12_lawsOf_84 : decode cX12_lawsOf 84 = .ok (.aload_n 0, 1) := by decide +kernel
theorem dX12_lawsOf_85 : decode cX12_lawsOf 85 = .ok (.iload_n 1, 1) := by decide +kernel
theorem dX12_lawsOf_86 : decode cX12_lawsOf 86 = .ok (.iconst 1, 1) := by decide +kernel
theorem dX12_lawsOf_87 : decode cX12_lawsOf 87 = .ok (.iload 4, 2) := by decide +kernel
theorem dX12_lawsOf_89 : decode cX12_lawsOf 89 = .ok (.invokevirtual 103, 3) := by decide +kernel
theorem dX12_lawsOf_92 : decode cX12_lawsOf 92 = .ok (.aload_n 0, 1) := by decide +kernel
theorem dX12_lawsOf_93 : decode cX12_lawsOf 93 = .ok (.iload_n 1, 1) := by decide +kernel
theorem dX12_lawsOf_94 : decode cX12_lawsOf 94 = .ok (.iconst 0, 1) := by decide +kernel
theorem dX12_lawsOf_95 : decode cX12_lawsOf 95 = .ok (.iconst 0, 1) := by decide +kernel
theorem dX12_lawsOf_96 : decode cX12_lawsOf 96 = .ok (.invokevirtual 103, 3) := by decide +kernel
theorem dX12_lawsOf_99 : decode cX12_lawsOf 99 = .ok (.if_icmp .ne 7, 3) := by decide +kernel
theorem dX12_lawsOf_102 : decode cX12_lawsOf 102 = .ok (.iconst 1, 1) := by decide +kernel
theorem dX12_lawsOf_103 : decode cX12_lawsOf 103 = .ok (.goto 4, 3) := by decide +kernel
theorem dX12_lawsOf_106 : decode cX12_lawsOf 106 = .ok (.iconst 0, 1) := by decide +kernel
theorem dX12_lawsOf_107 : decode cX12_lawsOf 107 = .ok (.istore_n 3, 1) := by decide +kernel
theorem dX12_lawsOf_108 : decode cX12_lawsOf 108 = .ok (.iinc 4 1, 3) := by decide +kernel
theorem dX12_lawsOf_111 : decode cX12_lawsOf 111 = .ok (.goto (-60), 3) := by decide +kernel
theorem dX12_lawsOf_114 : decode cX12_lawsOf 114 = .ok (.iload_n 2, 1) := by decide +kernel
theorem dX12_lawsOf_115 : decode cX12_lawsOf 115 = .ok (.ifCond .eq 7, 3) := by decide +kernel
theorem dX12_lawsOf_118 : decode cX12_lawsOf 118 = .ok (.iconst 1, 1) := by decide +kernel
theorem dX12_lawsOf_119 : decode cX12_lawsOf 119 = .ok (.goto 4, 3) := by decide +kernel
theorem dX12_lawsOf_122 : decode cX12_lawsOf 122 = .ok (.iconst 0, 1) := by decide +kernel
theorem dX12_lawsOf_123 : decode cX12_lawsOf 123 = .ok (.aload_n 0, 1) := by decide +kernel
theorem dX12_lawsOf_124 : decode cX12_lawsOf 124 = .ok (.iload_n 1, 1) := by decide +kernel
theorem dX12_lawsOf_125 : decode cX12_lawsOf 125 = .ok (.iconst 0, 1) := by decide +kernel
theorem dX12_lawsOf_126 : decode cX12_lawsOf 126 = .ok (.invokevirtual 106, 3) := by decide +kernel
theorem dX12_lawsOf_129 : decode cX12_lawsOf 129 = .ok (.ifCond .eq 7, 3) := by decide +kernel
theorem dX12_lawsOf_132 : decode cX12_lawsOf 132 = .ok (.iconst 2, 1) := by decide +kernel
theorem dX12_lawsOf_133 : decode cX12_lawsOf 133 = .ok (.goto 4, 3) := by decide +kernel
theorem dX12_lawsOf_136 : decode cX12_lawsOf 136 = .ok (.iconst 0, 1) := by decide +kernel
theorem dX12_lawsOf_137 : decode cX12_lawsOf 137 = .ok (.iadd, 1) := by decide +kernel
theorem dX12_lawsOf_138 : decode cX12_lawsOf 138 = .ok (.aload_n 0, 1) := by decide +kernel
theorem dX12_lawsOf_139 : decode cX12_lawsOf 139 = .ok (.iload_n 1, 1) := by decide +kernel
theorem dX12_lawsOf_140 : decode cX12_lawsOf 140 = .ok (.iconst 1, 1) := by decide +kernel
theorem dX12_lawsOf_141 : decode cX12_lawsOf 141 = .ok (.invokevirtual 106, 3) := by decide +kernel
theorem dX12_lawsOf_144 : decode cX12_lawsOf 144 = .ok (.ifCond .eq 7, 3) := by decide +kernel
theorem dX12_lawsOf_147 : decode cX12_lawsOf 147 = .ok (.iconst 4, 1) := by decide +kernel
theorem dX12_lawsOf_148 : decode cX12_lawsOf 148 = .ok (.goto 4, 3) := by decide +kernel
theorem dX12_lawsOf_151 : decode cX12_lawsOf 151 = .ok (.iconst 0, 1) := by decide +kernel
theorem dX12_lawsOf_152 : decode cX12_lawsOf 152 = .ok (.iadd, 1) := by decide +kernel
theorem dX12_lawsOf_153 : decode cX12_lawsOf 153 = .ok (.aload_n 0, 1) := by decide +kernel
theorem dX12_lawsOf_154 : decode cX12_lawsOf 154 = .ok (.iload_n 1, 1) := by decide +kernel
theorem dX12_lawsOf_155 : decode cX12_lawsOf 155 = .ok (.invokevirtual 109, 3) := by decide +kernel
theorem dX12_lawsOf_158 : decode cX12_lawsOf 158 = .ok (.ifCond .eq 8, 3) := by decide +kernel
theorem dX12_lawsOf_161 : decode cX12_lawsOf 161 = .ok (.bipush 8, 2) := by decide +kernel
theorem dX12_lawsOf_163 : decode cX12_lawsOf 163 = .ok (.goto 4, 3) := by decide +kernel
theorem dX12_lawsOf_166 : decode cX12_lawsOf 166 = .ok (.iconst 0, 1) := by decide +kernel
theorem dX12_lawsOf_167 : decode cX12_lawsOf 167 = .ok (.iadd, 1) := by decide +kernel
theorem dX12_lawsOf_168 : decode cX12_lawsOf 168 = .ok (.istore 4, 2) := by decide +kernel
theorem dX12_lawsOf_170 : decode cX12_lawsOf 170 = .ok (.iload 4, 2) := by decide +kernel
theorem dX12_lawsOf_172 : decode cX12_lawsOf 172 = .ok (.aload_n 0, 1) := by decide +kernel
theorem dX12_lawsOf_173 : decode cX12_lawsOf 173 = .ok (.iload_n 1, 1) := by decide +kernel
theorem dX12_lawsOf_174 : decode cX12_lawsOf 174 = .ok (.iconst 2, 1) := by decide +kernel
theorem dX12_lawsOf_175 : decode cX12_lawsOf 175 = .ok (.invokevirtual 106, 3) := by decide +kernel
theorem dX12_lawsOf_178 : decode cX12_lawsOf 178 = .ok (.ifCond .eq 17, 3) := by decide +kernel
theorem dX12_lawsOf_181 : decode cX12_lawsOf 181 = .ok (.aload_n 0, 1) := by decide +kernel
theorem dX12_lawsOf_182 : decode cX12_lawsOf 182 = .ok (.iload_n 1, 1) := by decide +kernel
theorem dX12_lawsOf_183 : decode cX12_lawsOf 183 = .ok (.iconst 3, 1) := by decide +kernel
theorem dX12_lawsOf_184 : decode cX12_lawsOf 184 = .ok (.invokevirtual 106, 3) := by decide +kernel
theorem dX12_lawsOf_187 : decode cX12_lawsOf 187 = .ok (.ifCond .eq 8, 3) := by decide +kernel
theorem dX12_lawsOf_190 : decode cX12_lawsOf 190 = .ok (.bipush 16, 2) := by decide +kernel
theorem dX12_lawsOf_192 : decode cX12_lawsOf 192 = .ok (.goto 4, 3) := by decide +kernel
theorem dX12_lawsOf_195 : decode cX12_lawsOf 195 = .ok (.iconst 0, 1) := by decide +kernel
theorem dX12_lawsOf_196 : decode cX12_lawsOf 196 = .ok (.iadd, 1) := by decide +kernel
theorem dX12_lawsOf_197 : decode cX12_lawsOf 197 = .ok (.istore 4, 2) := by decide +kernel
theorem dX12_lawsOf_199 : decode cX12_lawsOf 199 = .ok (.iload 4, 2) := by decide +kernel
theorem dX12_lawsOf_201 : decode cX12_lawsOf 201 = .ok (.aload_n 0, 1) := by decide +kernel
theorem dX12_lawsOf_202 : decode cX12_lawsOf 202 = .ok (.iload_n 1, 1) := by decide +kernel
theorem dX12_lawsOf_203 : decode cX12_lawsOf 203 = .ok (.invokevirtual 112, 3) := by decide +kernel
theorem dX12_lawsOf_206 : decode cX12_lawsOf 206 = .ok (.ifCond .eq 8, 3) := by decide +kernel
theorem dX12_lawsOf_209 : decode cX12_lawsOf 209 = .ok (.bipush 32, 2) := by decide +kernel
theorem dX12_lawsOf_211 : decode cX12_lawsOf 211 = .ok (.goto 4, 3) := by decide +kernel
theorem dX12_lawsOf_214 : decode cX12_lawsOf 214 = .ok (.iconst 0, 1) := by decide +kernel
theorem dX12_lawsOf_215 : decode cX12_lawsOf 215 = .ok (.iadd, 1) := by decide +kernel
theorem dX12_lawsOf_216 : decode cX12_lawsOf 216 = .ok (.aload_n 0, 1) := by decide +kernel
theorem dX12_lawsOf_217 : decode cX12_lawsOf 217 = .ok (.iload_n 1, 1) := by decide +kernel
theorem dX12_lawsOf_218 : decode cX12_lawsOf 218 = .ok (.invokevirtual 115, 3) := by decide +kernel
theorem dX12_lawsOf_221 : decode cX12_lawsOf 221 = .ok (.ifCond .eq 8, 3) := by decide +kernel
theorem dX12_lawsOf_224 : decode cX12_lawsOf 224 = .ok (.bipush 64, 2) := by decide +kernel
theorem dX12_lawsOf_226 : decode cX12_lawsOf 226 = .ok (.goto 4, 3) := by decide +kernel
theorem dX12_lawsOf_229 : decode cX12_lawsOf 229 = .ok (.iconst 0, 1) := by decide +kernel
theorem dX12_lawsOf_230 : decode cX12_lawsOf 230 = .ok (.iadd, 1) := by decide +kernel
theorem dX12_lawsOf_231 : decode cX12_lawsOf 231 = .ok (.iload_n 3, 1) := by decide +kernel
theorem dX12_lawsOf_232 : decode cX12_lawsOf 232 = .ok (.ifCond .eq 9, 3) := by decide +kernel
theorem dX12_lawsOf_235 : decode cX12_lawsOf 235 = .ok (.sipush 128, 3) := by decide +kernel
theorem dX12_lawsOf_238 : decode cX12_lawsOf 238 = .ok (.goto 4, 3) := by decide +kernel
theorem dX12_lawsOf_241 : decode cX12_lawsOf 241 = .ok (.iconst 0, 1) := by decide +kernel
theorem dX12_lawsOf_242 : decode cX12_lawsOf 242 = .ok (.iadd, 1) := by decide +kernel
theorem dX12_lawsOf_243 : decode cX12_lawsOf 243 = .ok (.ireturn, 1) := by decide +kernel
theorem dX12_laws_0 : decode cX12_laws 0 = .ok (.aload_n 0, 1) := by decide +kernel
theorem dX12_laws_1 : decode cX12_laws 1 = .ok (.aload_n 0, 1) := by decide +kernel
theorem dX12_laws_2 : decode cX12_laws 2 = .ok (.iload_n 1, 1) := by decide +kernel
theorem dX12_laws_3 : decode cX12_laws 3 = .ok (.invokevirtual 59, 3) := by decide +kernel
theorem dX12_laws_6 : decode cX12_laws 6 = .ok (.ifCond .eq 7, 3) := by decide +kernel
theorem dX12_laws_9 : decode cX12_laws 9 = .ok (.iconst 0, 1) := by decide +kernel
theorem dX12_laws_10 : decode cX12_laws 10 = .ok (.goto 4, 3) := by decide +kernel
theorem dX12_laws_13 : decode cX12_laws 13 = .ok (.iconst 1, 1) := by decide +kernel
theorem dX12_laws_14 : decode cX12_laws 14 = .ok (.invokevirtual 63, 3) := by decide +kernel
theorem dX12_laws_17 : decode cX12_laws 17 = .ok (.ifCond .eq 11, 3) := by decide +kernel
theorem dX12_laws_20 : decode cX12_laws 20 = .ok (.aload_n 0, 1) := by decide +kernel
theorem dX12_laws_21 : decode cX12_laws 21 = .ok (.iload_n 1, 1) := by decide +kernel
theorem dX12_laws_22 : decode cX12_laws 22 = .ok (.invokevirtual 118, 3) := by decide +kernel
theorem dX12_laws_25 : decode cX12_laws 25 = .ok (.goto 4, 3) := by decide +kernel
theorem dX12_laws_28 : decode cX12_laws 28 = .ok (.iconst 0, 1) := by decide +kernel
theorem dX12_laws_29 : decode cX12_laws 29 = .ok (.ireturn, 1) := by decide +kernel
theorem dX12_sum_0 : decode cX12_sum 0 = .ok (.aload_n 0, 1) := by decide +kernel
theorem dX12_sum_1 : decode cX12_sum 1 = .ok (.iload_n 1, 1) := by decide +kernel
theorem dX12_sum_2 : decode cX12_sum 2 = .ok (.invokevirtual 59, 3) := by decide +kernel
theorem dX12_sum_5 : decode cX12_sum 5 = .ok (.istore 4, 2) := by decide +kernel
theorem dX12_sum_7 : decode cX12_sum 7 = .ok (.iload 4, 2) := by decide +kernel
theorem dX12_sum_9 : decode cX12_sum 9 = .ok (.ifCond .eq 32, 3) := by decide +kernel
theorem dX12_sum_12 : decode cX12_sum 12 = .ok (.iload_n 2, 1) := by decide +kernel
theorem dX12_sum_13 : decode cX12_sum 13 = .ok (.iconst 0, 1) := by decide +kernel
theorem dX12_sum_14 : decode cX12_sum 14 = .ok (.iconst 3, 1) := by decide +kernel
theorem dX12_sum_15 : decode cX12_sum 15 = .ok (.invokestatic 55, 3) := by decide +kernel
theorem dX12_sum_18 : decode cX12_sum 18 = .ok (.ifCond .eq 23, 3) := by decide +kernel
theorem dX12_sum_21 : decode cX12_sum 21 = .ok (.iload_n 3, 1) := by decide +kernel
theorem dX12_sum_22 : decode cX12_sum 22 = .ok (.iconst 0, 1) := by decide +kernel
theorem dX12_sum_23 : decode cX12_sum 23 = .ok (.aload_n 0, 1) := by decide +kernel
theorem dX12_sum_24 : decode cX12_sum 24 = .ok (.getfield 7, 3) := by decide +kernel
theorem dX12_sum_27 : decode cX12_sum 27 = .ok (.iload_n 1, 1) := by decide +kernel
theorem dX12_sum_28 : decode cX12_sum 28 = .ok (.iaload, 1) := by decide +kernel
theorem dX12_sum_29 : decode cX12_sum 29 = .ok (.iconst 1, 1) := by decide +kernel
theorem dX12_sum_30 : decode cX12_sum 30 = .ok (.isub, 1) := by decide +kernel
theorem dX12_sum_31 : decode cX12_sum 31 = .ok (.invokestatic 55, 3) := by decide +kernel
theorem dX12_sum_34 : decode cX12_sum 34 = .ok (.ifCond .eq 7, 3) := by decide +kernel
theorem dX12_sum_37 : decode cX12_sum 37 = .ok (.iconst 1, 1) := by decide +kernel
theorem dX12_sum_38 : decode cX12_sum 38 = .ok (.goto 4, 3) := by decide +kernel
theorem dX12_sum_41 : decode cX12_sum 41 = .ok (.iconst 0, 1) := by decide +kernel
theorem dX12_sum_42 : decode cX12_sum 42 = .ok (.istore 5, 2) := by decide +kernel
theorem dX12_sum_44 : decode cX12_sum 44 = .ok (.aload_n 0, 1) := by decide +kernel
theorem dX12_sum_45 : decode cX12_sum 45 = .ok (.iload 4, 2) := by decide +kernel
theorem dX12_sum_47 : decode cX12_sum 47 = .ok (.ifCond .ne 7, 3) := by decide +kernel
theorem dX12_sum_50 : decode cX12_sum 50 = .ok (.iconst 1, 1) := by decide +kernel
theorem dX12_sum_51 : decode cX12_sum 51 = .ok (.goto 13, 3) := by decide +kernel
theorem dX12_sum_54 : decode cX12_sum 54 = .ok (.iload 5, 2) := by decide +kernel
theorem dX12_sum_56 : decode cX12_sum 56 = .ok (.ifCond .ne 7, 3) := by decide +kernel
theorem dX12_sum_59 : decode cX12_sum 59 = .ok (.iconst 2, 1) := by decide +kernel
theorem dX12_sum_60 : decode cX12_sum 60 = .ok (.goto 4, 3) := by decide +kernel
theorem dX12_sum_63 : decode cX12_sum 63 = .ok (.iconst 0, 1) := by decide +kernel
theorem dX12_sum_64 : decode cX12_sum 64 = .ok (.invokevirtual 63, 3) := by decide +kernel
theorem dX12_sum_67 : decode cX12_sum 67 = .ok (.ifCond .eq 13, 3) := by decide +kernel
theorem dX12_sum_70 : decode cX12_sum 70 = .ok (.aload_n 0, 1) := by decide +kernel
theorem dX12_sum_71 : decode cX12_sum 71 = .ok (.iload_n 1, 1) := by decide +kernel
theorem dX12_sum_72 : decode cX12_sum 72 = .ok (.iload_n 2, 1) := by decide +kernel
theorem dX12_sum_73 : decode cX12_sum 73 = .ok (.iload_n 3, 1) := by decide +kernel
theorem dX12_sum_74 : decode cX12_sum 74 = .ok (.invokevirtual 97, 3) := by decide +kernel
theorem dX12_sum_77 : decode cX12_sum 77 = .ok (.goto 4, 3) := by decide +kernel
theorem dX12_sum_80 : decode cX12_sum 80 = .ok (.iconst 0, 1) := by decide +kernel
theorem dX12_sum_81 : decode cX12_sum 81 = .ok (.ireturn, 1) := by decide +kernel
theorem dX12_turned_0 : decode cX12_turned 0 = .ok (.iload_n 2, 1) := by decide +kernel
theorem dX12_turned_1 : decode cX12_turned 1 = .ok (.iload_n 0, 1) := by decide +kernel
theorem dX12_turned_2 : decode cX12_turned 2 = .ok (.idiv, 1) := by decide +kernel
theorem dX12_turned_3 : decode cX12_turned 3 = .ok (.istore_n 3, 1) := by decide +kernel
theorem dX12_turned_4 : decode cX12_turned 4 = .ok (.iload_n 2, 1) := by decide +kernel
theorem dX12_turned_5 : decode cX12_turned 5 = .ok (.iload_n 0, 1) := by decide +kernel
theorem dX12_turned_6 : decode cX12_turned 6 = .ok (.irem, 1) := by decide +kernel
theorem dX12_turned_7 : decode cX12_turned 7 = .ok (.istore 4, 2) := by decide +kernel
theorem dX12_turned_9 : decode cX12_turned 9 = .ok (.iload_n 0, 1) := by decide +kernel
theorem dX12_turned_10 : decode cX12_turned 10 = .ok (.iconst 1, 1) := by decide +kernel
theorem dX12_turned_11 : decode cX12_turned 11 = .ok (.isub, 1) := by decide +kernel
theorem dX12_turned_12 : decode cX12_turned 12 = .ok (.istore 5, 2) := by decide +kernel
theorem dX12_turned_14 : decode cX12_turned 14 = .ok (.iload_n 1, 1) := by decide +kernel
theorem dX12_turned_15 : decode cX12_turned 15 = .ok (.ifCond .ne 7, 3) := by decide +kernel
theorem dX12_turned_18 : decode cX12_turned 18 = .ok (.iload_n 2, 1) := by decide +kernel
theorem dX12_turned_19 : decode cX12_turned 19 = .ok (.goto 49, 3) := by decide +kernel
theorem dX12_turned_22 : decode cX12_turned 22 = .ok (.iload_n 1, 1) := by decide +kernel
theorem dX12_turned_23 : decode cX12_turned 23 = .ok (.iconst 1, 1) := by decide +kernel
theorem dX12_turned_24 : decode cX12_turned 24 = .ok (.if_icmp .ne 15, 3) := by decide +kernel
theorem dX12_turned_27 : decode cX12_turned 27 = .ok (.iload_n 0, 1) := by decide +kernel
theorem dX12_turned_28 : decode cX12_turned 28 = .ok (.iload 5, 2) := by decide +kernel
theorem dX12_turned_30 : decode cX12_turned 30 = .ok (.iload 4, 2) := by decide +kernel
theorem dX12_turned_32 : decode cX12_turned 32 = .ok (.isub, 1) := by decide +kernel
theorem dX12_turned_33 : decode cX12_turned 33 = .ok (.imul, 1) := by decide +kernel
theorem dX12_turned_34 : decode cX12_turned 34 = .ok (.iload_n 3, 1) := by decide +kernel
theorem dX12_turned_35 : decode cX12_turned 35 = .ok (.iadd, 1) := by decide +kernel
theorem dX12_turned_36 : decode cX12_turned 36 = .ok (.goto 32, 3) := by decide +kernel
theorem dX12_turned_39 : decode cX12_turned 39 = .ok (.iload_n 1, 1) := by decide +kernel
theorem dX12_turned_40 : decode cX12_turned 40 = .ok (.iconst 2, 1) := by decide +kernel
theorem dX12_turned_41 : decode cX12_turned 41 = .ok (.if_icmp .ne 18, 3) := by decide +kernel
theorem dX12_turned_44 : decode cX12_turned 44 = .ok (.iload_n 0, 1) := by decide +kernel
theorem dX12_turned_45 : decode cX12_turned 45 = .ok (.iload 5, 2) := by decide +kernel
theorem dX12_turned_47 : decode cX12_turned 47 = .ok (.iload_n 3, 1) := by decide +kernel
theorem dX12_turned_48 : decode cX12_turned 48 = .ok (.isub, 1) := by decide +kernel
theorem dX12_turned_49 : decode cX12_turned 49 = .ok (.imul, 1) := by decide +kernel
theorem dX12_turned_50 : decode cX12_turned 50 = .ok (.iload 5, 2) := by decide +kernel
theorem dX12_turned_52 : decode cX12_turned 52 = .ok (.iadd, 1) := by decide +kernel
theorem dX12_turned_53 : decode cX12_turned 53 = .ok (.iload 4, 2) := by decide +kernel
theorem dX12_turned_55 : decode cX12_turned 55 = .ok (.isub, 1) := by decide +kernel
theorem dX12_turned_56 : decode cX12_turned 56 = .ok (.goto 12, 3) := by decide +kernel
theorem dX12_turned_59 : decode cX12_turned 59 = .ok (.iload_n 0, 1) := by decide +kernel
theorem dX12_turned_60 : decode cX12_turned 60 = .ok (.iload 4, 2) := by decide +kernel
theorem dX12_turned_62 : decode cX12_turned 62 = .ok (.imul, 1) := by decide +kernel
theorem dX12_turned_63 : decode cX12_turned 63 = .ok (.iload 5, 2) := by decide +kernel
theorem dX12_turned_65 : decode cX12_turned 65 = .ok (.iadd, 1) := by decide +kernel
theorem dX12_turned_66 : decode cX12_turned 66 = .ok (.iload_n 3, 1) := by decide +kernel
theorem dX12_turned_67 : decode cX12_turned 67 = .ok (.isub, 1) := by decide +kernel
theorem dX12_turned_68 : decode cX12_turned 68 = .ok (.ireturn, 1) := by decide +kernel
theorem dX12_flipped_0 : decode cX12_flipped 0 = .ok (.iload_n 1, 1) := by decide +kernel
theorem dX12_flipped_1 : decode cX12_flipped 1 = .ok (.iload_n 1, 1) := by decide +kernel
theorem dX12_flipped_2 : decode cX12_flipped 2 = .ok (.iload_n 0, 1) := by decide +kernel
theorem dX12_flipped_3 : decode cX12_flipped 3 = .ok (.irem, 1) := by decide +kernel
theorem dX12_flipped_4 : decode cX12_flipped 4 = .ok (.isub, 1) := by decide +kernel
theorem dX12_flipped_5 : decode cX12_flipped 5 = .ok (.iload_n 0, 1) := by decide +kernel
theorem dX12_flipped_6 : decode cX12_flipped 6 = .ok (.iadd, 1) := by decide +kernel
theorem dX12_flipped_7 : decode cX12_flipped 7 = .ok (.iconst 1, 1) := by decide +kernel
theorem dX12_flipped_8 : decode cX12_flipped 8 = .ok (.isub, 1) := by decide +kernel
theorem dX12_flipped_9 : decode cX12_flipped 9 = .ok (.iload_n 1, 1) := by decide +kernel
theorem dX12_flipped_10 : decode cX12_flipped 10 = .ok (.iload_n 0, 1) := by decide +kernel
theorem dX12_flipped_11 : decode cX12_flipped 11 = .ok (.irem, 1) := by decide +kernel
theorem dX12_flipped_12 : decode cX12_flipped 12 = .ok (.isub, 1) := by decide +kernel
theorem dX12_flipped_13 : decode cX12_flipped 13 = .ok (.ireturn, 1) := by decide +kernel
theorem dX12_comesFrom_0 : decode cX12_comesFrom 0 = .ok (.iload_n 3, 1) := by decide +kernel
theorem dX12_comesFrom_1 : decode cX12_comesFrom 1 = .ok (.iload_n 0, 1) := by decide +kernel
theorem dX12_comesFrom_2 : decode cX12_comesFrom 2 = .ok (.idiv, 1) := by decide +kernel
theorem dX12_comesFrom_3 : decode cX12_comesFrom 3 = .ok (.istore 4, 2) := by decide +kernel
theorem dX12_comesFrom_5 : decode cX12_comesFrom 5 = .ok (.iload_n 3, 1) := by decide +kernel
theorem dX12_comesFrom_6 : decode cX12_comesFrom 6 = .ok (.iload_n 0, 1) := by decide +kernel
theorem dX12_comesFrom_7 : decode cX12_comesFrom 7 = .ok (.irem, 1) := by decide +kernel
theorem dX12_comesFrom_8 : decode cX12_comesFrom 8 = .ok (.istore 5, 2) := by decide +kernel
theorem dX12_comesFrom_10 : decode cX12_comesFrom 10 = .ok (.iload_n 0, 1) := by decide +kernel
theorem dX12_comesFrom_11 : decode cX12_comesFrom 11 = .ok (.iconst 1, 1) := by decide +kernel
theorem dX12_comesFrom_12 : decode cX12_comesFrom 12 = .ok (.isub, 1) := by decide +kernel
theorem dX12_comesFrom_13 : decode cX12_comesFrom 13 = .ok (.istore 6, 2) := by decide +kernel
theorem dX12_comesFrom_15 : decode cX12_comesFrom 15 = .ok (.iload_n 1, 1) := by decide +kernel
theorem dX12_comesFrom_16 : decode cX12_comesFrom 16 = .ok (.tableswitch 85 0 4 #[36, 43, 85, 57, 71], 36) := by decide +kernel
theorem dX12_comesFrom_52 : decode cX12_comesFrom 52 = .ok (.iload_n 0, 1) := by decide +kernel
theorem dX12_comesFrom_53 : decode cX12_comesFrom 53 = .ok (.iload_n 2, 1) := by decide +kernel
theorem dX12_comesFrom_54 : decode cX12_comesFrom 54 = .ok (.iload_n 3, 1) := by decide +kernel
theorem dX12_comesFrom_55 : decode cX12_comesFrom 55 = .ok (.invokestatic 121, 3) := by decide +kernel
theorem dX12_comesFrom_58 : decode cX12_comesFrom 58 = .ok (.ireturn, 1) := by decide +kernel
theorem dX12_comesFrom_59 : decode cX12_comesFrom 59 = .ok (.iload_n 2, 1) := by decide +kernel
theorem dX12_comesFrom_60 : decode cX12_comesFrom 60 = .ok (.ifCond .ne 7, 3) := by decide +kernel
theorem dX12_comesFrom_63 : decode cX12_comesFrom 63 = .ok (.iload_n 3, 1) := by decide +kernel
theorem dX12_comesFrom_64 : decode cX12_comesFrom 64 = .ok (.goto 8, 3) := by decide +kernel
theorem dX12_comesFrom_67 : decode cX12_comesFrom 67 = .ok (.iload_n 0, 1) := by decide +kernel
theorem dX12_comesFrom_68 : decode cX12_comesFrom 68 = .ok (.iload_n 3, 1) := by decide +kernel
theorem dX12_comesFrom_69 : decode cX12_comesFrom 69 = .ok (.invokestatic 124, 3) := by decide +kernel
theorem dX12_comesFrom_72 : decode cX12_comesFrom 72 = .ok (.ireturn, 1) := by decide +kernel
theorem dX12_comesFrom_73 : decode cX12_comesFrom 73 = .ok (.iload_n 0, 1) := by decide +kernel
theorem dX12_comesFrom_74 : decode cX12_comesFrom 74 = .ok (.iload 4, 2) := by decide +kernel
theorem dX12_comesFrom_76 : decode cX12_comesFrom 76 = .ok (.iload_n 2, 1) := by decide +kernel
theorem dX12_comesFrom_77 : decode cX12_comesFrom 77 = .ok (.isub, 1) := by decide +kernel
theorem dX12_comesFrom_78 : decode cX12_comesFrom 78 = .ok (.iload_n 0, 1) := by decide +kernel
theorem dX12_comesFrom_79 : decode cX12_comesFrom 79 = .ok (.iadd, 1) := by decide +kernel
theorem dX12_comesFrom_80 : decode cX12_comesFrom 80 = .ok (.iload_n 0, 1) := by decide +kernel
theorem dX12_comesFrom_81 : decode cX12_comesFrom 81 = .ok (.irem, 1) := by decide +kernel
theorem dX12_comesFrom_82 : decode cX12_comesFrom 82 = .ok (.imul, 1) := by decide +kernel
theorem dX12_comesFrom_83 : decode cX12_comesFrom 83 = .ok (.iload 5, 2) := by decide +kernel
theorem dX12_comesFrom_85 : decode cX12_comesFrom 85 = .ok (.iadd, 1) := by decide +kernel
theorem dX12_comesFrom_86 : decode cX12_comesFrom 86 = .ok (.ireturn, 1) := by decide +kernel
theorem dX12_comesFrom_87 : decode cX12_comesFrom 87 = .ok (.iload_n 0, 1) := by decide +kernel
theorem dX12_comesFrom_88 : decode cX12_comesFrom 88 = .ok (.iload 4, 2) := by decide +kernel
theorem dX12_comesFrom_90 : decode cX12_comesFrom 90 = .ok (.imul, 1) := by decide +kernel
theorem dX12_comesFrom_91 : decode cX12_comesFrom 91 = .ok (.iload 5, 2) := by decide +kernel
theorem dX12_comesFrom_93 : decode cX12_comesFrom 93 = .ok (.iload_n 2, 1) := by decide +kernel
theorem dX12_comesFrom_94 : decode cX12_comesFrom 94 = .ok (.isub, 1) := by decide +kernel
theorem dX12_comesFrom_95 : decode cX12_comesFrom 95 = .ok (.iload_n 0, 1) := by decide +kernel
theorem dX12_comesFrom_96 : decode cX12_comesFrom 96 = .ok (.iadd, 1) := by decide +kernel
theorem dX12_comesFrom_97 : decode cX12_comesFrom 97 = .ok (.iload_n 0, 1) := by decide +kernel
theorem dX12_comesFrom_98 : decode cX12_comesFrom 98 = .ok (.irem, 1) := by decide +kernel
theorem dX12_comesFrom_99 : decode cX12_comesFrom 99 = .ok (.iadd, 1) := by decide +kernel
theorem dX12_comesFrom_100 : decode cX12_comesFrom 100 = .ok (.ireturn, 1) := by decide +kernel
theorem dX12_comesFrom_101 : decode cX12_comesFrom 101 = .ok (.iload_n 0, 1) := by decide +kernel
theorem dX12_comesFrom_102 : decode cX12_comesFrom 102 = .ok (.iload 4, 2) := by decide +kernel
theorem dX12_comesFrom_104 : decode cX12_comesFrom 104 = .ok (.iload_n 2, 1) := by decide +kernel
theorem dX12_comesFrom_105 : decode cX12_comesFrom 105 = .ok (.if_icmp .ne 10, 3) := by decide +kernel
theorem dX12_comesFrom_108 : decode cX12_comesFrom 108 = .ok (.iload 6, 2) := by decide +kernel
theorem dX12_comesFrom_110 : decode cX12_comesFrom 110 = .ok (.iload_n 2, 1) := by decide +kernel
theorem dX12_comesFrom_111 : decode cX12_comesFrom 111 = .ok (.isub, 1) := by decide +kernel
theorem dX12_comesFrom_112 : decode cX12_comesFrom 112 = .ok (.goto 18, 3) := by decide +kernel
theorem dX12_comesFrom_115 : decode cX12_comesFrom 115 = .ok (.iload 4, 2) := by decide +kernel
theorem dX12_comesFrom_117 : decode cX12_comesFrom 117 = .ok (.iload 6, 2) := by decide +kernel
theorem dX12_comesFrom_119 : decode cX12_comesFrom 119 = .ok (.iload_n 2, 1) := by decide +kernel
theorem dX12_comesFrom_120 : decode cX12_comesFrom 120 = .ok (.isub, 1) := by decide +kernel
theorem dX12_comesFrom_121 : decode cX12_comesFrom 121 = .ok (.if_icmp .ne 7, 3) := by decide +kernel
theorem dX12_comesFrom_124 : decode cX12_comesFrom 124 = .ok (.iload_n 2, 1) := by decide +kernel
theorem dX12_comesFrom_125 : decode cX12_comesFrom 125 = .ok (.goto 5, 3) := by decide +kernel
theorem dX12_comesFrom_128 : decode cX12_comesFrom 128 = .ok (.iload 4, 2) := by decide +kernel
theorem dX12_comesFrom_130 : decode cX12_comesFrom 130 = .ok (.imul, 1) := by decide +kernel
theorem dX12_comesFrom_131 : decode cX12_comesFrom 131 = .ok (.iload 5, 2) := by decide +kernel
theorem dX12_comesFrom_133 : decode cX12_comesFrom 133 = .ok (.iload_n 2, 1) := by decide +kernel
theorem dX12_comesFrom_134 : decode cX12_comesFrom 134 = .ok (.if_icmp .ne 10, 3) := by decide +kernel
theorem dX12_comesFrom_137 : decode cX12_comesFrom 137 = .ok (.iload 6, 2) := by decide +kernel
theorem dX12_comesFrom_139 : decode cX12_comesFrom 139 = .ok (.iload_n 2, 1) := by decide +kernel
theorem dX12_comesFrom_140 : decode cX12_comesFrom 140 = .ok (.isub, 1) := by decide +kernel
theorem dX12_comesFrom_141 : decode cX12_comesFrom 141 = .ok (.goto 18, 3) := by decide +kernel
theorem dX12_comesFrom_144 : decode cX12_comesFrom 144 = .ok (.iload 5, 2) := by decide +kernel
theorem dX12_comesFrom_146 : decode cX12_comesFrom 146 = .ok (.iload 6, 2) := by decide +kernel
theorem dX12_comesFrom_148 : decode cX12_comesFrom 148 = .ok (.iload_n 2, 1) := by decide +kernel
theorem dX12_comesFrom_149 : decode cX12_comesFrom 149 = .ok (.isub, 1) := by decide +kernel
theorem dX12_comesFrom_150 : decode cX12_comesFrom 150 = .ok (.if_icmp .ne 7, 3) := by decide +kernel
theorem dX12_comesFrom_153 : decode cX12_comesFrom 153 = .ok (.iload_n 2, 1) := by decide +kernel
theorem dX12_comesFrom_154 : decode cX12_comesFrom 154 = .ok (.goto 5, 3) := by decide +kernel
theorem dX12_comesFrom_157 : decode cX12_comesFrom 157 = .ok (.iload 5, 2) := by decide +kernel
theorem dX12_comesFrom_159 : decode cX12_comesFrom 159 = .ok (.iadd, 1) := by decide +kernel
theorem dX12_comesFrom_160 : decode cX12_comesFrom 160 = .ok (.ireturn, 1) := by decide +kernel
theorem dX12_canComplement_0 : decode cX12_canComplement 0 = .ok (.iconst 1, 1) := by decide +kernel
theorem dX12_canComplement_1 : decode cX12_canComplement 1 = .ok (.istore_n 3, 1) := by decide +kernel
theorem dX12_canComplement_2 : decode cX12_canComplement 2 = .ok (.iconst 0, 1) := by decide +kernel
theorem dX12_canComplement_3 : decode cX12_canComplement 3 = .ok (.istore 4, 2) := by decide +kernel
theorem dX12_canComplement_5 : decode cX12_canComplement 5 = .ok (.iload 4, 2) := by decide +kernel
theorem dX12_canComplement_7 : decode cX12_canComplement 7 = .ok (.aload_n 0, 1) := by decide +kernel
theorem dX12_canComplement_8 : decode cX12_canComplement 8 = .ok (.iload_n 1, 1) := by decide +kernel
theorem dX12_canComplement_9 : decode cX12_canComplement 9 = .ok (.invokevirtual 100, 3) := by decide +kernel
theorem dX12_canComplement_12 : decode cX12_canComplement 12 = .ok (.if_icmp .ge 52, 3) := by decide +kernel
theorem dX12_canComplement_15 : decode cX12_canComplement 15 = .ok (.aload_n 0, 1) := by decide +kernel
theorem dX12_canComplement_16 : decode cX12_canComplement 16 = .ok (.getfield 13, 3) := by decide +kernel
theorem dX12_canComplement_19 : decode cX12_canComplement 19 = .ok (.bipush 81, 2) := by decide +kernel
theorem dX12_canComplement_21 : decode cX12_canComplement 21 = .ok (.iload_n 1, 1) := by decide +kernel
theorem dX12_canComplement_22 : decode cX12_canComplement 22 = .ok (.imul, 1) := by decide +kernel
theorem dX12_canComplement_23 : decode cX12_canComplement 23 = .ok (.iload 4, 2) := by decide +kernel
theorem dX12_canComplement_25 : decode cX12_canComplement 25 = .ok (.iadd, 1) := by decide +kernel
theorem dX12_canComplement_26 : decode cX12_canComplement 26 = .ok (.iaload, 1) := by decide +kernel
theorem dX12_canComplement_27 : decode cX12_canComplement 27 = .ok (.istore 5, 2) := by decide +kernel
theorem dX12_canComplement_29 : decode cX12_canComplement 29 = .ok (.iload_n 3, 1) := by decide +kernel
theorem dX12_canComplement_30 : decode cX12_canComplement 30 = .ok (.ifCond .eq 26, 3) := by decide +kernel
theorem dX12_canComplement_33 : decode cX12_canComplement 33 = .ok (.iload 5, 2) := by decide +kernel
theorem dX12_canComplement_35 : decode cX12_canComplement 35 = .ok (.ifCond .eq 17, 3) := by decide +kernel
theorem dX12_canComplement_38 : decode cX12_canComplement 38 = .ok (.iload_n 2, 1) := by decide +kernel
theorem dX12_canComplement_39 : decode cX12_canComplement 39 = .ok (.iload 5, 2) := by decide +kernel
theorem dX12_canComplement_41 : decode cX12_canComplement 41 = .ok (.isub, 1) := by decide +kernel
theorem dX12_canComplement_42 : decode cX12_canComplement 42 = .ok (.iconst 1, 1) := by decide +kernel
theorem dX12_canComplement_43 : decode cX12_canComplement 43 = .ok (.sipush 999, 3) := by decide +kernel
theorem dX12_canComplement_46 : decode cX12_canComplement 46 = .ok (.invokestatic 55, 3) := by decide +kernel
theorem dX12_canComplement_49 : decode cX12_canComplement 49 = .ok (.ifCond .eq 7, 3) := by decide +kernel
theorem dX12_canComplement_52 : decode cX12_canComplement 52 = .ok (.iconst 1, 1) := by decide +kernel
theorem dX12_canComplement_53 : decode cX12_canComplement 53 = .ok (.goto 4, 3) := by decide +kernel
theorem dX12_canComplement_56 : decode cX12_canComplement 56 = .ok (.iconst 0, 1) := by decide +kernel
theorem dX12_canComplement_57 : decode cX12_canComplement 57 = .ok (.istore_n 3, 1) := by decide +kernel
theorem dX12_canComplement_58 : decode cX12_canComplement 58 = .ok (.iinc 4 1, 3) := by decide +kernel
theorem dX12_canComplement_61 : decode cX12_canComplement 61 = .ok (.goto (-56), 3) := by decide +kernel
theorem dX12_canComplement_64 : decode cX12_canComplement 64 = .ok (.iload_n 3, 1) := by decide +kernel
theorem dX12_canComplement_65 : decode cX12_canComplement 65 = .ok (.ireturn, 1) := by decide +kernel
theorem dX12_mostBy_0 : decode cX12_mostBy 0 = .ok (.iload_n 2, 1) := by decide +kernel
theorem dX12_mostBy_1 : decode cX12_mostBy 1 = .ok (.ifCond .ne 7, 3) := by decide +kernel
theorem dX12_mostBy_4 : decode cX12_mostBy 4 = .ok (.iconst 3, 1) := by decide +kernel
theorem dX12_mostBy_5 : decode cX12_mostBy 5 = .ok (.goto 31, 3) := by decide +kernel
theorem dX12_mostBy_8 : decode cX12_mostBy 8 = .ok (.iload_n 2, 1) := by decide +kernel
theorem dX12_mostBy_9 : decode cX12_mostBy 9 = .ok (.iconst 1, 1) := by decide +kernel
theorem dX12_mostBy_10 : decode cX12_mostBy 10 = .ok (.if_icmp .ne 7, 3) := by decide +kernel
theorem dX12_mostBy_13 : decode cX12_mostBy 13 = .ok (.iconst 1, 1) := by decide +kernel
theorem dX12_mostBy_14 : decode cX12_mostBy 14 = .ok (.goto 22, 3) := by decide +kernel
theorem dX12_mostBy_17 : decode cX12_mostBy 17 = .ok (.iload_n 2, 1) := by decide +kernel
theorem dX12_mostBy_18 : decode cX12_mostBy 18 = .ok (.iconst 2, 1) := by decide +kernel
theorem dX12_mostBy_19 : decode cX12_mostBy 19 = .ok (.if_icmp .ne 9, 3) := by decide +kernel
theorem dX12_mostBy_22 : decode cX12_mostBy 22 = .ok (.sipush 1998, 3) := by decide +kernel
theorem dX12_mostBy_25 : decode cX12_mostBy 25 = .ok (.goto 11, 3) := by decide +kernel
theorem dX12_mostBy_28 : decode cX12_mostBy 28 = .ok (.aload_n 0, 1) := by decide +kernel
theorem dX12_mostBy_29 : decode cX12_mostBy 29 = .ok (.getfield 7, 3) := by decide +kernel
theorem dX12_mostBy_32 : decode cX12_mostBy 32 = .ok (.iload_n 1, 1) := by decide +kernel
theorem dX12_mostBy_33 : decode cX12_mostBy 33 = .ok (.iaload, 1) := by decide +kernel
theorem dX12_mostBy_34 : decode cX12_mostBy 34 = .ok (.iconst 1, 1) := by decide +kernel
theorem dX12_mostBy_35 : decode cX12_mostBy 35 = .ok (.isub, 1) := by decide +kernel
theorem dX12_mostBy_36 : decode cX12_mostBy 36 = .ok (.ireturn, 1) := by decide +kernel
theorem dX12_change_0 : decode cX12_change 0 = .ok (.aload_n 0, 1) := by decide +kernel
theorem dX12_change_1 : decode cX12_change 1 = .ok (.iload_n 1, 1) := by decide +kernel
theorem dX12_change_2 : decode cX12_change 2 = .ok (.invokevirtual 59, 3) := by decide +kernel
theorem dX12_change_5 : decode cX12_change 5 = .ok (.istore 4, 2) := by decide +kernel
theorem dX12_change_7 : decode cX12_change 7 = .ok (.iload 4, 2) := by decide +kernel
theorem dX12_change_9 : decode cX12_change 9 = .ok (.ifCond .eq 30, 3) := by decide +kernel
theorem dX12_change_12 : decode cX12_change 12 = .ok (.iload_n 2, 1) := by decide +kernel
theorem dX12_change_13 : decode cX12_change 13 = .ok (.iconst 0, 1) := by decide +kernel
theorem dX12_change_14 : decode cX12_change 14 = .ok (.iconst 5, 1) := by decide +kernel
theorem dX12_change_15 : decode cX12_change 15 = .ok (.invokestatic 55, 3) := by decide +kernel
theorem dX12_change_18 : decode cX12_change 18 = .ok (.ifCond .eq 21, 3) := by decide +kernel
theorem dX12_change_21 : decode cX12_change 21 = .ok (.iload_n 3, 1) := by decide +kernel
theorem dX12_change_22 : decode cX12_change 22 = .ok (.iconst 0, 1) := by decide +kernel
theorem dX12_change_23 : decode cX12_change 23 = .ok (.aload_n 0, 1) := by decide +kernel
theorem dX12_change_24 : decode cX12_change 24 = .ok (.iload_n 1, 1) := by decide +kernel
theorem dX12_change_25 : decode cX12_change 25 = .ok (.iload_n 2, 1) := by decide +kernel
theorem dX12_change_26 : decode cX12_change 26 = .ok (.invokevirtual 128, 3) := by decide +kernel
theorem dX12_change_29 : decode cX12_change 29 = .ok (.invokestatic 55, 3) := by decide +kernel
theorem dX12_change_32 : decode cX12_change 32 = .ok (.ifCond .eq 7, 3) := by decide +kernel
theorem dX12_change_35 : decode cX12_change 35 = .ok (.iconst 1, 1) := by decide +kernel
theorem dX12_change_36 : decode cX12_change 36 = .ok (.goto 4, 3) := by decide +kernel
theorem dX12_change_39 : decode cX12_change 39 = .ok (.iconst 0, 1) := by decide +kernel
theorem dX12_change_40 : decode cX12_change 40 = .ok (.istore 5, 2) := by decide +kernel
theorem dX12_change_42 : decode cX12_change 42 = .ok (.aload_n 0, 1) := by decide +kernel
theorem dX12_change_43 : decode cX12_change 43 = .ok (.iload 4, 2) := by decide +kernel
theorem dX12_change_45 : decode cX12_change 45 = .ok (.ifCond .ne 7, 3) := by decide +kernel
theorem dX12_change_48 : decode cX12_change 48 = .ok (.iconst 1, 1) := by decide +kernel
theorem dX12_change_49 : decode cX12_change 49 = .ok (.goto 31, 3) := by decide +kernel
theorem dX12_change_52 : decode cX12_change 52 = .ok (.iload 5, 2) := by decide +kernel
theorem dX12_change_54 : decode cX12_change 54 = .ok (.ifCond .ne 7, 3) := by decide +kernel
theorem dX12_change_57 : decode cX12_change 57 = .ok (.iconst 2, 1) := by decide +kernel
theorem dX12_change_58 : decode cX12_change 58 = .ok (.goto 22, 3) := by decide +kernel
theorem dX12_change_61 : decode cX12_change 61 = .ok (.iload_n 2, 1) := by decide +kernel
theorem dX12_change_62 : decode cX12_change 62 = .ok (.iconst 2, 1) := by decide +kernel
theorem dX12_change_63 : decode cX12_change 63 = .ok (.if_icmp .ne 16, 3) := by decide +kernel
theorem dX12_change_66 : decode cX12_change 66 = .ok (.aload_n 0, 1) := by decide +kernel
theorem dX12_change_67 : decode cX12_change 67 = .ok (.iload_n 1, 1) := by decide +kernel
theorem dX12_change_68 : decode cX12_change 68 = .ok (.iload_n 3, 1) := by decide +kernel
theorem dX12_change_69 : decode cX12_change 69 = .ok (.invokevirtual 131, 3) := by decide +kernel
theorem dX12_change_72 : decode cX12_change 72 = .ok (.ifCond .ne 7, 3) := by decide +kernel
theorem dX12_change_75 : decode cX12_change 75 = .ok (.iconst 3, 1) := by decide +kernel
theorem dX12_change_76 : decode cX12_change 76 = .ok (.goto 4, 3) := by decide +kernel
theorem dX12_change_79 : decode cX12_change 79 = .ok (.iconst 0, 1) := by decide +kernel
theorem dX12_change_80 : decode cX12_change 80 = .ok (.invokevirtual 63, 3) := by decide +kernel
theorem dX12_change_83 : decode cX12_change 83 = .ok (.ifCond .ne 5, 3) := by decide +kernel
theorem dX12_change_86 : decode cX12_change 86 = .ok (.iconst 0, 1) := by decide +kernel
theorem dX12_change_87 : decode cX12_change 87 = .ok (.ireturn, 1) := by decide +kernel
theorem dX12_change_88 : decode cX12_change 88 = .ok (.aload_n 0, 1) := by decide +kernel
theorem dX12_change_89 : decode cX12_change 89 = .ok (.getfield 7, 3) := by decide +kernel
theorem dX12_change_92 : decode cX12_change 92 = .ok (.iload_n 1, 1) := by decide +kernel
theorem dX12_change_93 : decode cX12_change 93 = .ok (.iaload, 1) := by decide +kernel
theorem dX12_change_94 : decode cX12_change 94 = .ok (.istore 6, 2) := by decide +kernel
theorem dX12_change_96 : decode cX12_change 96 = .ok (.iconst 0, 1) := by decide +kernel
theorem dX12_change_97 : decode cX12_change 97 = .ok (.istore 7, 2) := by decide +kernel
theorem dX12_change_99 : decode cX12_change 99 = .ok (.iconst 0, 1) := by decide +kernel
theorem dX12_change_100 : decode cX12_change 100 = .ok (.istore 8, 2) := by decide +kernel
theorem dX12_change_102 : decode cX12_change 102 = .ok (.iload 8, 2) := by decide +kernel
theorem dX12_change_104 : decode cX12_change 104 = .ok (.iload 6, 2) := by decide +kernel
theorem dX12_change_106 : decode cX12_change 106 = .ok (.iload 6, 2) := by decide +kernel
theorem dX12_change_108 : decode cX12_change 108 = .ok (.imul, 1) := by decide +kernel
theorem dX12_change_109 : decode cX12_change 109 = .ok (.if_icmp .ge 92, 3) := by decide +kernel
theorem dX12_change_112 : decode cX12_change 112 = .ok (.aload_n 0, 1) := by decide +kernel
theorem dX12_change_113 : decode cX12_change 113 = .ok (.getfield 13, 3) := by decide +kernel
theorem dX12_change_116 : decode cX12_change 116 = .ok (.bipush 81, 2) := by decide +kernel
theorem dX12_change_118 : decode cX12_change 118 = .ok (.iload_n 1, 1) := by decide +kernel
theorem dX12_change_119 : decode cX12_change 119 = .ok (.imul, 1) := by decide +kernel
theorem dX12_change_120 : decode cX12_change 120 = .ok (.iload 8, 2) := by decide +kernel
theorem dX12_change_122 : decode cX12_change 122 = .ok (.iadd, 1) := by decide +kernel
theorem dX12_change_123 : decode cX12_change 123 = .ok (.iaload, 1) := by decide +kernel
theorem dX12_change_124 : decode cX12_change 124 = .ok (.istore 9, 2) := by decide +kernel
theorem dX12_change_126 : decode cX12_change 126 = .ok (.aload_n 0, 1) := by decide +kernel
theorem dX12_change_127 : decode cX12_change 127 = .ok (.getfield 16, 3) := by decide +kernel
theorem dX12_change_130 : decode cX12_change 130 = .ok (.iload 8, 2) := by decide +kernel
theorem dX12_change_132 : decode cX12_change 132 = .ok (.iload_n 2, 1) := by decide +kernel
theorem dX12_change_133 : decode cX12_change 133 = .ok (.iconst 2, 1) := by decide +kernel
theorem dX12_change_134 : decode cX12_change 134 = .ok (.if_icmp .eq 25, 3) := by decide +kernel
theorem dX12_change_137 : decode cX12_change 137 = .ok (.aload_n 0, 1) := by decide +kernel
theorem dX12_change_138 : decode cX12_change 138 = .ok (.getfield 13, 3) := by decide +kernel
theorem dX12_change_141 : decode cX12_change 141 = .ok (.bipush 81, 2) := by decide +kernel
theorem dX12_change_143 : decode cX12_change 143 = .ok (.iload_n 1, 1) := by decide +kernel
theorem dX12_change_144 : decode cX12_change 144 = .ok (.imul, 1) := by decide +kernel
theorem dX12_change_145 : decode cX12_change 145 = .ok (.iload 6, 2) := by decide +kernel
theorem dX12_change_147 : decode cX12_change 147 = .ok (.iload_n 2, 1) := by decide +kernel
theorem dX12_change_148 : decode cX12_change 148 = .ok (.iload_n 3, 1) := by decide +kernel
theorem dX12_change_149 : decode cX12_change 149 = .ok (.iload 8, 2) := by decide +kernel
theorem dX12_change_151 : decode cX12_change 151 = .ok (.invokestatic 134, 3) := by decide +kernel
theorem dX12_change_154 : decode cX12_change 154 = .ok (.iadd, 1) := by decide +kernel
theorem dX12_change_155 : decode cX12_change 155 = .ok (.iaload, 1) := by decide +kernel
theorem dX12_change_156 : decode cX12_change 156 = .ok (.goto 16, 3) := by decide +kernel
theorem dX12_change_159 : decode cX12_change 159 = .ok (.iload 9, 2) := by decide +kernel
theorem dX12_change_161 : decode cX12_change 161 = .ok (.ifCond .ne 7, 3) := by decide +kernel
theorem dX12_change_164 : decode cX12_change 164 = .ok (.iconst 0, 1) := by decide +kernel
theorem dX12_change_165 : decode cX12_change 165 = .ok (.goto 7, 3) := by decide +kernel
theorem dX12_change_168 : decode cX12_change 168 = .ok (.iload_n 3, 1) := by decide +kernel
theorem dX12_change_169 : decode cX12_change 169 = .ok (.iload 9, 2) := by decide +kernel
theorem dX12_change_171 : decode cX12_change 171 = .ok (.isub, 1) := by decide +kernel
theorem dX12_change_172 : decode cX12_change 172 = .ok (.iastore, 1) := by decide +kernel
theorem dX12_change_173 : decode cX12_change 173 = .ok (.iload 7, 2) := by decide +kernel
theorem dX12_change_175 : decode cX12_change 175 = .ok (.aload_n 0, 1) := by decide +kernel
theorem dX12_change_176 : decode cX12_change 176 = .ok (.getfield 16, 3) := by decide +kernel
theorem dX12_change_179 : decode cX12_change 179 = .ok (.iload 8, 2) := by decide +kernel
theorem dX12_change_181 : decode cX12_change 181 = .ok (.iaload, 1) := by decide +kernel
theorem dX12_change_182 : decode cX12_change 182 = .ok (.iload 9, 2) := by decide +kernel
theorem dX12_change_184 : decode cX12_change 184 = .ok (.if_icmp .ne 7, 3) := by decide +kernel
theorem dX12_change_187 : decode cX12_change 187 = .ok (.iconst 0, 1) := by decide +kernel
theorem dX12_change_188 : decode cX12_change 188 = .ok (.goto 4, 3) := by decide +kernel
theorem dX12_change_191 : decode cX12_change 191 = .ok (.iconst 1, 1) := by decide +kernel
theorem dX12_change_192 : decode cX12_change 192 = .ok (.iadd, 1) := by decide +kernel
theorem dX12_change_193 : decode cX12_change 193 = .ok (.istore 7, 2) := by decide +kernel
theorem dX12_change_195 : decode cX12_change 195 = .ok (.iinc 8 1, 3) := by decide +kernel
theorem dX12_change_198 : decode cX12_change 198 = .ok (.goto (-96), 3) := by decide +kernel
theorem dX12_change_201 : decode cX12_change 201 = .ok (.iconst 0, 1) := by decide +kernel
theorem dX12_change_202 : decode cX12_change 202 = .ok (.istore 8, 2) := by decide +kernel
theorem dX12_change_204 : decode cX12_change 204 = .ok (.iload 8, 2) := by decide +kernel
theorem dX12_change_206 : decode cX12_change 206 = .ok (.iload 6, 2) := by decide +kernel
theorem dX12_change_208 : decode cX12_change 208 = .ok (.iload 6, 2) := by decide +kernel
theorem dX12_change_210 : decode cX12_change 210 = .ok (.imul, 1) := by decide +kernel
theorem dX12_change_211 : decode cX12_change 211 = .ok (.if_icmp .ge 28, 3) := by decide +kernel
theorem dX12_change_214 : decode cX12_change 214 = .ok (.aload_n 0, 1) := by decide +kernel
theorem dX12_change_215 : decode cX12_change 215 = .ok (.getfield 13, 3) := by decide +kernel
theorem dX12_change_218 : decode cX12_change 218 = .ok (.bipush 81, 2) := by decide +kernel
theorem dX12_change_220 : decode cX12_change 220 = .ok (.iload_n 1, 1) := by decide +kernel
theorem dX12_change_221 : decode cX12_change 221 = .ok (.imul, 1) := by decide +kernel
theorem dX12_change_222 : decode cX12_change 222 = .ok (.iload 8, 2) := by decide +kernel
theorem dX12_change_224 : decode cX12_change 224 = .ok (.iadd, 1) := by decide +kernel
theorem dX12_change_225 : decode cX12_change 225 = .ok (.aload_n 0, 1) := by decide +kernel
theorem dX12_change_226 : decode cX12_change 226 = .ok (.getfield 16, 3) := by decide +kernel
theorem dX12_change_229 : decode cX12_change 229 = .ok (.iload 8, 2) := by decide +kernel
theorem dX12_change_231 : decode cX12_change 231 = .ok (.iaload, 1) := by decide +kernel
theorem dX12_change_232 : decode cX12_change 232 = .ok (.iastore, 1) := by decide +kernel
theorem dX12_change_233 : decode cX12_change 233 = .ok (.iinc 8 1, 3) := by decide +kernel
theorem dX12_change_236 : decode cX12_change 236 = .ok (.goto (-32), 3) := by decide +kernel
theorem dX12_change_239 : decode cX12_change 239 = .ok (.iload 7, 2) := by decide +kernel
theorem dX12_change_241 : decode cX12_change 241 = .ok (.ireturn, 1) := by decide +kernel
theorem dX12_formAt_0 : decode cX12_formAt 0 = .ok (.aload_n 0, 1) := by decide +kernel
theorem dX12_formAt_1 : decode cX12_formAt 1 = .ok (.getfield 7, 3) := by decide +kernel
theorem dX12_formAt_4 : decode cX12_formAt 4 = .ok (.iload_n 1, 1) := by decide +kernel
theorem dX12_formAt_5 : decode cX12_formAt 5 = .ok (.iaload, 1) := by decide +kernel
theorem dX12_formAt_6 : decode cX12_formAt 6 = .ok (.istore 4, 2) := by decide +kernel
theorem dX12_formAt_8 : decode cX12_formAt 8 = .ok (.iload 4, 2) := by decide +kernel
theorem dX12_formAt_10 : decode cX12_formAt 10 = .ok (.iload_n 2, 1) := by decide +kernel
theorem dX12_formAt_11 : decode cX12_formAt 11 = .ok (.iconst 4, 1) := by decide +kernel
theorem dX12_formAt_12 : decode cX12_formAt 12 = .ok (.irem, 1) := by decide +kernel
theorem dX12_formAt_13 : decode cX12_formAt 13 = .ok (.iload_n 3, 1) := by decide +kernel
theorem dX12_formAt_14 : decode cX12_formAt 14 = .ok (.invokestatic 121, 3) := by decide +kernel
theorem dX12_formAt_17 : decode cX12_formAt 17 = .ok (.istore 5, 2) := by decide +kernel
theorem dX12_formAt_19 : decode cX12_formAt 19 = .ok (.aload_n 0, 1) := by decide +kernel
theorem dX12_formAt_20 : decode cX12_formAt 20 = .ok (.getfield 13, 3) := by decide +kernel
theorem dX12_formAt_23 : decode cX12_formAt 23 = .ok (.bipush 81, 2) := by decide +kernel
theorem dX12_formAt_25 : decode cX12_formAt 25 = .ok (.iload_n 1, 1) := by decide +kernel
theorem dX12_formAt_26 : decode cX12_formAt 26 = .ok (.imul, 1) := by decide +kernel
theorem dX12_formAt_27 : decode cX12_formAt 27 = .ok (.iload_n 2, 1) := by decide +kernel
theorem dX12_formAt_28 : decode cX12_formAt 28 = .ok (.iconst 4, 1) := by decide +kernel
theorem dX12_formAt_29 : decode cX12_formAt 29 = .ok (.if_icmp .ge 8, 3) := by decide +kernel
theorem dX12_formAt_32 : decode cX12_formAt 32 = .ok (.iload 5, 2) := by decide +kernel
theorem dX12_formAt_34 : decode cX12_formAt 34 = .ok (.goto 10, 3) := by decide +kernel
theorem dX12_formAt_37 : decode cX12_formAt 37 = .ok (.iload 4, 2) := by decide +kernel
theorem dX12_formAt_39 : decode cX12_formAt 39 = .ok (.iload 5, 2) := by decide +kernel
theorem dX12_formAt_41 : decode cX12_formAt 41 = .ok (.invokestatic 124, 3) := by decide +kernel
theorem dX12_formAt_44 : decode cX12_formAt 44 = .ok (.iadd, 1) := by decide +kernel
theorem dX12_formAt_45 : decode cX12_formAt 45 = .ok (.iaload, 1) := by decide +kernel
theorem dX12_formAt_46 : decode cX12_formAt 46 = .ok (.ireturn, 1) := by decide +kernel
theorem dX12_isForm_0 : decode cX12_isForm 0 = .ok (.aload_n 0, 1) := by decide +kernel
theorem dX12_isForm_1 : decode cX12_isForm 1 = .ok (.getfield 7, 3) := by decide +kernel
theorem dX12_isForm_4 : decode cX12_isForm 4 = .ok (.iload_n 1, 1) := by decide +kernel
theorem dX12_isForm_5 : decode cX12_isForm 5 = .ok (.iaload, 1) := by decide +kernel
theorem dX12_isForm_6 : decode cX12_isForm 6 = .ok (.aload_n 0, 1) := by decide +kernel
theorem dX12_isForm_7 : decode cX12_isForm 7 = .ok (.getfield 7, 3) := by decide +kernel
theorem dX12_isForm_10 : decode cX12_isForm 10 = .ok (.iload_n 3, 1) := by decide +kernel
theorem dX12_isForm_11 : decode cX12_isForm 11 = .ok (.iaload, 1) := by decide +kernel
theorem dX12_isForm_12 : decode cX12_isForm 12 = .ok (.if_icmp .ne 7, 3) := by decide +kernel
theorem dX12_isForm_15 : decode cX12_isForm 15 = .ok (.iconst 1, 1) := by decide +kernel
theorem dX12_isForm_16 : decode cX12_isForm 16 = .ok (.goto 4, 3) := by decide +kernel
theorem dX12_isForm_19 : decode cX12_isForm 19 = .ok (.iconst 0, 1) := by decide +kernel
theorem dX12_isForm_20 : decode cX12_isForm 20 = .ok (.istore 4, 2) := by decide +kernel
theorem dX12_isForm_22 : decode cX12_isForm 22 = .ok (.iconst 0, 1) := by decide +kernel
theorem dX12_isForm_23 : decode cX12_isForm 23 = .ok (.istore 5, 2) := by decide +kernel
theorem dX12_isForm_25 : decode cX12_isForm 25 = .ok (.iload 5, 2) := by decide +kernel
theorem dX12_isForm_27 : decode cX12_isForm 27 = .ok (.aload_n 0, 1) := by decide +kernel
theorem dX12_isForm_28 : decode cX12_isForm 28 = .ok (.iload_n 1, 1) := by decide +kernel
theorem dX12_isForm_29 : decode cX12_isForm 29 = .ok (.invokevirtual 100, 3) := by decide +kernel
theorem dX12_isForm_32 : decode cX12_isForm 32 = .ok (.if_icmp .ge 44, 3) := by decide +kernel
theorem dX12_isForm_35 : decode cX12_isForm 35 = .ok (.iload 4, 2) := by decide +kernel
theorem dX12_isForm_37 : decode cX12_isForm 37 = .ok (.ifCond .eq 39, 3) := by decide +kernel
theorem dX12_isForm_40 : decode cX12_isForm 40 = .ok (.aload_n 0, 1) := by decide +kernel
theorem dX12_isForm_41 : decode cX12_isForm 41 = .ok (.iload_n 1, 1) := by decide +kernel
theorem dX12_isForm_42 : decode cX12_isForm 42 = .ok (.iload_n 2, 1) := by decide +kernel
theorem dX12_isForm_43 : decode cX12_isForm 43 = .ok (.iload 5, 2) := by decide +kernel
theorem dX12_isForm_45 : decode cX12_isForm 45 = .ok (.invokevirtual 138, 3) := by decide +kernel
theorem dX12_isForm_48 : decode cX12_isForm 48 = .ok (.aload_n 0, 1) := by decide +kernel
theorem dX12_isForm_49 : decode cX12_isForm 49 = .ok (.getfield 13, 3) := by decide +kernel
theorem dX12_isForm_52 : decode cX12_isForm 52 = .ok (.bipush 81, 2) := by decide +kernel
theorem dX12_isForm_54 : decode cX12_isForm 54 = .ok (.iload_n 3, 1) := by decide +kernel
theorem dX12_isForm_55 : decode cX12_isForm 55 = .ok (.imul, 1) := by decide +kernel
theorem dX12_isForm_56 : decode cX12_isForm 56 = .ok (.iload 5, 2) := by decide +kernel
theorem dX12_isForm_58 : decode cX12_isForm 58 = .ok (.iadd, 1) := by decide +kernel
theorem dX12_isForm_59 : decode cX12_isForm 59 = .ok (.iaload, 1) := by decide +kernel
theorem dX12_isForm_60 : decode cX12_isForm 60 = .ok (.if_icmp .ne 7, 3) := by decide +kernel
theorem dX12_isForm_63 : decode cX12_isForm 63 = .ok (.iconst 1, 1) := by decide +kernel
theorem dX12_isForm_64 : decode cX12_isForm 64 = .ok (.goto 4, 3) := by decide +kernel
theorem dX12_isForm_67 : decode cX12_isForm 67 = .ok (.iconst 0, 1) := by decide +kernel
theorem dX12_isForm_68 : decode cX12_isForm 68 = .ok (.istore 4, 2) := by decide +kernel
theorem dX12_isForm_70 : decode cX12_isForm 70 = .ok (.iinc 5 1, 3) := by decide +kernel
theorem dX12_isForm_73 : decode cX12_isForm 73 = .ok (.goto (-48), 3) := by decide +kernel
theorem dX12_isForm_76 : decode cX12_isForm 76 = .ok (.iload 4, 2) := by decide +kernel
theorem dX12_isForm_78 : decode cX12_isForm 78 = .ok (.ireturn, 1) := by decide +kernel
theorem dX12_areKin_0 : decode cX12_areKin 0 = .ok (.iconst 0, 1) := by decide +kernel
theorem dX12_areKin_1 : decode cX12_areKin 1 = .ok (.istore_n 3, 1) := by decide +kernel
theorem dX12_areKin_2 : decode cX12_areKin 2 = .ok (.iconst 0, 1) := by decide +kernel
theorem dX12_areKin_3 : decode cX12_areKin 3 = .ok (.istore 4, 2) := by decide +kernel
theorem dX12_areKin_5 : decode cX12_areKin 5 = .ok (.iload 4, 2) := by decide +kernel
theorem dX12_areKin_7 : decode cX12_areKin 7 = .ok (.bipush 8, 2) := by decide +kernel
theorem dX12_areKin_9 : decode cX12_areKin 9 = .ok (.if_icmp .ge 30, 3) := by decide +kernel
theorem dX12_areKin_12 : decode cX12_areKin 12 = .ok (.iload_n 3, 1) := by decide +kernel
theorem dX12_areKin_13 : decode cX12_areKin 13 = .ok (.ifCond .ne 14, 3) := by decide +kernel
theorem dX12_areKin_16 : decode cX12_areKin 16 = .ok (.aload_n 0, 1) := by decide +kernel
theorem dX12_areKin_17 : decode cX12_areKin 17 = .ok (.iload_n 1, 1) := by decide +kernel
theorem dX12_areKin_18 : decode cX12_areKin 18 = .ok (.iload 4, 2) := by decide +kernel
theorem dX12_areKin_20 : decode cX12_areKin 20 = .ok (.iload_n 2, 1) := by decide +kernel
theorem dX12_areKin_21 : decode cX12_areKin 21 = .ok (.invokevirtual 141, 3) := by decide +kernel
theorem dX12_areKin_24 : decode cX12_areKin 24 = .ok (.ifCond .eq 7, 3) := by decide +kernel
theorem dX12_areKin_27 : decode cX12_areKin 27 = .ok (.iconst 1, 1) := by decide +kernel
theorem dX12_areKin_28 : decode cX12_areKin 28 = .ok (.goto 4, 3) := by decide +kernel
theorem dX12_areKin_31 : decode cX12_areKin 31 = .ok (.iconst 0, 1) := by decide +kernel
theorem dX12_areKin_32 : decode cX12_areKin 32 = .ok (.istore_n 3, 1) := by decide +kernel
theorem dX12_areKin_33 : decode cX12_areKin 33 = .ok (.iinc 4 1, 3) := by decide +kernel
theorem dX12_areKin_36 : decode cX12_areKin 36 = .ok (.goto (-31), 3) := by decide +kernel
theorem dX12_areKin_39 : decode cX12_areKin 39 = .ok (.iload_n 3, 1) := by decide +kernel
theorem dX12_areKin_40 : decode cX12_areKin 40 = .ok (.ireturn, 1) := by decide +kernel
theorem dX12_same_0 : decode cX12_same 0 = .ok (.aload_n 0, 1) := by decide +kernel
theorem dX12_same_1 : decode cX12_same 1 = .ok (.aload_n 0, 1) := by decide +kernel
theorem dX12_same_2 : decode cX12_same 2 = .ok (.iload_n 1, 1) := by decide +kernel
theorem dX12_same_3 : decode cX12_same 3 = .ok (.invokevirtual 59, 3) := by decide +kernel
theorem dX12_same_6 : decode cX12_same 6 = .ok (.ifCond .eq 15, 3) := by decide +kernel
theorem dX12_same_9 : decode cX12_same 9 = .ok (.aload_n 0, 1) := by decide +kernel
theorem dX12_same_10 : decode cX12_same 10 = .ok (.iload_n 2, 1) := by decide +kernel
theorem dX12_same_11 : decode cX12_same 11 = .ok (.invokevirtual 59, 3) := by decide +kernel
theorem dX12_same_14 : decode cX12_same 14 = .ok (.ifCond .eq 7, 3) := by decide +kernel
theorem dX12_same_17 : decode cX12_same 17 = .ok (.iconst 0, 1) := by decide +kernel
theorem dX12_same_18 : decode cX12_same 18 = .ok (.goto 4, 3) := by decide +kernel
theorem dX12_same_21 : decode cX12_same 21 = .ok (.iconst 1, 1) := by decide +kernel
theorem dX12_same_22 : decode cX12_same 22 = .ok (.invokevirtual 63, 3) := by decide +kernel
theorem dX12_same_25 : decode cX12_same 25 = .ok (.ifCond .eq 16, 3) := by decide +kernel
theorem dX12_same_28 : decode cX12_same 28 = .ok (.aload_n 0, 1) := by decide +kernel
theorem dX12_same_29 : decode cX12_same 29 = .ok (.iload_n 1, 1) := by decide +kernel
theorem dX12_same_30 : decode cX12_same 30 = .ok (.iload_n 2, 1) := by decide +kernel
theorem dX12_same_31 : decode cX12_same 31 = .ok (.invokevirtual 144, 3) := by decide +kernel
theorem dX12_same_34 : decode cX12_same 34 = .ok (.ifCond .eq 7, 3) := by decide +kernel
theorem dX12_same_37 : decode cX12_same 37 = .ok (.iconst 1, 1) := by decide +kernel
theorem dX12_same_38 : decode cX12_same 38 = .ok (.goto 4, 3) := by decide +kernel
theorem dX12_same_41 : decode cX12_same 41 = .ok (.iconst 0, 1) := by decide +kernel
theorem dX12_same_42 : decode cX12_same 42 = .ok (.ireturn, 1) := by decide +kernel
theorem dX12_isLess_0 : decode cX12_isLess 0 = .ok (.iconst 0, 1) := by decide +kernel
theorem dX12_isLess_1 : decode cX12_isLess 1 = .ok (.istore 4, 2) := by decide +kernel
theorem dX12_isLess_3 : decode cX12_isLess 3 = .ok (.iload 4, 2) := by decide +kernel
theorem dX12_isLess_5 : decode cX12_isLess 5 = .ok (.aload_n 0, 1) := by decide +kernel
theorem dX12_isLess_6 : decode cX12_isLess 6 = .ok (.iload_n 1, 1) := by decide +kernel
theorem dX12_isLess_7 : decode cX12_isLess 7 = .ok (.invokevirtual 100, 3) := by decide +kernel
theorem dX12_isLess_10 : decode cX12_isLess 10 = .ok (.if_icmp .ge 49, 3) := by decide +kernel
theorem dX12_isLess_13 : decode cX12_isLess 13 = .ok (.aload_n 0, 1) := by decide +kernel
theorem dX12_isLess_14 : decode cX12_isLess 14 = .ok (.iload_n 1, 1) := by decide +kernel
theorem dX12_isLess_15 : decode cX12_isLess 15 = .ok (.iload_n 2, 1) := by decide +kernel
theorem dX12_isLess_16 : decode cX12_isLess 16 = .ok (.iload 4, 2) := by decide +kernel
theorem dX12_isLess_18 : decode cX12_isLess 18 = .ok (.invokevirtual 138, 3) := by decide +kernel
theorem dX12_isLess_21 : decode cX12_isLess 21 = .ok (.istore 5, 2) := by decide +kernel
theorem dX12_isLess_23 : decode cX12_isLess 23 = .ok (.aload_n 0, 1) := by decide +kernel
theorem dX12_isLess_24 : decode cX12_isLess 24 = .ok (.iload_n 1, 1) := by decide +kernel
theorem dX12_isLess_25 : decode cX12_isLess 25 = .ok (.iload_n 3, 1) := by decide +kernel
theorem dX12_isLess_26 : decode cX12_isLess 26 = .ok (.iload 4, 2) := by decide +kernel
theorem dX12_isLess_28 : decode cX12_isLess 28 = .ok (.invokevirtual 138, 3) := by decide +kernel
theorem dX12_isLess_31 : decode cX12_isLess 31 = .ok (.istore 6, 2) := by decide +kernel
theorem dX12_isLess_33 : decode cX12_isLess 33 = .ok (.iload 5, 2) := by decide +kernel
theorem dX12_isLess_35 : decode cX12_isLess 35 = .ok (.iload 6, 2) := by decide +kernel
theorem dX12_isLess_37 : decode cX12_isLess 37 = .ok (.if_icmp .eq 16, 3) := by decide +kernel
theorem dX12_isLess_40 : decode cX12_isLess 40 = .ok (.iload 5, 2) := by decide +kernel
theorem dX12_isLess_42 : decode cX12_isLess 42 = .ok (.iload 6, 2) := by decide +kernel
theorem dX12_isLess_44 : decode cX12_isLess 44 = .ok (.if_icmp .ge 7, 3) := by decide +kernel
theorem dX12_isLess_47 : decode cX12_isLess 47 = .ok (.iconst 1, 1) := by decide +kernel
theorem dX12_isLess_48 : decode cX12_isLess 48 = .ok (.goto 4, 3) := by decide +kernel
theorem dX12_isLess_51 : decode cX12_isLess 51 = .ok (.iconst 0, 1) := by decide +kernel
theorem dX12_isLess_52 : decode cX12_isLess 52 = .ok (.ireturn, 1) := by decide +kernel
theorem dX12_isLess_53 : decode cX12_isLess 53 = .ok (.iinc 4 1, 3) := by decide +kernel
theorem dX12_isLess_56 : decode cX12_isLess 56 = .ok (.goto (-53), 3) := by decide +kernel
theorem dX12_isLess_59 : decode cX12_isLess 59 = .ok (.iconst 0, 1) := by decide +kernel
theorem dX12_isLess_60 : decode cX12_isLess 60 = .ok (.ireturn, 1) := by decide +kernel
theorem dX12_least_0 : decode cX12_least 0 = .ok (.aload_n 0, 1) := by decide +kernel
theorem dX12_least_1 : decode cX12_least 1 = .ok (.aload_n 0, 1) := by decide +kernel
theorem dX12_least_2 : decode cX12_least 2 = .ok (.iload_n 1, 1) := by decide +kernel
theorem dX12_least_3 : decode cX12_least 3 = .ok (.iload_n 2, 1) := by decide +kernel
theorem dX12_least_4 : decode cX12_least 4 = .ok (.iload_n 3, 1) := by decide +kernel
theorem dX12_least_5 : decode cX12_least 5 = .ok (.invokevirtual 73, 3) := by decide +kernel
theorem dX12_least_8 : decode cX12_least 8 = .ok (.ifCond .eq 7, 3) := by decide +kernel
theorem dX12_least_11 : decode cX12_least 11 = .ok (.iconst 0, 1) := by decide +kernel
theorem dX12_least_12 : decode cX12_least 12 = .ok (.goto 4, 3) := by decide +kernel
theorem dX12_least_15 : decode cX12_least 15 = .ok (.iconst 1, 1) := by decide +kernel
theorem dX12_least_16 : decode cX12_least 16 = .ok (.invokevirtual 63, 3) := by decide +kernel
theorem dX12_least_19 : decode cX12_least 19 = .ok (.ifCond .ne 5, 3) := by decide +kernel
theorem dX12_least_22 : decode cX12_least 22 = .ok (.iconst 0, 1) := by decide +kernel
theorem dX12_least_23 : decode cX12_least 23 = .ok (.ireturn, 1) := by decide +kernel
theorem dX12_least_24 : decode cX12_least 24 = .ok (.iconst 0, 1) := by decide +kernel
theorem dX12_least_25 : decode cX12_least 25 = .ok (.istore 4, 2) := by decide +kernel
theorem dX12_least_27 : decode cX12_least 27 = .ok (.iconst 1, 1) := by decide +kernel
theorem dX12_least_28 : decode cX12_least 28 = .ok (.istore 5, 2) := by decide +kernel
theorem dX12_least_30 : decode cX12_least 30 = .ok (.iload 5, 2) := by decide +kernel
theorem dX12_least_32 : decode cX12_least 32 = .ok (.bipush 8, 2) := by decide +kernel
theorem dX12_least_34 : decode cX12_least 34 = .ok (.if_icmp .ge 30, 3) := by decide +kernel
theorem dX12_least_37 : decode cX12_least 37 = .ok (.aload_n 0, 1) := by decide +kernel
theorem dX12_least_38 : decode cX12_least 38 = .ok (.iload_n 1, 1) := by decide +kernel
theorem dX12_least_39 : decode cX12_least 39 = .ok (.iload 5, 2) := by decide +kernel
theorem dX12_least_41 : decode cX12_least 41 = .ok (.iload 4, 2) := by decide +kernel
theorem dX12_least_43 : decode cX12_least 43 = .ok (.invokevirtual 147, 3) := by decide +kernel
theorem dX12_least_46 : decode cX12_least 46 = .ok (.ifCond .eq 8, 3) := by decide +kernel
theorem dX12_least_49 : decode cX12_least 49 = .ok (.iload 5, 2) := by decide +kernel
theorem dX12_least_51 : decode cX12_least 51 = .ok (.goto 5, 3) := by decide +kernel
theorem dX12_least_54 : decode cX12_least 54 = .ok (.iload 4, 2) := by decide +kernel
theorem dX12_least_56 : decode cX12_least 56 = .ok (.istore 4, 2) := by decide +kernel
theorem dX12_least_58 : decode cX12_least 58 = .ok (.iinc 5 1, 3) := by decide +kernel
theorem dX12_least_61 : decode cX12_least 61 = .ok (.goto (-31), 3) := by decide +kernel
theorem dX12_least_64 : decode cX12_least 64 = .ok (.aload_n 0, 1) := by decide +kernel
theorem dX12_least_65 : decode cX12_least 65 = .ok (.iload_n 1, 1) := by decide +kernel
theorem dX12_least_66 : decode cX12_least 66 = .ok (.iload 4, 2) := by decide +kernel
theorem dX12_least_68 : decode cX12_least 68 = .ok (.aload_n 0, 1) := by decide +kernel
theorem dX12_least_69 : decode cX12_least 69 = .ok (.getfield 7, 3) := by decide +kernel
theorem dX12_least_72 : decode cX12_least 72 = .ok (.iload_n 1, 1) := by decide +kernel
theorem dX12_least_73 : decode cX12_least 73 = .ok (.iaload, 1) := by decide +kernel
theorem dX12_least_74 : decode cX12_least 74 = .ok (.iload_n 2, 1) := by decide +kernel
theorem dX12_least_75 : decode cX12_least 75 = .ok (.imul, 1) := by decide +kernel
theorem dX12_least_76 : decode cX12_least 76 = .ok (.iload_n 3, 1) := by decide +kernel
theorem dX12_least_77 : decode cX12_least 77 = .ok (.iadd, 1) := by decide +kernel
theorem dX12_least_78 : decode cX12_least 78 = .ok (.invokevirtual 138, 3) := by decide +kernel
theorem dX12_least_81 : decode cX12_least 81 = .ok (.ireturn, 1) := by decide +kernel
theorem dX12_kin_0 : decode cX12_kin 0 = .ok (.aload_n 0, 1) := by decide +kernel
theorem dX12_kin_1 : decode cX12_kin 1 = .ok (.aload_n 0, 1) := by decide +kernel
theorem dX12_kin_2 : decode cX12_kin 2 = .ok (.iload_n 1, 1) := by decide +kernel
theorem dX12_kin_3 : decode cX12_kin 3 = .ok (.invokevirtual 59, 3) := by decide +kernel
theorem dX12_kin_6 : decode cX12_kin 6 = .ok (.ifCond .eq 7, 3) := by decide +kernel
theorem dX12_kin_9 : decode cX12_kin 9 = .ok (.iconst 0, 1) := by decide +kernel
theorem dX12_kin_10 : decode cX12_kin 10 = .ok (.goto 4, 3) := by decide +kernel
theorem dX12_kin_13 : decode cX12_kin 13 = .ok (.iconst 1, 1) := by decide +kernel
theorem dX12_kin_14 : decode cX12_kin 14 = .ok (.invokevirtual 63, 3) := by decide +kernel
theorem dX12_kin_17 : decode cX12_kin 17 = .ok (.ifCond .ne 5, 3) := by decide +kernel
theorem dX12_kin_20 : decode cX12_kin 20 = .ok (.iconst 0, 1) := by decide +kernel
theorem dX12_kin_21 : decode cX12_kin 21 = .ok (.ireturn, 1) := by decide +kernel
theorem dX12_kin_22 : decode cX12_kin 22 = .ok (.iconst 0, 1) := by decide +kernel
theorem dX12_kin_23 : decode cX12_kin 23 = .ok (.istore_n 2, 1) := by decide +kernel
theorem dX12_kin_24 : decode cX12_kin 24 = .ok (.iconst 0, 1) := by decide +kernel
theorem dX12_kin_25 : decode cX12_kin 25 = .ok (.istore_n 3, 1) := by decide +kernel
theorem dX12_kin_26 : decode cX12_kin 26 = .ok (.iload_n 3, 1) := by decide +kernel
theorem dX12_kin_27 : decode cX12_kin 27 = .ok (.bipush 8, 2) := by decide +kernel
theorem dX12_kin_29 : decode cX12_kin 29 = .ok (.if_icmp .ge 27, 3) := by decide +kernel
theorem dX12_kin_32 : decode cX12_kin 32 = .ok (.iload_n 2, 1) := by decide +kernel
theorem dX12_kin_33 : decode cX12_kin 33 = .ok (.aload_n 0, 1) := by decide +kernel
theorem dX12_kin_34 : decode cX12_kin 34 = .ok (.iload_n 1, 1) := by decide +kernel
theorem dX12_kin_35 : decode cX12_kin 35 = .ok (.iload_n 3, 1) := by decide +kernel
theorem dX12_kin_36 : decode cX12_kin 36 = .ok (.iload_n 1, 1) := by decide +kernel
theorem dX12_kin_37 : decode cX12_kin 37 = .ok (.invokevirtual 141, 3) := by decide +kernel
theorem dX12_kin_40 : decode cX12_kin 40 = .ok (.ifCond .eq 7, 3) := by decide +kernel
theorem dX12_kin_43 : decode cX12_kin 43 = .ok (.iconst 1, 1) := by decide +kernel
theorem dX12_kin_44 : decode cX12_kin 44 = .ok (.goto 4, 3) := by decide +kernel
theorem dX12_kin_47 : decode cX12_kin 47 = .ok (.iconst 0, 1) := by decide +kernel
theorem dX12_kin_48 : decode cX12_kin 48 = .ok (.iadd, 1) := by decide +kernel
theorem dX12_kin_49 : decode cX12_kin 49 = .ok (.istore_n 2, 1) := by decide +kernel
theorem dX12_kin_50 : decode cX12_kin 50 = .ok (.iinc 3 1, 3) := by decide +kernel
theorem dX12_kin_53 : decode cX12_kin 53 = .ok (.goto (-27), 3) := by decide +kernel
theorem dX12_kin_56 : decode cX12_kin 56 = .ok (.iload_n 2, 1) := by decide +kernel
theorem dX12_kin_57 : decode cX12_kin 57 = .ok (.ireturn, 1) := by decide +kernel
theorem dX12_classes_0 : decode cX12_classes 0 = .ok (.aload_n 0, 1) := by decide +kernel
theorem dX12_classes_1 : decode cX12_classes 1 = .ok (.iconst 0, 1) := by decide +kernel
theorem dX12_classes_2 : decode cX12_classes 2 = .ok (.putfield 48, 3) := by decide +kernel
theorem dX12_classes_5 : decode cX12_classes 5 = .ok (.iconst 0, 1) := by decide +kernel
theorem dX12_classes_6 : decode cX12_classes 6 = .ok (.istore_n 1, 1) := by decide +kernel
theorem dX12_classes_7 : decode cX12_classes 7 = .ok (.iconst 0, 1) := by decide +kernel
theorem dX12_classes_8 : decode cX12_classes 8 = .ok (.istore_n 2, 1) := by decide +kernel
theorem dX12_classes_9 : decode cX12_classes 9 = .ok (.iload_n 2, 1) := by decide +kernel
theorem dX12_classes_10 : decode cX12_classes 10 = .ok (.aload_n 0, 1) := by decide +kernel
theorem dX12_classes_11 : decode cX12_classes 11 = .ok (.getfield 52, 3) := by decide +kernel
theorem dX12_classes_14 : decode cX12_classes 14 = .ok (.if_icmp .ge 58, 3) := by decide +kernel
theorem dX12_classes_17 : decode cX12_classes 17 = .ok (.iconst 1, 1) := by decide +kernel
theorem dX12_classes_18 : decode cX12_classes 18 = .ok (.istore_n 3, 1) := by decide +kernel
theorem dX12_classes_19 : decode cX12_classes 19 = .ok (.iconst 0, 1) := by decide +kernel
theorem dX12_classes_20 : decode cX12_classes 20 = .ok (.istore 4, 2) := by decide +kernel
theorem dX12_classes_22 : decode cX12_classes 22 = .ok (.iload 4, 2) := by decide +kernel
theorem dX12_classes_24 : decode cX12_classes 24 = .ok (.iload_n 2, 1) := by decide +kernel
theorem dX12_classes_25 : decode cX12_classes 25 = .ok (.if_icmp .ge 29, 3) := by decide +kernel
theorem dX12_classes_28 : decode cX12_classes 28 = .ok (.iload_n 3, 1) := by decide +kernel
theorem dX12_classes_29 : decode cX12_classes 29 = .ok (.ifCond .eq 17, 3) := by decide +kernel
theorem dX12_classes_32 : decode cX12_classes 32 = .ok (.aload_n 0, 1) := by decide +kernel
theorem dX12_classes_33 : decode cX12_classes 33 = .ok (.iload_n 2, 1) := by decide +kernel
theorem dX12_classes_34 : decode cX12_classes 34 = .ok (.iload 4, 2) := by decide +kernel
theorem dX12_classes_36 : decode cX12_classes 36 = .ok (.invokevirtual 144, 3) := by decide +kernel
theorem dX12_classes_39 : decode cX12_classes 39 = .ok (.ifCond .ne 7, 3) := by decide +kernel
theorem dX12_classes_42 : decode cX12_classes 42 = .ok (.iconst 1, 1) := by decide +kernel
theorem dX12_classes_43 : decode cX12_classes 43 = .ok (.goto 4, 3) := by decide +kernel
theorem dX12_classes_46 : decode cX12_classes 46 = .ok (.iconst 0, 1) := by decide +kernel
theorem dX12_classes_47 : decode cX12_classes 47 = .ok (.istore_n 3, 1) := by decide +kernel
theorem dX12_classes_48 : decode cX12_classes 48 = .ok (.iinc 4 1, 3) := by decide +kernel
theorem dX12_classes_51 : decode cX12_classes 51 = .ok (.goto (-29), 3) := by decide +kernel
theorem dX12_classes_54 : decode cX12_classes 54 = .ok (.iload_n 1, 1) := by decide +kernel
theorem dX12_classes_55 : decode cX12_classes 55 = .ok (.iload_n 3, 1) := by decide +kernel
theorem dX12_classes_56 : decode cX12_classes 56 = .ok (.ifCond .eq 7, 3) := by decide +kernel
theorem dX12_classes_59 : decode cX12_classes 59 = .ok (.iconst 1, 1) := by decide +kernel
theorem dX12_classes_60 : decode cX12_classes 60 = .ok (.goto 4, 3) := by decide +kernel
theorem dX12_classes_63 : decode cX12_classes 63 = .ok (.iconst 0, 1) := by decide +kernel
theorem dX12_classes_64 : decode cX12_classes 64 = .ok (.iadd, 1) := by decide +kernel
theorem dX12_classes_65 : decode cX12_classes 65 = .ok (.istore_n 1, 1) := by decide +kernel
theorem dX12_classes_66 : decode cX12_classes 66 = .ok (.iinc 2 1, 3) := by decide +kernel
theorem dX12_classes_69 : decode cX12_classes 69 = .ok (.goto (-60), 3) := by decide +kernel
theorem dX12_classes_72 : decode cX12_classes 72 = .ok (.iload_n 1, 1) := by decide +kernel
theorem dX12_classes_73 : decode cX12_classes 73 = .ok (.ireturn, 1) := by decide +kernel
theorem dX12_isLineFit_0 : decode cX12_isLineFit 0 = .ok (.iconst 0, 1) := by decide +kernel
theorem dX12_isLineFit_1 : decode cX12_isLineFit 1 = .ok (.istore_n 3, 1) := by decide +kernel
theorem dX12_isLineFit_2 : decode cX12_isLineFit 2 = .ok (.iconst 1, 1) := by decide +kernel
theorem dX12_isLineFit_3 : decode cX12_isLineFit 3 = .ok (.istore 4, 2) := by decide +kernel
theorem dX12_isLineFit_5 : decode cX12_isLineFit 5 = .ok (.iconst 0, 1) := by decide +kernel
theorem dX12_isLineFit_6 : decode cX12_isLineFit 6 = .ok (.istore 5, 2) := by decide +kernel
theorem dX12_isLineFit_8 : decode cX12_isLineFit 8 = .ok (.iload 5, 2) := by decide +kernel
theorem dX12_isLineFit_10 : decode cX12_isLineFit 10 = .ok (.aload_n 0, 1) := by decide +kernel
theorem dX12_isLineFit_11 : decode cX12_isLineFit 11 = .ok (.getfield 150, 3) := by decide +kernel
theorem dX12_isLineFit_14 : decode cX12_isLineFit 14 = .ok (.if_icmp .ge 44, 3) := by decide +kernel
theorem dX12_isLineFit_17 : decode cX12_isLineFit 17 = .ok (.aload_n 0, 1) := by decide +kernel
theorem dX12_isLineFit_18 : decode cX12_isLineFit 18 = .ok (.getfield 19, 3) := by decide +kernel
theorem dX12_isLineFit_21 : decode cX12_isLineFit 21 = .ok (.iload_n 1, 1) := by decide +kernel
theorem dX12_isLineFit_22 : decode cX12_isLineFit 22 = .ok (.iload 5, 2) := by decide +kernel
theorem dX12_isLineFit_24 : decode cX12_isLineFit 24 = .ok (.iload_n 2, 1) := by decide +kernel
theorem dX12_isLineFit_25 : decode cX12_isLineFit 25 = .ok (.imul, 1) := by decide +kernel
theorem dX12_isLineFit_26 : decode cX12_isLineFit 26 = .ok (.iadd, 1) := by decide +kernel
theorem dX12_isLineFit_27 : decode cX12_isLineFit 27 = .ok (.iaload, 1) := by decide +kernel
theorem dX12_isLineFit_28 : decode cX12_isLineFit 28 = .ok (.istore 6, 2) := by decide +kernel
theorem dX12_isLineFit_30 : decode cX12_isLineFit 30 = .ok (.iload_n 3, 1) := by decide +kernel
theorem dX12_isLineFit_31 : decode cX12_isLineFit 31 = .ok (.iload 6, 2) := by decide +kernel
theorem dX12_isLineFit_33 : decode cX12_isLineFit 33 = .ok (.iadd, 1) := by decide +kernel
theorem dX12_isLineFit_34 : decode cX12_isLineFit 34 = .ok (.istore_n 3, 1) := by decide +kernel
theorem dX12_isLineFit_35 : decode cX12_isLineFit 35 = .ok (.iload 4, 2) := by decide +kernel
theorem dX12_isLineFit_37 : decode cX12_isLineFit 37 = .ok (.ifCond .eq 12, 3) := by decide +kernel
theorem dX12_isLineFit_40 : decode cX12_isLineFit 40 = .ok (.iload 6, 2) := by decide +kernel
theorem dX12_isLineFit_42 : decode cX12_isLineFit 42 = .ok (.ifCond .le 7, 3) := by decide +kernel
theorem dX12_isLineFit_45 : decode cX12_isLineFit 45 = .ok (.iconst 1, 1) := by decide +kernel
theorem dX12_isLineFit_46 : decode cX12_isLineFit 46 = .ok (.goto 4, 3) := by decide +kernel
theorem dX12_isLineFit_49 : decode cX12_isLineFit 49 = .ok (.iconst 0, 1) := by decide +kernel
theorem dX12_isLineFit_50 : decode cX12_isLineFit 50 = .ok (.istore 4, 2) := by decide +kernel
theorem dX12_isLineFit_52 : decode cX12_isLineFit 52 = .ok (.iinc 5 1, 3) := by decide +kernel
theorem dX12_isLineFit_55 : decode cX12_isLineFit 55 = .ok (.goto (-47), 3) := by decide +kernel
theorem dX12_isLineFit_58 : decode cX12_isLineFit 58 = .ok (.aload_n 0, 1) := by decide +kernel
theorem dX12_isLineFit_59 : decode cX12_isLineFit 59 = .ok (.getfield 150, 3) := by decide +kernel
theorem dX12_isLineFit_62 : decode cX12_isLineFit 62 = .ok (.aload_n 0, 1) := by decide +kernel
theorem dX12_isLineFit_63 : decode cX12_isLineFit 63 = .ok (.getfield 150, 3) := by decide +kernel
theorem dX12_isLineFit_66 : decode cX12_isLineFit 66 = .ok (.aload_n 0, 1) := by decide +kernel
theorem dX12_isLineFit_67 : decode cX12_isLineFit 67 = .ok (.getfield 150, 3) := by decide +kernel
theorem dX12_isLineFit_70 : decode cX12_isLineFit 70 = .ok (.imul, 1) := by decide +kernel
theorem dX12_isLineFit_71 : decode cX12_isLineFit 71 = .ok (.iconst 1, 1) := by decide +kernel
theorem dX12_isLineFit_72 : decode cX12_isLineFit 72 = .ok (.iadd, 1) := by decide +kernel
theorem dX12_isLineFit_73 : decode cX12_isLineFit 73 = .ok (.imul, 1) := by decide +kernel
theorem dX12_isLineFit_74 : decode cX12_isLineFit 74 = .ok (.iconst 2, 1) := by decide +kernel
theorem dX12_isLineFit_75 : decode cX12_isLineFit 75 = .ok (.idiv, 1) := by decide +kernel
theorem dX12_isLineFit_76 : decode cX12_isLineFit 76 = .ok (.istore 5, 2) := by decide +kernel
theorem dX12_isLineFit_78 : decode cX12_isLineFit 78 = .ok (.iload 4, 2) := by decide +kernel
theorem dX12_isLineFit_80 : decode cX12_isLineFit 80 = .ok (.ifCond .eq 17, 3) := by decide +kernel
theorem dX12_isLineFit_83 : decode cX12_isLineFit 83 = .ok (.iload_n 3, 1) := by decide +kernel
theorem dX12_isLineFit_84 : decode cX12_isLineFit 84 = .ok (.iload 5, 2) := by decide +kernel
theorem dX12_isLineFit_86 : decode cX12_isLineFit 86 = .ok (.if_icmp .ne 7, 3) := by decide +kernel
theorem dX12_isLineFit_89 : decode cX12_isLineFit 89 = .ok (.iconst 1, 1) := by decide +kernel
theorem dX12_isLineFit_90 : decode cX12_isLineFit 90 = .ok (.goto 18, 3) := by decide +kernel
theorem dX12_isLineFit_93 : decode cX12_isLineFit 93 = .ok (.iconst 0, 1) := by decide +kernel
theorem dX12_isLineFit_94 : decode cX12_isLineFit 94 = .ok (.goto 14, 3) := by decide +kernel
theorem dX12_isLineFit_97 : decode cX12_isLineFit 97 = .ok (.iload_n 3, 1) := by decide +kernel
theorem dX12_isLineFit_98 : decode cX12_isLineFit 98 = .ok (.iload 5, 2) := by decide +kernel
theorem dX12_isLineFit_100 : decode cX12_isLineFit 100 = .ok (.if_icmp .ge 7, 3) := by decide +kernel
theorem dX12_isLineFit_103 : decode cX12_isLineFit 103 = .ok (.iconst 1, 1) := by decide +kernel
theorem dX12_isLineFit_104 : decode cX12_isLineFit 104 = .ok (.goto 4, 3) := by decide +kernel
theorem dX12_isLineFit_107 : decode cX12_isLineFit 107 = .ok (.iconst 0, 1) := by decide +kernel
theorem dX12_isLineFit_108 : decode cX12_isLineFit 108 = .ok (.ireturn, 1) := by decide +kernel
theorem dX12_isFit_0 : decode cX12_isFit 0 = .ok (.iconst 0, 1) := by decide +kernel
theorem dX12_isFit_1 : decode cX12_isFit 1 = .ok (.istore_n 1, 1) := by decide +kernel
theorem dX12_isFit_2 : decode cX12_isFit 2 = .ok (.aload_n 0, 1) := by decide +kernel
theorem dX12_isFit_3 : decode cX12_isFit 3 = .ok (.iconst 0, 1) := by decide +kernel
theorem dX12_isFit_4 : decode cX12_isFit 4 = .ok (.aload_n 0, 1) := by decide +kernel
theorem dX12_isFit_5 : decode cX12_isFit 5 = .ok (.getfield 150, 3) := by decide +kernel
theorem dX12_isFit_8 : decode cX12_isFit 8 = .ok (.iconst 1, 1) := by decide +kernel
theorem dX12_isFit_9 : decode cX12_isFit 9 = .ok (.iadd, 1) := by decide +kernel
theorem dX12_isFit_10 : decode cX12_isFit 10 = .ok (.invokevirtual 153, 3) := by decide +kernel
theorem dX12_isFit_13 : decode cX12_isFit 13 = .ok (.ifCond .eq 38, 3) := by decide +kernel
theorem dX12_isFit_16 : decode cX12_isFit 16 = .ok (.aload_n 0, 1) := by decide +kernel
theorem dX12_isFit_17 : decode cX12_isFit 17 = .ok (.aload_n 0, 1) := by decide +kernel
theorem dX12_isFit_18 : decode cX12_isFit 18 = .ok (.getfield 150, 3) := by decide +kernel
theorem dX12_isFit_21 : decode cX12_isFit 21 = .ok (.iconst 1, 1) := by decide +kernel
theorem dX12_isFit_22 : decode cX12_isFit 22 = .ok (.isub, 1) := by decide +kernel
theorem dX12_isFit_23 : decode cX12_isFit 23 = .ok (.aload_n 0, 1) := by decide +kernel
theorem dX12_isFit_24 : decode cX12_isFit 24 = .ok (.getfield 150, 3) := by decide +kernel
theorem dX12_isFit_27 : decode cX12_isFit 27 = .ok (.iconst 1, 1) := by decide +kernel
theorem dX12_isFit_28 : decode cX12_isFit 28 = .ok (.if_icmp .le 12, 3) := by decide +kernel
theorem dX12_isFit_31 : decode cX12_isFit 31 = .ok (.aload_n 0, 1) := by decide +kernel
theorem dX12_isFit_32 : decode cX12_isFit 32 = .ok (.getfield 150, 3) := by decide +kernel
theorem dX12_isFit_35 : decode cX12_isFit 35 = .ok (.iconst 1, 1) := by decide +kernel
theorem dX12_isFit_36 : decode cX12_isFit 36 = .ok (.isub, 1) := by decide +kernel
theorem dX12_isFit_37 : decode cX12_isFit 37 = .ok (.goto 4, 3) := by decide +kernel
theorem dX12_isFit_40 : decode cX12_isFit 40 = .ok (.iconst 1, 1) := by decide +kernel
theorem dX12_isFit_41 : decode cX12_isFit 41 = .ok (.invokevirtual 153, 3) := by decide +kernel
theorem dX12_isFit_44 : decode cX12_isFit 44 = .ok (.ifCond .eq 7, 3) := by decide +kernel
theorem dX12_isFit_47 : decode cX12_isFit 47 = .ok (.iconst 1, 1) := by decide +kernel
theorem dX12_isFit_48 : decode cX12_isFit 48 = .ok (.goto 4, 3) := by decide +kernel
theorem dX12_isFit_51 : decode cX12_isFit 51 = .ok (.iconst 0, 1) := by decide +kernel
theorem dX12_isFit_52 : decode cX12_isFit 52 = .ok (.istore_n 2, 1) := by decide +kernel
theorem dX12_isFit_53 : decode cX12_isFit 53 = .ok (.iconst 0, 1) := by decide +kernel
theorem dX12_isFit_54 : decode cX12_isFit 54 = .ok (.istore_n 3, 1) := by decide +kernel
theorem dX12_isFit_55 : decode cX12_isFit 55 = .ok (.iload_n 3, 1) := by decide +kernel
theorem dX12_isFit_56 : decode cX12_isFit 56 = .ok (.aload_n 0, 1) := by decide +kernel
theorem dX12_isFit_57 : decode cX12_isFit 57 = .ok (.getfield 150, 3) := by decide +kernel
theorem dX12_isFit_60 : decode cX12_isFit 60 = .ok (.aload_n 0, 1) := by decide +kernel
theorem dX12_isFit_61 : decode cX12_isFit 61 = .ok (.getfield 150, 3) := by decide +kernel
theorem dX12_isFit_64 : decode cX12_isFit 64 = .ok (.imul, 1) := by decide +kernel
theorem dX12_isFit_65 : decode cX12_isFit 65 = .ok (.if_icmp .ge 87, 3) := by decide +kernel
theorem dX12_isFit_68 : decode cX12_isFit 68 = .ok (.iload_n 2, 1) := by decide +kernel
theorem dX12_isFit_69 : decode cX12_isFit 69 = .ok (.ifCond .eq 83, 3) := by decide +kernel
theorem dX12_isFit_72 : decode cX12_isFit 72 = .ok (.aload_n 0, 1) := by decide +kernel
theorem dX12_isFit_73 : decode cX12_isFit 73 = .ok (.getfield 19, 3) := by decide +kernel
theorem dX12_isFit_76 : decode cX12_isFit 76 = .ok (.iload_n 3, 1) := by decide +kernel
theorem dX12_isFit_77 : decode cX12_isFit 77 = .ok (.iaload, 1) := by decide +kernel
theorem dX12_isFit_78 : decode cX12_isFit 78 = .ok (.aload_n 0, 1) := by decide +kernel
theorem dX12_isFit_79 : decode cX12_isFit 79 = .ok (.getfield 150, 3) := by decide +kernel
theorem dX12_isFit_82 : decode cX12_isFit 82 = .ok (.aload_n 0, 1) := by decide +kernel
theorem dX12_isFit_83 : decode cX12_isFit 83 = .ok (.getfield 150, 3) := by decide +kernel
theorem dX12_isFit_86 : decode cX12_isFit 86 = .ok (.imul, 1) := by decide +kernel
theorem dX12_isFit_87 : decode cX12_isFit 87 = .ok (.if_icmp .gt 29, 3) := by decide +kernel
theorem dX12_isFit_90 : decode cX12_isFit 90 = .ok (.aload_n 0, 1) := by decide +kernel
theorem dX12_isFit_91 : decode cX12_isFit 91 = .ok (.getfield 19, 3) := by decide +kernel
theorem dX12_isFit_94 : decode cX12_isFit 94 = .ok (.iload_n 3, 1) := by decide +kernel
theorem dX12_isFit_95 : decode cX12_isFit 95 = .ok (.iaload, 1) := by decide +kernel
theorem dX12_isFit_96 : decode cX12_isFit 96 = .ok (.ifCond .eq 16, 3) := by decide +kernel
theorem dX12_isFit_99 : decode cX12_isFit 99 = .ok (.iload_n 1, 1) := by decide +kernel
theorem dX12_isFit_100 : decode cX12_isFit 100 = .ok (.aload_n 0, 1) := by decide +kernel
theorem dX12_isFit_101 : decode cX12_isFit 101 = .ok (.getfield 19, 3) := by decide +kernel
theorem dX12_isFit_104 : decode cX12_isFit 104 = .ok (.iload_n 3, 1) := by decide +kernel
theorem dX12_isFit_105 : decode cX12_isFit 105 = .ok (.iaload, 1) := by decide +kernel
theorem dX12_isFit_106 : decode cX12_isFit 106 = .ok (.ishr, 1) := by decide +kernel
theorem dX12_isFit_107 : decode cX12_isFit 107 = .ok (.iconst 1, 1) := by decide +kernel
theorem dX12_isFit_108 : decode cX12_isFit 108 = .ok (.iand, 1) := by decide +kernel
theorem dX12_isFit_109 : decode cX12_isFit 109 = .ok (.ifCond .ne 7, 3) := by decide +kernel
theorem dX12_isFit_112 : decode cX12_isFit 112 = .ok (.iconst 1, 1) := by decide +kernel
theorem dX12_isFit_113 : decode cX12_isFit 113 = .ok (.goto 4, 3) := by decide +kernel
theorem dX12_isFit_116 : decode cX12_isFit 116 = .ok (.iconst 0, 1) := by decide +kernel
theorem dX12_isFit_117 : decode cX12_isFit 117 = .ok (.istore_n 2, 1) := by decide +kernel
theorem dX12_isFit_118 : decode cX12_isFit 118 = .ok (.iload_n 1, 1) := by decide +kernel
theorem dX12_isFit_119 : decode cX12_isFit 119 = .ok (.iload_n 2, 1) := by decide +kernel
theorem dX12_isFit_120 : decode cX12_isFit 120 = .ok (.ifCond .eq 23, 3) := by decide +kernel
theorem dX12_isFit_123 : decode cX12_isFit 123 = .ok (.aload_n 0, 1) := by decide +kernel
theorem dX12_isFit_124 : decode cX12_isFit 124 = .ok (.getfield 19, 3) := by decide +kernel
theorem dX12_isFit_127 : decode cX12_isFit 127 = .ok (.iload_n 3, 1) := by decide +kernel
theorem dX12_isFit_128 : decode cX12_isFit 128 = .ok (.iaload, 1) := by decide +kernel
theorem dX12_isFit_129 : decode cX12_isFit 129 = .ok (.ifCond .le 14, 3) := by decide +kernel
theorem dX12_isFit_132 : decode cX12_isFit 132 = .ok (.iconst 1, 1) := by decide +kernel
theorem dX12_isFit_133 : decode cX12_isFit 133 = .ok (.aload_n 0, 1) := by decide +kernel
theorem dX12_isFit_134 : decode cX12_isFit 134 = .ok (.getfield 19, 3) := by decide +kernel
theorem dX12_isFit_137 : decode cX12_isFit 137 = .ok (.iload_n 3, 1) := by decide +kernel
theorem dX12_isFit_138 : decode cX12_isFit 138 = .ok (.iaload, 1) := by decide +kernel
theorem dX12_isFit_139 : decode cX12_isFit 139 = .ok (.ishl, 1) := by decide +kernel
theorem dX12_isFit_140 : decode cX12_isFit 140 = .ok (.goto 4, 3) := by decide +kernel
theorem dX12_isFit_143 : decode cX12_isFit 143 = .ok (.iconst 0, 1) := by decide +kernel
theorem dX12_isFit_144 : decode cX12_isFit 144 = .ok (.ior, 1) := by decide +kernel
theorem dX12_isFit_145 : decode cX12_isFit 145 = .ok (.istore_n 1, 1) := by decide +kernel
theorem dX12_isFit_146 : decode cX12_isFit 146 = .ok (.iinc 3 1, 3) := by decide +kernel
theorem dX12_isFit_149 : decode cX12_isFit 149 = .ok (.goto (-94), 3) := by decide +kernel
theorem dX12_isFit_152 : decode cX12_isFit 152 = .ok (.iconst 0, 1) := by decide +kernel
theorem dX12_isFit_153 : decode cX12_isFit 153 = .ok (.istore_n 3, 1) := by decide +kernel
theorem dX12_isFit_154 : decode cX12_isFit 154 = .ok (.iload_n 3, 1) := by decide +kernel
theorem dX12_isFit_155 : decode cX12_isFit 155 = .ok (.aload_n 0, 1) := by decide +kernel
theorem dX12_isFit_156 : decode cX12_isFit 156 = .ok (.getfield 150, 3) := by decide +kernel
theorem dX12_isFit_159 : decode cX12_isFit 159 = .ok (.if_icmp .ge 45, 3) := by decide +kernel
theorem dX12_isFit_162 : decode cX12_isFit 162 = .ok (.iload_n 2, 1) := by decide +kernel
theorem dX12_isFit_163 : decode cX12_isFit 163 = .ok (.ifCond .eq 41, 3) := by decide +kernel
theorem dX12_isFit_166 : decode cX12_isFit 166 = .ok (.aload_n 0, 1) := by decide +kernel
theorem dX12_isFit_167 : decode cX12_isFit 167 = .ok (.aload_n 0, 1) := by decide +kernel
theorem dX12_isFit_168 : decode cX12_isFit 168 = .ok (.getfield 150, 3) := by decide +kernel
theorem dX12_isFit_171 : decode cX12_isFit 171 = .ok (.iload_n 3, 1) := by decide +kernel
theorem dX12_isFit_172 : decode cX12_isFit 172 = .ok (.imul, 1) := by decide +kernel
theorem dX12_isFit_173 : decode cX12_isFit 173 = .ok (.iconst 1, 1) := by decide +kernel
theorem dX12_isFit_174 : decode cX12_isFit 174 = .ok (.invokevirtual 153, 3) := by decide +kernel
theorem dX12_isFit_177 : decode cX12_isFit 177 = .ok (.ifCond .eq 19, 3) := by decide +kernel
theorem dX12_isFit_180 : decode cX12_isFit 180 = .ok (.aload_n 0, 1) := by decide +kernel
theorem dX12_isFit_181 : decode cX12_isFit 181 = .ok (.iload_n 3, 1) := by decide +kernel
theorem dX12_isFit_182 : decode cX12_isFit 182 = .ok (.aload_n 0, 1) := by decide +kernel
theorem dX12_isFit_183 : decode cX12_isFit 183 = .ok (.getfield 150, 3) := by decide +kernel
theorem dX12_isFit_186 : decode cX12_isFit 186 = .ok (.invokevirtual 153, 3) := by decide +kernel
theorem dX12_isFit_189 : decode cX12_isFit 189 = .ok (.ifCond .eq 7, 3) := by decide +kernel
theorem dX12_isFit_192 : decode cX12_isFit 192 = .ok (.iconst 1, 1) := by decide +kernel
theorem dX12_isFit_193 : decode cX12_isFit 193 = .ok (.goto 4, 3) := by decide +kernel
theorem dX12_isFit_196 : decode cX12_isFit 196 = .ok (.iconst 0, 1) := by decide +kernel
theorem dX12_isFit_197 : decode cX12_isFit 197 = .ok (.istore_n 2, 1) := by decide +kernel
theorem dX12_isFit_198 : decode cX12_isFit 198 = .ok (.iinc 3 1, 3) := by decide +kernel
theorem dX12_isFit_201 : decode cX12_isFit 201 = .ok (.goto (-47), 3) := by decide +kernel
theorem dX12_isFit_204 : decode cX12_isFit 204 = .ok (.iload_n 2, 1) := by decide +kernel
theorem dX12_isFit_205 : decode cX12_isFit 205 = .ok (.ireturn, 1) := by decide +kernel
theorem dX12_take_0 : decode cX12_take 0 = .ok (.aload_n 0, 1) := by decide +kernel
theorem dX12_take_1 : decode cX12_take 1 = .ok (.aload_n 0, 1) := by decide +kernel
theorem dX12_take_2 : decode cX12_take 2 = .ok (.getfield 7, 3) := by decide +kernel
theorem dX12_take_5 : decode cX12_take 5 = .ok (.iload_n 1, 1) := by decide +kernel
theorem dX12_take_6 : decode cX12_take 6 = .ok (.iaload, 1) := by decide +kernel
theorem dX12_take_7 : decode cX12_take 7 = .ok (.putfield 150, 3) := by decide +kernel
theorem dX12_take_10 : decode cX12_take 10 = .ok (.aload_n 0, 1) := by decide +kernel
theorem dX12_take_11 : decode cX12_take 11 = .ok (.iconst 0, 1) := by decide +kernel
theorem dX12_take_12 : decode cX12_take 12 = .ok (.putfield 156, 3) := by decide +kernel
theorem dX12_take_15 : decode cX12_take 15 = .ok (.iconst 0, 1) := by decide +kernel
theorem dX12_take_16 : decode cX12_take 16 = .ok (.istore_n 3, 1) := by decide +kernel
theorem dX12_take_17 : decode cX12_take 17 = .ok (.iload_n 3, 1) := by decide +kernel
theorem dX12_take_18 : decode cX12_take 18 = .ok (.aload_n 0, 1) := by decide +kernel
theorem dX12_take_19 : decode cX12_take 19 = .ok (.getfield 150, 3) := by decide +kernel
theorem dX12_take_22 : decode cX12_take 22 = .ok (.aload_n 0, 1) := by decide +kernel
theorem dX12_take_23 : decode cX12_take 23 = .ok (.getfield 150, 3) := by decide +kernel
theorem dX12_take_26 : decode cX12_take 26 = .ok (.imul, 1) := by decide +kernel
theorem dX12_take_27 : decode cX12_take 27 = .ok (.if_icmp .ge 68, 3) := by decide +kernel
theorem dX12_take_30 : decode cX12_take 30 = .ok (.aload_n 0, 1) := by decide +kernel
theorem dX12_take_31 : decode cX12_take 31 = .ok (.getfield 19, 3) := by decide +kernel
theorem dX12_take_34 : decode cX12_take 34 = .ok (.iload_n 3, 1) := by decide +kernel
theorem dX12_take_35 : decode cX12_take 35 = .ok (.iload_n 2, 1) := by decide +kernel
theorem dX12_take_36 : decode cX12_take 36 = .ok (.iload_n 3, 1) := by decide +kernel
theorem dX12_take_37 : decode cX12_take 37 = .ok (.ishr, 1) := by decide +kernel
theorem dX12_take_38 : decode cX12_take 38 = .ok (.iconst 1, 1) := by decide +kernel
theorem dX12_take_39 : decode cX12_take 39 = .ok (.iand, 1) := by decide +kernel
theorem dX12_take_40 : decode cX12_take 40 = .ok (.iconst 1, 1) := by decide +kernel
theorem dX12_take_41 : decode cX12_take 41 = .ok (.if_icmp .ne 17, 3) := by decide +kernel
theorem dX12_take_44 : decode cX12_take 44 = .ok (.aload_n 0, 1) := by decide +kernel
theorem dX12_take_45 : decode cX12_take 45 = .ok (.getfield 13, 3) := by decide +kernel
theorem dX12_take_48 : decode cX12_take 48 = .ok (.bipush 81, 2) := by decide +kernel
theorem dX12_take_50 : decode cX12_take 50 = .ok (.iload_n 1, 1) := by decide +kernel
theorem dX12_take_51 : decode cX12_take 51 = .ok (.imul, 1) := by decide +kernel
theorem dX12_take_52 : decode cX12_take 52 = .ok (.iload_n 3, 1) := by decide +kernel
theorem dX12_take_53 : decode cX12_take 53 = .ok (.iadd, 1) := by decide +kernel
theorem dX12_take_54 : decode cX12_take 54 = .ok (.iaload, 1) := by decide +kernel
theorem dX12_take_55 : decode cX12_take 55 = .ok (.goto 4, 3) := by decide +kernel
theorem dX12_take_58 : decode cX12_take 58 = .ok (.iconst 0, 1) := by decide +kernel
theorem dX12_take_59 : decode cX12_take 59 = .ok (.iastore, 1) := by decide +kernel
theorem dX12_take_60 : decode cX12_take 60 = .ok (.aload_n 0, 1) := by decide +kernel
theorem dX12_take_61 : decode cX12_take 61 = .ok (.getfield 19, 3) := by decide +kernel
theorem dX12_take_64 : decode cX12_take 64 = .ok (.iload_n 3, 1) := by decide +kernel
theorem dX12_take_65 : decode cX12_take 65 = .ok (.iaload, 1) := by decide +kernel
theorem dX12_take_66 : decode cX12_take 66 = .ok (.ifCond .ne 23, 3) := by decide +kernel
theorem dX12_take_69 : decode cX12_take 69 = .ok (.aload_n 0, 1) := by decide +kernel
theorem dX12_take_70 : decode cX12_take 70 = .ok (.getfield 22, 3) := by decide +kernel
theorem dX12_take_73 : decode cX12_take 73 = .ok (.aload_n 0, 1) := by decide +kernel
theorem dX12_take_74 : decode cX12_take 74 = .ok (.getfield 156, 3) := by decide +kernel
theorem dX12_take_77 : decode cX12_take 77 = .ok (.iload_n 3, 1) := by decide +kernel
theorem dX12_take_78 : decode cX12_take 78 = .ok (.iastore, 1) := by decide +kernel
theorem dX12_take_79 : decode cX12_take 79 = .ok (.aload_n 0, 1) := by decide +kernel
theorem dX12_take_80 : decode cX12_take 80 = .ok (.dup, 1) := by decide +kernel
theorem dX12_take_81 : decode cX12_take 81 = .ok (.getfield 156, 3) := by decide +kernel
theorem dX12_take_84 : decode cX12_take 84 = .ok (.iconst 1, 1) := by decide +kernel
theorem dX12_take_85 : decode cX12_take 85 = .ok (.iadd, 1) := by decide +kernel
theorem dX12_take_86 : decode cX12_take 86 = .ok (.putfield 156, 3) := by decide +kernel
theorem dX12_take_89 : decode cX12_take 89 = .ok (.iinc 3 1, 3) := by decide +kernel
theorem dX12_take_92 : decode cX12_take 92 = .ok (.goto (-75), 3) := by decide +kernel
theorem dX12_take_95 : decode cX12_take 95 = .ok (.return_, 1) := by decide +kernel
theorem dX12_goesOn_0 : decode cX12_goesOn 0 = .ok (.aload_n 0, 1) := by decide +kernel
theorem dX12_goesOn_1 : decode cX12_goesOn 1 = .ok (.getfield 25, 3) := by decide +kernel
theorem dX12_goesOn_4 : decode cX12_goesOn 4 = .ok (.iload_n 1, 1) := by decide +kernel
theorem dX12_goesOn_5 : decode cX12_goesOn 5 = .ok (.iaload, 1) := by decide +kernel
theorem dX12_goesOn_6 : decode cX12_goesOn 6 = .ok (.iconst 1, 1) := by decide +kernel
theorem dX12_goesOn_7 : decode cX12_goesOn 7 = .ok (.iadd, 1) := by decide +kernel
theorem dX12_goesOn_8 : decode cX12_goesOn 8 = .ok (.istore_n 2, 1) := by decide +kernel
theorem dX12_goesOn_9 : decode cX12_goesOn 9 = .ok (.iload_n 2, 1) := by decide +kernel
theorem dX12_goesOn_10 : decode cX12_goesOn 10 = .ok (.aload_n 0, 1) := by decide +kernel
theorem dX12_goesOn_11 : decode cX12_goesOn 11 = .ok (.getfield 150, 3) := by decide +kernel
theorem dX12_goesOn_14 : decode cX12_goesOn 14 = .ok (.aload_n 0, 1) := by decide +kernel
theorem dX12_goesOn_15 : decode cX12_goesOn 15 = .ok (.getfield 150, 3) := by decide +kernel
theorem dX12_goesOn_18 : decode cX12_goesOn 18 = .ok (.imul, 1) := by decide +kernel
theorem dX12_goesOn_19 : decode cX12_goesOn 19 = .ok (.if_icmp .gt 37, 3) := by decide +kernel
theorem dX12_goesOn_22 : decode cX12_goesOn 22 = .ok (.aload_n 0, 1) := by decide +kernel
theorem dX12_goesOn_23 : decode cX12_goesOn 23 = .ok (.getfield 19, 3) := by decide +kernel
theorem dX12_goesOn_26 : decode cX12_goesOn 26 = .ok (.aload_n 0, 1) := by decide +kernel
theorem dX12_goesOn_27 : decode cX12_goesOn 27 = .ok (.getfield 22, 3) := by decide +kernel
theorem dX12_goesOn_30 : decode cX12_goesOn 30 = .ok (.iload_n 1, 1) := by decide +kernel
theorem dX12_goesOn_31 : decode cX12_goesOn 31 = .ok (.iaload, 1) := by decide +kernel
theorem dX12_goesOn_32 : decode cX12_goesOn 32 = .ok (.iload_n 2, 1) := by decide +kernel
theorem dX12_goesOn_33 : decode cX12_goesOn 33 = .ok (.iastore, 1) := by decide +kernel
theorem dX12_goesOn_34 : decode cX12_goesOn 34 = .ok (.aload_n 0, 1) := by decide +kernel
theorem dX12_goesOn_35 : decode cX12_goesOn 35 = .ok (.invokevirtual 159, 3) := by decide +kernel
theorem dX12_goesOn_38 : decode cX12_goesOn 38 = .ok (.ifCond .eq 12, 3) := by decide +kernel
theorem dX12_goesOn_41 : decode cX12_goesOn 41 = .ok (.aload_n 0, 1) := by decide +kernel
theorem dX12_goesOn_42 : decode cX12_goesOn 42 = .ok (.getfield 25, 3) := by decide +kernel
theorem dX12_goesOn_45 : decode cX12_goesOn 45 = .ok (.iload_n 1, 1) := by decide +kernel
theorem dX12_goesOn_46 : decode cX12_goesOn 46 = .ok (.iload_n 2, 1) := by decide +kernel
theorem dX12_goesOn_47 : decode cX12_goesOn 47 = .ok (.iastore, 1) := by decide +kernel
theorem dX12_goesOn_48 : decode cX12_goesOn 48 = .ok (.iconst 1, 1) := by decide +kernel
theorem dX12_goesOn_49 : decode cX12_goesOn 49 = .ok (.ireturn, 1) := by decide +kernel
theorem dX12_goesOn_50 : decode cX12_goesOn 50 = .ok (.iinc 2 1, 3) := by decide +kernel
theorem dX12_goesOn_53 : decode cX12_goesOn 53 = .ok (.goto (-44), 3) := by decide +kernel
theorem dX12_goesOn_56 : decode cX12_goesOn 56 = .ok (.aload_n 0, 1) := by decide +kernel
theorem dX12_goesOn_57 : decode cX12_goesOn 57 = .ok (.getfield 19, 3) := by decide +kernel
theorem dX12_goesOn_60 : decode cX12_goesOn 60 = .ok (.aload_n 0, 1) := by decide +kernel
theorem dX12_goesOn_61 : decode cX12_goesOn 61 = .ok (.getfield 22, 3) := by decide +kernel
theorem dX12_goesOn_64 : decode cX12_goesOn 64 = .ok (.iload_n 1, 1) := by decide +kernel
theorem dX12_goesOn_65 : decode cX12_goesOn 65 = .ok (.iaload, 1) := by decide +kernel
theorem dX12_goesOn_66 : decode cX12_goesOn 66 = .ok (.iconst 0, 1) := by decide +kernel
theorem dX12_goesOn_67 : decode cX12_goesOn 67 = .ok (.iastore, 1) := by decide +kernel
theorem dX12_goesOn_68 : decode cX12_goesOn 68 = .ok (.aload_n 0, 1) := by decide +kernel
theorem dX12_goesOn_69 : decode cX12_goesOn 69 = .ok (.getfield 25, 3) := by decide +kernel
theorem dX12_goesOn_72 : decode cX12_goesOn 72 = .ok (.iload_n 1, 1) := by decide +kernel
theorem dX12_goesOn_73 : decode cX12_goesOn 73 = .ok (.iconst 0, 1) := by decide +kernel
theorem dX12_goesOn_74 : decode cX12_goesOn 74 = .ok (.iastore, 1) := by decide +kernel
theorem dX12_goesOn_75 : decode cX12_goesOn 75 = .ok (.iconst 0, 1) := by decide +kernel
theorem dX12_goesOn_76 : decode cX12_goesOn 76 = .ok (.ireturn, 1) := by decide +kernel
theorem dX12_search_0 : decode cX12_search 0 = .ok (.aload_n 0, 1) := by decide +kernel
theorem dX12_search_1 : decode cX12_search 1 = .ok (.invokevirtual 159, 3) := by decide +kernel
theorem dX12_search_4 : decode cX12_search 4 = .ok (.ifCond .ne 5, 3) := by decide +kernel
theorem dX12_search_7 : decode cX12_search 7 = .ok (.iconst 0, 1) := by decide +kernel
theorem dX12_search_8 : decode cX12_search 8 = .ok (.ireturn, 1) := by decide +kernel
theorem dX12_search_9 : decode cX12_search 9 = .ok (.iconst 0, 1) := by decide +kernel
theorem dX12_search_10 : decode cX12_search 10 = .ok (.istore_n 2, 1) := by decide +kernel
theorem dX12_search_11 : decode cX12_search 11 = .ok (.iconst 0, 1) := by decide +kernel
theorem dX12_search_12 : decode cX12_search 12 = .ok (.istore_n 3, 1) := by decide +kernel
theorem dX12_search_13 : decode cX12_search 13 = .ok (.aload_n 0, 1) := by decide +kernel
theorem dX12_search_14 : decode cX12_search 14 = .ok (.getfield 25, 3) := by decide +kernel
theorem dX12_search_17 : decode cX12_search 17 = .ok (.iconst 0, 1) := by decide +kernel
theorem dX12_search_18 : decode cX12_search 18 = .ok (.iconst 0, 1) := by decide +kernel
theorem dX12_search_19 : decode cX12_search 19 = .ok (.iastore, 1) := by decide +kernel
theorem dX12_search_20 : decode cX12_search 20 = .ok (.iload_n 3, 1) := by decide +kernel
theorem dX12_search_21 : decode cX12_search 21 = .ok (.ifCond .lt 97, 3) := by decide +kernel
theorem dX12_search_24 : decode cX12_search 24 = .ok (.iload_n 2, 1) := by decide +kernel
theorem dX12_search_25 : decode cX12_search 25 = .ok (.iload_n 1, 1) := by decide +kernel
theorem dX12_search_26 : decode cX12_search 26 = .ok (.if_icmp .ge 92, 3) := by decide +kernel
theorem dX12_search_29 : decode cX12_search 29 = .ok (.iload_n 3, 1) := by decide +kernel
theorem dX12_search_30 : decode cX12_search 30 = .ok (.aload_n 0, 1) := by decide +kernel
theorem dX12_search_31 : decode cX12_search 31 = .ok (.getfield 156, 3) := by decide +kernel
theorem dX12_search_34 : decode cX12_search 34 = .ok (.if_icmp .ne 49, 3) := by decide +kernel
theorem dX12_search_37 : decode cX12_search 37 = .ok (.iinc 2 1, 3) := by decide +kernel
theorem dX12_search_40 : decode cX12_search 40 = .ok (.iconst 0, 1) := by decide +kernel
theorem dX12_search_41 : decode cX12_search 41 = .ok (.istore 4, 2) := by decide +kernel
theorem dX12_search_43 : decode cX12_search 43 = .ok (.iload 4, 2) := by decide +kernel
theorem dX12_search_45 : decode cX12_search 45 = .ok (.aload_n 0, 1) := by decide +kernel
theorem dX12_search_46 : decode cX12_search 46 = .ok (.getfield 150, 3) := by decide +kernel
theorem dX12_search_49 : decode cX12_search 49 = .ok (.aload_n 0, 1) := by decide +kernel
theorem dX12_search_50 : decode cX12_search 50 = .ok (.getfield 150, 3) := by decide +kernel
theorem dX12_search_53 : decode cX12_search 53 = .ok (.imul, 1) := by decide +kernel
theorem dX12_search_54 : decode cX12_search 54 = .ok (.if_icmp .ge 23, 3) := by decide +kernel
theorem dX12_search_57 : decode cX12_search 57 = .ok (.aload_n 0, 1) := by decide +kernel
theorem dX12_search_58 : decode cX12_search 58 = .ok (.getfield 28, 3) := by decide +kernel
theorem dX12_search_61 : decode cX12_search 61 = .ok (.iload 4, 2) := by decide +kernel
theorem dX12_search_63 : decode cX12_search 63 = .ok (.aload_n 0, 1) := by decide +kernel
theorem dX12_search_64 : decode cX12_search 64 = .ok (.getfield 19, 3) := by decide +kernel
theorem dX12_search_67 : decode cX12_search 67 = .ok (.iload 4, 2) := by decide +kernel
theorem dX12_search_69 : decode cX12_search 69 = .ok (.iaload, 1) := by decide +kernel
theorem dX12_search_70 : decode cX12_search 70 = .ok (.iastore, 1) := by decide +kernel
theorem dX12_search_71 : decode cX12_search 71 = .ok (.iinc 4 1, 3) := by decide +kernel
theorem dX12_search_74 : decode cX12_search 74 = .ok (.goto (-31), 3) := by decide +kernel
theorem dX12_search_77 : decode cX12_search 77 = .ok (.iinc 3 (-1), 3) := by decide +kernel
theorem dX12_search_80 : decode cX12_search 80 = .ok (.goto (-60), 3) := by decide +kernel
theorem dX12_search_83 : decode cX12_search 83 = .ok (.aload_n 0, 1) := by decide +kernel
theorem dX12_search_84 : decode cX12_search 84 = .ok (.iload_n 3, 1) := by decide +kernel
theorem dX12_search_85 : decode cX12_search 85 = .ok (.invokevirtual 163, 3) := by decide +kernel
theorem dX12_search_88 : decode cX12_search 88 = .ok (.ifCond .eq 24, 3) := by decide +kernel
theorem dX12_search_91 : decode cX12_search 91 = .ok (.iinc 3 1, 3) := by decide +kernel
theorem dX12_search_94 : decode cX12_search 94 = .ok (.iload_n 3, 1) := by decide +kernel
theorem dX12_search_95 : decode cX12_search 95 = .ok (.aload_n 0, 1) := by decide +kernel
theorem dX12_search_96 : decode cX12_search 96 = .ok (.getfield 156, 3) := by decide +kernel
theorem dX12_search_99 : decode cX12_search 99 = .ok (.if_icmp .ge (-79), 3) := by decide +kernel
theorem dX12_search_102 : decode cX12_search 102 = .ok (.aload_n 0, 1) := by decide +kernel
theorem dX12_search_103 : decode cX12_search 103 = .ok (.getfield 25, 3) := by decide +kernel
theorem dX12_search_106 : decode cX12_search 106 = .ok (.iload_n 3, 1) := by decide +kernel
theorem dX12_search_107 : decode cX12_search 107 = .ok (.iconst 0, 1) := by decide +kernel
theorem dX12_search_108 : decode cX12_search 108 = .ok (.iastore, 1) := by decide +kernel
theorem dX12_search_109 : decode cX12_search 109 = .ok (.goto (-89), 3) := by decide +kernel
theorem dX12_search_112 : decode cX12_search 112 = .ok (.iinc 3 (-1), 3) := by decide +kernel
theorem dX12_search_115 : decode cX12_search 115 = .ok (.goto (-95), 3) := by decide +kernel
theorem dX12_search_118 : decode cX12_search 118 = .ok (.iload_n 2, 1) := by decide +kernel
theorem dX12_search_119 : decode cX12_search 119 = .ok (.ireturn, 1) := by decide +kernel
theorem dX12_emptyOf_0 : decode cX12_emptyOf 0 = .ok (.iconst 0, 1) := by decide +kernel
theorem dX12_emptyOf_1 : decode cX12_emptyOf 1 = .ok (.istore_n 2, 1) := by decide +kernel
theorem dX12_emptyOf_2 : decode cX12_emptyOf 2 = .ok (.iconst 0, 1) := by decide +kernel
theorem dX12_emptyOf_3 : decode cX12_emptyOf 3 = .ok (.istore_n 3, 1) := by decide +kernel
theorem dX12_emptyOf_4 : decode cX12_emptyOf 4 = .ok (.iload_n 3, 1) := by decide +kernel
theorem dX12_emptyOf_5 : decode cX12_emptyOf 5 = .ok (.aload_n 0, 1) := by decide +kernel
theorem dX12_emptyOf_6 : decode cX12_emptyOf 6 = .ok (.iload_n 1, 1) := by decide +kernel
theorem dX12_emptyOf_7 : decode cX12_emptyOf 7 = .ok (.invokevirtual 100, 3) := by decide +kernel
theorem dX12_emptyOf_10 : decode cX12_emptyOf 10 = .ok (.if_icmp .ge 31, 3) := by decide +kernel
theorem dX12_emptyOf_13 : decode cX12_emptyOf 13 = .ok (.iload_n 2, 1) := by decide +kernel
theorem dX12_emptyOf_14 : decode cX12_emptyOf 14 = .ok (.aload_n 0, 1) := by decide +kernel
theorem dX12_emptyOf_15 : decode cX12_emptyOf 15 = .ok (.getfield 13, 3) := by decide +kernel
theorem dX12_emptyOf_18 : decode cX12_emptyOf 18 = .ok (.bipush 81, 2) := by decide +kernel
theorem dX12_emptyOf_20 : decode cX12_emptyOf 20 = .ok (.iload_n 1, 1) := by decide +kernel
theorem dX12_emptyOf_21 : decode cX12_emptyOf 21 = .ok (.imul, 1) := by decide +kernel
theorem dX12_emptyOf_22 : decode cX12_emptyOf 22 = .ok (.iload_n 3, 1) := by decide +kernel
theorem dX12_emptyOf_23 : decode cX12_emptyOf 23 = .ok (.iadd, 1) := by decide +kernel
theorem dX12_emptyOf_24 : decode cX12_emptyOf 24 = .ok (.iaload, 1) := by decide +kernel
theorem dX12_emptyOf_25 : decode cX12_emptyOf 25 = .ok (.ifCond .ne 7, 3) := by decide +kernel
theorem dX12_emptyOf_28 : decode cX12_emptyOf 28 = .ok (.iconst 1, 1) := by decide +kernel
theorem dX12_emptyOf_29 : decode cX12_emptyOf 29 = .ok (.goto 4, 3) := by decide +kernel
theorem dX12_emptyOf_32 : decode cX12_emptyOf 32 = .ok (.iconst 0, 1) := by decide +kernel
theorem dX12_emptyOf_33 : decode cX12_emptyOf 33 = .ok (.iadd, 1) := by decide +kernel
theorem dX12_emptyOf_34 : decode cX12_emptyOf 34 = .ok (.istore_n 2, 1) := by decide +kernel
theorem dX12_emptyOf_35 : decode cX12_emptyOf 35 = .ok (.iinc 3 1, 3) := by decide +kernel
theorem dX12_emptyOf_38 : decode cX12_emptyOf 38 = .ok (.goto (-34), 3) := by decide +kernel
theorem dX12_emptyOf_41 : decode cX12_emptyOf 41 = .ok (.iload_n 2, 1) := by decide +kernel
theorem dX12_emptyOf_42 : decode cX12_emptyOf 42 = .ok (.ireturn, 1) := by decide +kernel
theorem dX12_isSearched_0 : decode cX12_isSearched 0 = .ok (.aload_n 0, 1) := by decide +kernel
theorem dX12_isSearched_1 : decode cX12_isSearched 1 = .ok (.getfield 7, 3) := by decide +kernel
theorem dX12_isSearched_4 : decode cX12_isSearched 4 = .ok (.iload_n 1, 1) := by decide +kernel
theorem dX12_isSearched_5 : decode cX12_isSearched 5 = .ok (.iaload, 1) := by decide +kernel
theorem dX12_isSearched_6 : decode cX12_isSearched 6 = .ok (.iconst 4, 1) := by decide +kernel
theorem dX12_isSearched_7 : decode cX12_isSearched 7 = .ok (.if_icmp .gt 17, 3) := by decide +kernel
theorem dX12_isSearched_10 : decode cX12_isSearched 10 = .ok (.aload_n 0, 1) := by decide +kernel
theorem dX12_isSearched_11 : decode cX12_isSearched 11 = .ok (.iload_n 1, 1) := by decide +kernel
theorem dX12_isSearched_12 : decode cX12_isSearched 12 = .ok (.invokevirtual 166, 3) := by decide +kernel
theorem dX12_isSearched_15 : decode cX12_isSearched 15 = .ok (.bipush 9, 2) := by decide +kernel
theorem dX12_isSearched_17 : decode cX12_isSearched 17 = .ok (.if_icmp .gt 7, 3) := by decide +kernel
theorem dX12_isSearched_20 : decode cX12_isSearched 20 = .ok (.iconst 1, 1) := by decide +kernel
theorem dX12_isSearched_21 : decode cX12_isSearched 21 = .ok (.goto 4, 3) := by decide +kernel
theorem dX12_isSearched_24 : decode cX12_isSearched 24 = .ok (.iconst 0, 1) := by decide +kernel
theorem dX12_isSearched_25 : decode cX12_isSearched 25 = .ok (.ireturn, 1) := by decide +kernel
theorem dX12_completions_0 : decode cX12_completions 0 = .ok (.aload_n 0, 1) := by decide +kernel
theorem dX12_completions_1 : decode cX12_completions 1 = .ok (.iload_n 1, 1) := by decide +kernel
theorem dX12_completions_2 : decode cX12_completions 2 = .ok (.invokevirtual 59, 3) := by decide +kernel
theorem dX12_completions_5 : decode cX12_completions 5 = .ok (.istore_n 2, 1) := by decide +kernel
theorem dX12_completions_6 : decode cX12_completions 6 = .ok (.aload_n 0, 1) := by decide +kernel
theorem dX12_completions_7 : decode cX12_completions 7 = .ok (.iload_n 2, 1) := by decide +kernel
theorem dX12_completions_8 : decode cX12_completions 8 = .ok (.ifCond .ne 7, 3) := by decide +kernel
theorem dX12_completions_11 : decode cX12_completions 11 = .ok (.iconst 1, 1) := by decide +kernel
theorem dX12_completions_12 : decode cX12_completions 12 = .ok (.goto 16, 3) := by decide +kernel
theorem dX12_completions_15 : decode cX12_completions 15 = .ok (.aload_n 0, 1) := by decide +kernel
theorem dX12_completions_16 : decode cX12_completions 16 = .ok (.iload_n 1, 1) := by decide +kernel
theorem dX12_completions_17 : decode cX12_completions 17 = .ok (.invokevirtual 169, 3) := by decide +kernel
theorem dX12_completions_20 : decode cX12_completions 20 = .ok (.ifCond .ne 7, 3) := by decide +kernel
theorem dX12_completions_23 : decode cX12_completions 23 = .ok (.iconst 2, 1) := by decide +kernel
theorem dX12_completions_24 : decode cX12_completions 24 = .ok (.goto 4, 3) := by decide +kernel
theorem dX12_completions_27 : decode cX12_completions 27 = .ok (.iconst 0, 1) := by decide +kernel
theorem dX12_completions_28 : decode cX12_completions 28 = .ok (.invokevirtual 63, 3) := by decide +kernel
theorem dX12_completions_31 : decode cX12_completions 31 = .ok (.ifCond .ne 5, 3) := by decide +kernel
theorem dX12_completions_34 : decode cX12_completions 34 = .ok (.iconst 0, 1) := by decide +kernel
theorem dX12_completions_35 : decode cX12_completions 35 = .ok (.ireturn, 1) := by decide +kernel
theorem dX12_completions_36 : decode cX12_completions 36 = .ok (.aload_n 0, 1) := by decide +kernel
theorem dX12_completions_37 : decode cX12_completions 37 = .ok (.iload_n 1, 1) := by decide +kernel
theorem dX12_completions_38 : decode cX12_completions 38 = .ok (.ldc 172, 2) := by decide +kernel
theorem dX12_completions_40 : decode cX12_completions 40 = .ok (.invokevirtual 173, 3) := by decide +kernel
theorem dX12_completions_43 : decode cX12_completions 43 = .ok (.aload_n 0, 1) := by decide +kernel
theorem dX12_completions_44 : decode cX12_completions 44 = .ok (.ldc 177, 2) := by decide +kernel
theorem dX12_completions_46 : decode cX12_completions 46 = .ok (.invokevirtual 178, 3) := by decide +kernel
theorem dX12_completions_49 : decode cX12_completions 49 = .ok (.ireturn, 1) := by decide +kernel
theorem dX12_completion_0 : decode cX12_completion 0 = .ok (.aload_n 0, 1) := by decide +kernel
theorem dX12_completion_1 : decode cX12_completion 1 = .ok (.iload_n 1, 1) := by decide +kernel
theorem dX12_completion_2 : decode cX12_completion 2 = .ok (.iload_n 3, 1) := by decide +kernel
theorem dX12_completion_3 : decode cX12_completion 3 = .ok (.iload 4, 2) := by decide +kernel
theorem dX12_completion_5 : decode cX12_completion 5 = .ok (.invokevirtual 73, 3) := by decide +kernel
theorem dX12_completion_8 : decode cX12_completion 8 = .ok (.istore 5, 2) := by decide +kernel
theorem dX12_completion_10 : decode cX12_completion 10 = .ok (.aload_n 0, 1) := by decide +kernel
theorem dX12_completion_11 : decode cX12_completion 11 = .ok (.iload 5, 2) := by decide +kernel
theorem dX12_completion_13 : decode cX12_completion 13 = .ok (.ifCond .ne 7, 3) := by decide +kernel
theorem dX12_completion_16 : decode cX12_completion 16 = .ok (.iconst 1, 1) := by decide +kernel
theorem dX12_completion_17 : decode cX12_completion 17 = .ok (.goto 24, 3) := by decide +kernel
theorem dX12_completion_20 : decode cX12_completion 20 = .ok (.iload_n 2, 1) := by decide +kernel
theorem dX12_completion_21 : decode cX12_completion 21 = .ok (.ifCond .ge 7, 3) := by decide +kernel
theorem dX12_completion_24 : decode cX12_completion 24 = .ok (.iconst 2, 1) := by decide +kernel
theorem dX12_completion_25 : decode cX12_completion 25 = .ok (.goto 16, 3) := by decide +kernel
theorem dX12_completion_28 : decode cX12_completion 28 = .ok (.aload_n 0, 1) := by decide +kernel
theorem dX12_completion_29 : decode cX12_completion 29 = .ok (.iload_n 1, 1) := by decide +kernel
theorem dX12_completion_30 : decode cX12_completion 30 = .ok (.invokevirtual 169, 3) := by decide +kernel
theorem dX12_completion_33 : decode cX12_completion 33 = .ok (.ifCond .ne 7, 3) := by decide +kernel
theorem dX12_completion_36 : decode cX12_completion 36 = .ok (.iconst 3, 1) := by decide +kernel
theorem dX12_completion_37 : decode cX12_completion 37 = .ok (.goto 4, 3) := by decide +kernel
theorem dX12_completion_40 : decode cX12_completion 40 = .ok (.iconst 0, 1) := by decide +kernel
theorem dX12_completion_41 : decode cX12_completion 41 = .ok (.invokevirtual 63, 3) := by decide +kernel
theorem dX12_completion_44 : decode cX12_completion 44 = .ok (.ifCond .ne 5, 3) := by decide +kernel
theorem dX12_completion_47 : decode cX12_completion 47 = .ok (.iconst 0, 1) := by decide +kernel
theorem dX12_completion_48 : decode cX12_completion 48 = .ok (.ireturn, 1) := by decide +kernel
theorem dX12_completion_49 : decode cX12_completion 49 = .ok (.aload_n 0, 1) := by decide +kernel
theorem dX12_completion_50 : decode cX12_completion 50 = .ok (.iload_n 1, 1) := by decide +kernel
theorem dX12_completion_51 : decode cX12_completion 51 = .ok (.ldc 172, 2) := by decide +kernel
theorem dX12_completion_53 : decode cX12_completion 53 = .ok (.invokevirtual 173, 3) := by decide +kernel
theorem dX12_completion_56 : decode cX12_completion 56 = .ok (.iload_n 2, 1) := by decide +kernel
theorem dX12_completion_57 : decode cX12_completion 57 = .ok (.ldc 177, 2) := by decide +kernel
theorem dX12_completion_59 : decode cX12_completion 59 = .ok (.if_icmp .eq 14, 3) := by decide +kernel
theorem dX12_completion_62 : decode cX12_completion 62 = .ok (.aload_n 0, 1) := by decide +kernel
theorem dX12_completion_63 : decode cX12_completion 63 = .ok (.iload_n 2, 1) := by decide +kernel
theorem dX12_completion_64 : decode cX12_completion 64 = .ok (.iconst 1, 1) := by decide +kernel
theorem dX12_completion_65 : decode cX12_completion 65 = .ok (.iadd, 1) := by decide +kernel
theorem dX12_completion_66 : decode cX12_completion 66 = .ok (.invokevirtual 178, 3) := by decide +kernel
theorem dX12_completion_69 : decode cX12_completion 69 = .ok (.iload_n 2, 1) := by decide +kernel
theorem dX12_completion_70 : decode cX12_completion 70 = .ok (.if_icmp .gt 5, 3) := by decide +kernel
theorem dX12_completion_73 : decode cX12_completion 73 = .ok (.iconst (-1), 1) := by decide +kernel
theorem dX12_completion_74 : decode cX12_completion 74 = .ok (.ireturn, 1) := by decide +kernel
theorem dX12_completion_75 : decode cX12_completion 75 = .ok (.aload_n 0, 1) := by decide +kernel
theorem dX12_completion_76 : decode cX12_completion 76 = .ok (.getfield 28, 3) := by decide +kernel
theorem dX12_completion_79 : decode cX12_completion 79 = .ok (.aload_n 0, 1) := by decide +kernel
theorem dX12_completion_80 : decode cX12_completion 80 = .ok (.getfield 150, 3) := by decide +kernel
theorem dX12_completion_83 : decode cX12_completion 83 = .ok (.iload_n 3, 1) := by decide +kernel
theorem dX12_completion_84 : decode cX12_completion 84 = .ok (.imul, 1) := by decide +kernel
theorem dX12_completion_85 : decode cX12_completion 85 = .ok (.iload 4, 2) := by decide +kernel
theorem dX12_completion_87 : decode cX12_completion 87 = .ok (.iadd, 1) := by decide +kernel
theorem dX12_completion_88 : decode cX12_completion 88 = .ok (.iaload, 1) := by decide +kernel
theorem dX12_completion_89 : decode cX12_completion 89 = .ok (.ireturn, 1) := by decide +kernel
theorem dX12_estimate_0 : decode cX12_estimate 0 = .ok (.aload_n 0, 1) := by decide +kernel
theorem dX12_estimate_1 : decode cX12_estimate 1 = .ok (.iload_n 1, 1) := by decide +kernel
theorem dX12_estimate_2 : decode cX12_estimate 2 = .ok (.invokevirtual 59, 3) := by decide +kernel
theorem dX12_estimate_5 : decode cX12_estimate 5 = .ok (.istore_n 3, 1) := by decide +kernel
theorem dX12_estimate_6 : decode cX12_estimate 6 = .ok (.aload_n 0, 1) := by decide +kernel
theorem dX12_estimate_7 : decode cX12_estimate 7 = .ok (.iload_n 3, 1) := by decide +kernel
theorem dX12_estimate_8 : decode cX12_estimate 8 = .ok (.ifCond .ne 7, 3) := by decide +kernel
theorem dX12_estimate_11 : decode cX12_estimate 11 = .ok (.iconst 1, 1) := by decide +kernel
theorem dX12_estimate_12 : decode cX12_estimate 12 = .ok (.goto 32, 3) := by decide +kernel
theorem dX12_estimate_15 : decode cX12_estimate 15 = .ok (.iload_n 2, 1) := by decide +kernel
theorem dX12_estimate_16 : decode cX12_estimate 16 = .ok (.iconst 0, 1) := by decide +kernel
theorem dX12_estimate_17 : decode cX12_estimate 17 = .ok (.ldc 172, 2) := by decide +kernel
theorem dX12_estimate_19 : decode cX12_estimate 19 = .ok (.invokestatic 55, 3) := by decide +kernel
theorem dX12_estimate_22 : decode cX12_estimate 22 = .ok (.ifCond .ne 7, 3) := by decide +kernel
theorem dX12_estimate_25 : decode cX12_estimate 25 = .ok (.iconst 2, 1) := by decide +kernel
theorem dX12_estimate_26 : decode cX12_estimate 26 = .ok (.goto 18, 3) := by decide +kernel
theorem dX12_estimate_29 : decode cX12_estimate 29 = .ok (.aload_n 0, 1) := by decide +kernel
theorem dX12_estimate_30 : decode cX12_estimate 30 = .ok (.getfield 7, 3) := by decide +kernel
theorem dX12_estimate_33 : decode cX12_estimate 33 = .ok (.iload_n 1, 1) := by decide +kernel
theorem dX12_estimate_34 : decode cX12_estimate 34 = .ok (.iaload, 1) := by decide +kernel
theorem dX12_estimate_35 : decode cX12_estimate 35 = .ok (.iconst 4, 1) := by decide +kernel
theorem dX12_estimate_36 : decode cX12_estimate 36 = .ok (.if_icmp .le 7, 3) := by decide +kernel
theorem dX12_estimate_39 : decode cX12_estimate 39 = .ok (.iconst 3, 1) := by decide +kernel
theorem dX12_estimate_40 : decode cX12_estimate 40 = .ok (.goto 4, 3) := by decide +kernel
theorem dX12_estimate_43 : decode cX12_estimate 43 = .ok (.iconst 0, 1) := by decide +kernel
theorem dX12_estimate_44 : decode cX12_estimate 44 = .ok (.invokevirtual 63, 3) := by decide +kernel
theorem dX12_estimate_47 : decode cX12_estimate 47 = .ok (.ifCond .ne 5, 3) := by decide +kernel
theorem dX12_estimate_50 : decode cX12_estimate 50 = .ok (.lconst 0, 1) := by decide +kernel
theorem dX12_estimate_51 : decode cX12_estimate 51 = .ok (.lreturn, 1) := by decide +kernel
theorem dX12_estimate_52 : decode cX12_estimate 52 = .ok (.aload_n 0, 1) := by decide +kernel
theorem dX12_estimate_53 : decode cX12_estimate 53 = .ok (.iload_n 1, 1) := by decide +kernel
theorem dX12_estimate_54 : decode cX12_estimate 54 = .ok (.ldc 172, 2) := by decide +kernel
theorem dX12_estimate_56 : decode cX12_estimate 56 = .ok (.invokevirtual 173, 3) := by decide +kernel
theorem dX12_estimate_59 : decode cX12_estimate 59 = .ok (.aload_n 0, 1) := by decide +kernel
theorem dX12_estimate_60 : decode cX12_estimate 60 = .ok (.invokevirtual 159, 3) := by decide +kernel
theorem dX12_estimate_63 : decode cX12_estimate 63 = .ok (.ifCond .eq 7, 3) := by decide +kernel
theorem dX12_estimate_66 : decode cX12_estimate 66 = .ok (.lconst 1, 1) := by decide +kernel
theorem dX12_estimate_67 : decode cX12_estimate 67 = .ok (.goto 4, 3) := by decide +kernel
theorem dX12_estimate_70 : decode cX12_estimate 70 = .ok (.lconst 0, 1) := by decide +kernel
theorem dX12_estimate_71 : decode cX12_estimate 71 = .ok (.lstore 4, 2) := by decide +kernel
theorem dX12_estimate_73 : decode cX12_estimate 73 = .ok (.iload_n 2, 1) := by decide +kernel
theorem dX12_estimate_74 : decode cX12_estimate 74 = .ok (.istore 6, 2) := by decide +kernel
theorem dX12_estimate_76 : decode cX12_estimate 76 = .ok (.iconst 0, 1) := by decide +kernel
theorem dX12_estimate_77 : decode cX12_estimate 77 = .ok (.istore 7, 2) := by decide +kernel
theorem dX12_estimate_79 : decode cX12_estimate 79 = .ok (.iload 7, 2) := by decide +kernel
theorem dX12_estimate_81 : decode cX12_estimate 81 = .ok (.aload_n 0, 1) := by decide +kernel
theorem dX12_estimate_82 : decode cX12_estimate 82 = .ok (.getfield 156, 3) := by decide +kernel
theorem dX12_estimate_85 : decode cX12_estimate 85 = .ok (.if_icmp .ge 132, 3) := by decide +kernel
theorem dX12_estimate_88 : decode cX12_estimate 88 = .ok (.lload 4, 2) := by decide +kernel
theorem dX12_estimate_90 : decode cX12_estimate 90 = .ok (.lconst 0, 1) := by decide +kernel
theorem dX12_estimate_91 : decode cX12_estimate 91 = .ok (.lcmp, 1) := by decide +kernel
theorem dX12_estimate_92 : decode cX12_estimate 92 = .ok (.ifCond .le 125, 3) := by decide +kernel
theorem dX12_estimate_95 : decode cX12_estimate 95 = .ok (.iconst 0, 1) := by decide +kernel
theorem dX12_estimate_96 : decode cX12_estimate 96 = .ok (.istore 8, 2) := by decide +kernel
theorem dX12_estimate_98 : decode cX12_estimate 98 = .ok (.iconst 1, 1) := by decide +kernel
theorem dX12_estimate_99 : decode cX12_estimate 99 = .ok (.istore 9, 2) := by decide +kernel
theorem dX12_estimate_101 : decode cX12_estimate 101 = .ok (.iload 9, 2) := by decide +kernel
theorem dX12_estimate_103 : decode cX12_estimate 103 = .ok (.aload_n 0, 1) := by decide +kernel
theorem dX12_estimate_104 : decode cX12_estimate 104 = .ok (.getfield 150, 3) := by decide +kernel
theorem dX12_estimate_107 : decode cX12_estimate 107 = .ok (.aload_n 0, 1) := by decide +kernel
theorem dX12_estimate_108 : decode cX12_estimate 108 = .ok (.getfield 150, 3) := by decide +kernel
theorem dX12_estimate_111 : decode cX12_estimate 111 = .ok (.imul, 1) := by decide +kernel
theorem dX12_estimate_112 : decode cX12_estimate 112 = .ok (.if_icmp .gt 42, 3) := by decide +kernel
theorem dX12_estimate_115 : decode cX12_estimate 115 = .ok (.aload_n 0, 1) := by decide +kernel
theorem dX12_estimate_116 : decode cX12_estimate 116 = .ok (.getfield 19, 3) := by decide +kernel
theorem dX12_estimate_119 : decode cX12_estimate 119 = .ok (.aload_n 0, 1) := by decide +kernel
theorem dX12_estimate_120 : decode cX12_estimate 120 = .ok (.getfield 22, 3) := by decide +kernel
theorem dX12_estimate_123 : decode cX12_estimate 123 = .ok (.iload 7, 2) := by decide +kernel
theorem dX12_estimate_125 : decode cX12_estimate 125 = .ok (.iaload, 1) := by decide +kernel
theorem dX12_estimate_126 : decode cX12_estimate 126 = .ok (.iload 9, 2) := by decide +kernel
theorem dX12_estimate_128 : decode cX12_estimate 128 = .ok (.iastore, 1) := by decide +kernel
theorem dX12_estimate_129 : decode cX12_estimate 129 = .ok (.aload_n 0, 1) := by decide +kernel
theorem dX12_estimate_130 : decode cX12_estimate 130 = .ok (.invokevirtual 159, 3) := by decide +kernel
end
section
theorem dX12_estimate_133 : decode cX12_estimate 133 = .ok (.ifCond .eq 15, 3) := by decide +kernel
theorem dX12_estimate_136 : decode cX12_estimate 136 = .ok (.aload_n 0, 1) := by decide +kernel
theorem dX12_estimate_137 : decode cX12_estimate 137 = .ok (.getfield 25, 3) := by decide +kernel
theorem dX12_estimate_140 : decode cX12_estimate 140 = .ok (.iload 8, 2) := by decide +kernel
theorem dX12_estimate_142 : decode cX12_estimate 142 = .ok (.iload 9, 2) := by decide +kernel
theorem dX12_estimate_144 : decode cX12_estimate 144 = .ok (.iastore, 1) := by decide +kernel
theorem dX12_estimate_145 : decode cX12_estimate 145 = .ok (.iinc 8 1, 3) := by decide +kernel
theorem dX12_estimate_148 : decode cX12_estimate 148 = .ok (.iinc 9 1, 3) := by decide +kernel
theorem dX12_estimate_151 : decode cX12_estimate 151 = .ok (.goto (-50), 3) := by decide +kernel
theorem dX12_estimate_154 : decode cX12_estimate 154 = .ok (.lload 4, 2) := by decide +kernel
theorem dX12_estimate_156 : decode cX12_estimate 156 = .ok (.iload 8, 2) := by decide +kernel
theorem dX12_estimate_158 : decode cX12_estimate 158 = .ok (.i2l, 1) := by decide +kernel
theorem dX12_estimate_159 : decode cX12_estimate 159 = .ok (.lmul, 1) := by decide +kernel
theorem dX12_estimate_160 : decode cX12_estimate 160 = .ok (.lstore 4, 2) := by decide +kernel
theorem dX12_estimate_162 : decode cX12_estimate 162 = .ok (.ldc2_w 181, 3) := by decide +kernel
theorem dX12_estimate_165 : decode cX12_estimate 165 = .ok (.iload 6, 2) := by decide +kernel
theorem dX12_estimate_167 : decode cX12_estimate 167 = .ok (.i2l, 1) := by decide +kernel
theorem dX12_estimate_168 : decode cX12_estimate 168 = .ok (.lmul, 1) := by decide +kernel
theorem dX12_estimate_169 : decode cX12_estimate 169 = .ok (.ldc2_w 183, 3) := by decide +kernel
theorem dX12_estimate_172 : decode cX12_estimate 172 = .ok (.ladd, 1) := by decide +kernel
theorem dX12_estimate_173 : decode cX12_estimate 173 = .ok (.ldc2_w 185, 3) := by decide +kernel
theorem dX12_estimate_176 : decode cX12_estimate 176 = .ok (.lrem, 1) := by decide +kernel
theorem dX12_estimate_177 : decode cX12_estimate 177 = .ok (.l2i, 1) := by decide +kernel
theorem dX12_estimate_178 : decode cX12_estimate 178 = .ok (.istore 6, 2) := by decide +kernel
theorem dX12_estimate_180 : decode cX12_estimate 180 = .ok (.aload_n 0, 1) := by decide +kernel
theorem dX12_estimate_181 : decode cX12_estimate 181 = .ok (.getfield 19, 3) := by decide +kernel
theorem dX12_estimate_184 : decode cX12_estimate 184 = .ok (.aload_n 0, 1) := by decide +kernel
theorem dX12_estimate_185 : decode cX12_estimate 185 = .ok (.getfield 22, 3) := by decide +kernel
theorem dX12_estimate_188 : decode cX12_estimate 188 = .ok (.iload 7, 2) := by decide +kernel
theorem dX12_estimate_190 : decode cX12_estimate 190 = .ok (.iaload, 1) := by decide +kernel
theorem dX12_estimate_191 : decode cX12_estimate 191 = .ok (.iload 8, 2) := by decide +kernel
theorem dX12_estimate_193 : decode cX12_estimate 193 = .ok (.ifCond .ne 7, 3) := by decide +kernel
theorem dX12_estimate_196 : decode cX12_estimate 196 = .ok (.iconst 0, 1) := by decide +kernel
theorem dX12_estimate_197 : decode cX12_estimate 197 = .ok (.goto 13, 3) := by decide +kernel
theorem dX12_estimate_200 : decode cX12_estimate 200 = .ok (.aload_n 0, 1) := by decide +kernel
theorem dX12_estimate_201 : decode cX12_estimate 201 = .ok (.getfield 25, 3) := by decide +kernel
theorem dX12_estimate_204 : decode cX12_estimate 204 = .ok (.iload 6, 2) := by decide +kernel
theorem dX12_estimate_206 : decode cX12_estimate 206 = .ok (.iload 8, 2) := by decide +kernel
theorem dX12_estimate_208 : decode cX12_estimate 208 = .ok (.irem, 1) := by decide +kernel
theorem dX12_estimate_209 : decode cX12_estimate 209 = .ok (.iaload, 1) := by decide +kernel
theorem dX12_estimate_210 : decode cX12_estimate 210 = .ok (.iastore, 1) := by decide +kernel
theorem dX12_estimate_211 : decode cX12_estimate 211 = .ok (.iinc 7 1, 3) := by decide +kernel
theorem dX12_estimate_214 : decode cX12_estimate 214 = .ok (.goto (-135), 3) := by decide +kernel
theorem dX12_estimate_217 : decode cX12_estimate 217 = .ok (.lload 4, 2) := by decide +kernel
theorem dX12_estimate_219 : decode cX12_estimate 219 = .ok (.lreturn, 1) := by decide +kernel
theorem dX12_ones_0 : decode cX12_ones 0 = .ok (.iconst 0, 1) := by decide +kernel
theorem dX12_ones_1 : decode cX12_ones 1 = .ok (.istore_n 1, 1) := by decide +kernel
theorem dX12_ones_2 : decode cX12_ones 2 = .ok (.iload_n 0, 1) := by decide +kernel
theorem dX12_ones_3 : decode cX12_ones 3 = .ok (.istore_n 2, 1) := by decide +kernel
theorem dX12_ones_4 : decode cX12_ones 4 = .ok (.iload_n 2, 1) := by decide +kernel
theorem dX12_ones_5 : decode cX12_ones 5 = .ok (.ifCond .le 16, 3) := by decide +kernel
theorem dX12_ones_8 : decode cX12_ones 8 = .ok (.iload_n 1, 1) := by decide +kernel
theorem dX12_ones_9 : decode cX12_ones 9 = .ok (.iload_n 2, 1) := by decide +kernel
theorem dX12_ones_10 : decode cX12_ones 10 = .ok (.iconst 2, 1) := by decide +kernel
theorem dX12_ones_11 : decode cX12_ones 11 = .ok (.irem, 1) := by decide +kernel
theorem dX12_ones_12 : decode cX12_ones 12 = .ok (.iadd, 1) := by decide +kernel
theorem dX12_ones_13 : decode cX12_ones 13 = .ok (.istore_n 1, 1) := by decide +kernel
theorem dX12_ones_14 : decode cX12_ones 14 = .ok (.iload_n 2, 1) := by decide +kernel
theorem dX12_ones_15 : decode cX12_ones 15 = .ok (.iconst 2, 1) := by decide +kernel
theorem dX12_ones_16 : decode cX12_ones 16 = .ok (.idiv, 1) := by decide +kernel
theorem dX12_ones_17 : decode cX12_ones 17 = .ok (.istore_n 2, 1) := by decide +kernel
theorem dX12_ones_18 : decode cX12_ones 18 = .ok (.goto (-14), 3) := by decide +kernel
theorem dX12_ones_21 : decode cX12_ones 21 = .ok (.iload_n 1, 1) := by decide +kernel
theorem dX12_ones_22 : decode cX12_ones 22 = .ok (.ireturn, 1) := by decide +kernel
theorem dX12_givens_0 : decode cX12_givens 0 = .ok (.aload_n 0, 1) := by decide +kernel
theorem dX12_givens_1 : decode cX12_givens 1 = .ok (.iload_n 1, 1) := by decide +kernel
theorem dX12_givens_2 : decode cX12_givens 2 = .ok (.invokevirtual 59, 3) := by decide +kernel
theorem dX12_givens_5 : decode cX12_givens 5 = .ok (.istore_n 3, 1) := by decide +kernel
theorem dX12_givens_6 : decode cX12_givens 6 = .ok (.bipush 79, 2) := by decide +kernel
theorem dX12_givens_8 : decode cX12_givens 8 = .ok (.istore 4, 2) := by decide +kernel
theorem dX12_givens_10 : decode cX12_givens 10 = .ok (.aload_n 0, 1) := by decide +kernel
theorem dX12_givens_11 : decode cX12_givens 11 = .ok (.iload_n 3, 1) := by decide +kernel
theorem dX12_givens_12 : decode cX12_givens 12 = .ok (.ifCond .ne 7, 3) := by decide +kernel
theorem dX12_givens_15 : decode cX12_givens 15 = .ok (.iconst 1, 1) := by decide +kernel
theorem dX12_givens_16 : decode cX12_givens 16 = .ok (.goto 31, 3) := by decide +kernel
theorem dX12_givens_19 : decode cX12_givens 19 = .ok (.aload_n 0, 1) := by decide +kernel
theorem dX12_givens_20 : decode cX12_givens 20 = .ok (.getfield 7, 3) := by decide +kernel
theorem dX12_givens_23 : decode cX12_givens 23 = .ok (.iload_n 1, 1) := by decide +kernel
theorem dX12_givens_24 : decode cX12_givens 24 = .ok (.iaload, 1) := by decide +kernel
theorem dX12_givens_25 : decode cX12_givens 25 = .ok (.iconst 3, 1) := by decide +kernel
theorem dX12_givens_26 : decode cX12_givens 26 = .ok (.if_icmp .gt 16, 3) := by decide +kernel
theorem dX12_givens_29 : decode cX12_givens 29 = .ok (.aload_n 0, 1) := by decide +kernel
theorem dX12_givens_30 : decode cX12_givens 30 = .ok (.iload_n 1, 1) := by decide +kernel
theorem dX12_givens_31 : decode cX12_givens 31 = .ok (.invokevirtual 118, 3) := by decide +kernel
theorem dX12_givens_34 : decode cX12_givens 34 = .ok (.iload 4, 2) := by decide +kernel
theorem dX12_givens_36 : decode cX12_givens 36 = .ok (.iand, 1) := by decide +kernel
theorem dX12_givens_37 : decode cX12_givens 37 = .ok (.iload 4, 2) := by decide +kernel
theorem dX12_givens_39 : decode cX12_givens 39 = .ok (.if_icmp .eq 7, 3) := by decide +kernel
theorem dX12_givens_42 : decode cX12_givens 42 = .ok (.iconst 2, 1) := by decide +kernel
theorem dX12_givens_43 : decode cX12_givens 43 = .ok (.goto 4, 3) := by decide +kernel
theorem dX12_givens_46 : decode cX12_givens 46 = .ok (.iconst 0, 1) := by decide +kernel
theorem dX12_givens_47 : decode cX12_givens 47 = .ok (.invokevirtual 63, 3) := by decide +kernel
theorem dX12_givens_50 : decode cX12_givens 50 = .ok (.ifCond .ne 5, 3) := by decide +kernel
theorem dX12_givens_53 : decode cX12_givens 53 = .ok (.iconst 0, 1) := by decide +kernel
theorem dX12_givens_54 : decode cX12_givens 54 = .ok (.ireturn, 1) := by decide +kernel
theorem dX12_givens_55 : decode cX12_givens 55 = .ok (.aload_n 0, 1) := by decide +kernel
theorem dX12_givens_56 : decode cX12_givens 56 = .ok (.iload_n 1, 1) := by decide +kernel
theorem dX12_givens_57 : decode cX12_givens 57 = .ok (.invokevirtual 100, 3) := by decide +kernel
theorem dX12_givens_60 : decode cX12_givens 60 = .ok (.istore 5, 2) := by decide +kernel
theorem dX12_givens_62 : decode cX12_givens 62 = .ok (.iconst 0, 1) := by decide +kernel
theorem dX12_givens_63 : decode cX12_givens 63 = .ok (.istore 6, 2) := by decide +kernel
theorem dX12_givens_65 : decode cX12_givens 65 = .ok (.iload 6, 2) := by decide +kernel
theorem dX12_givens_67 : decode cX12_givens 67 = .ok (.iload 5, 2) := by decide +kernel
theorem dX12_givens_69 : decode cX12_givens 69 = .ok (.if_icmp .gt 65, 3) := by decide +kernel
theorem dX12_givens_72 : decode cX12_givens 72 = .ok (.iconst 0, 1) := by decide +kernel
theorem dX12_givens_73 : decode cX12_givens 73 = .ok (.istore 7, 2) := by decide +kernel
theorem dX12_givens_75 : decode cX12_givens 75 = .ok (.iload 7, 2) := by decide +kernel
theorem dX12_givens_77 : decode cX12_givens 77 = .ok (.iconst 1, 1) := by decide +kernel
theorem dX12_givens_78 : decode cX12_givens 78 = .ok (.iload 5, 2) := by decide +kernel
theorem dX12_givens_80 : decode cX12_givens 80 = .ok (.ishl, 1) := by decide +kernel
theorem dX12_givens_81 : decode cX12_givens 81 = .ok (.if_icmp .ge 47, 3) := by decide +kernel
theorem dX12_givens_84 : decode cX12_givens 84 = .ok (.iload 7, 2) := by decide +kernel
theorem dX12_givens_86 : decode cX12_givens 86 = .ok (.invokestatic 187, 3) := by decide +kernel
theorem dX12_givens_89 : decode cX12_givens 89 = .ok (.iload 6, 2) := by decide +kernel
theorem dX12_givens_91 : decode cX12_givens 91 = .ok (.if_icmp .ne 31, 3) := by decide +kernel
theorem dX12_givens_94 : decode cX12_givens 94 = .ok (.aload_n 0, 1) := by decide +kernel
theorem dX12_givens_95 : decode cX12_givens 95 = .ok (.iload_n 1, 1) := by decide +kernel
theorem dX12_givens_96 : decode cX12_givens 96 = .ok (.iload 7, 2) := by decide +kernel
theorem dX12_givens_98 : decode cX12_givens 98 = .ok (.invokevirtual 173, 3) := by decide +kernel
theorem dX12_givens_101 : decode cX12_givens 101 = .ok (.aload_n 0, 1) := by decide +kernel
theorem dX12_givens_102 : decode cX12_givens 102 = .ok (.iconst 2, 1) := by decide +kernel
theorem dX12_givens_103 : decode cX12_givens 103 = .ok (.invokevirtual 178, 3) := by decide +kernel
theorem dX12_givens_106 : decode cX12_givens 106 = .ok (.iconst 1, 1) := by decide +kernel
theorem dX12_givens_107 : decode cX12_givens 107 = .ok (.if_icmp .ne 15, 3) := by decide +kernel
theorem dX12_givens_110 : decode cX12_givens 110 = .ok (.iload_n 2, 1) := by decide +kernel
theorem dX12_givens_111 : decode cX12_givens 111 = .ok (.ifCond .eq 8, 3) := by decide +kernel
theorem dX12_givens_114 : decode cX12_givens 114 = .ok (.iload 7, 2) := by decide +kernel
theorem dX12_givens_116 : decode cX12_givens 116 = .ok (.goto 5, 3) := by decide +kernel
theorem dX12_givens_119 : decode cX12_givens 119 = .ok (.iload 6, 2) := by decide +kernel
theorem dX12_givens_121 : decode cX12_givens 121 = .ok (.ireturn, 1) := by decide +kernel
theorem dX12_givens_122 : decode cX12_givens 122 = .ok (.iinc 7 1, 3) := by decide +kernel
theorem dX12_givens_125 : decode cX12_givens 125 = .ok (.goto (-50), 3) := by decide +kernel
theorem dX12_givens_128 : decode cX12_givens 128 = .ok (.iinc 6 1, 3) := by decide +kernel
theorem dX12_givens_131 : decode cX12_givens 131 = .ok (.goto (-66), 3) := by decide +kernel
theorem dX12_givens_134 : decode cX12_givens 134 = .ok (.iconst 0, 1) := by decide +kernel
theorem dX12_givens_135 : decode cX12_givens 135 = .ok (.ireturn, 1) := by decide +kernel
theorem dX12_isRight_0 : decode cX12_isRight 0 = .ok (.aload_n 0, 1) := by decide +kernel
theorem dX12_isRight_1 : decode cX12_isRight 1 = .ok (.iload_n 1, 1) := by decide +kernel
theorem dX12_isRight_2 : decode cX12_isRight 2 = .ok (.iconst 0, 1) := by decide +kernel
theorem dX12_isRight_3 : decode cX12_isRight 3 = .ok (.invokevirtual 106, 3) := by decide +kernel
theorem dX12_isRight_6 : decode cX12_isRight 6 = .ok (.ifCond .eq 24, 3) := by decide +kernel
theorem dX12_isRight_9 : decode cX12_isRight 9 = .ok (.aload_n 0, 1) := by decide +kernel
theorem dX12_isRight_10 : decode cX12_isRight 10 = .ok (.iload_n 1, 1) := by decide +kernel
theorem dX12_isRight_11 : decode cX12_isRight 11 = .ok (.iconst 1, 1) := by decide +kernel
theorem dX12_isRight_12 : decode cX12_isRight 12 = .ok (.invokevirtual 106, 3) := by decide +kernel
theorem dX12_isRight_15 : decode cX12_isRight 15 = .ok (.ifCond .eq 15, 3) := by decide +kernel
theorem dX12_isRight_18 : decode cX12_isRight 18 = .ok (.aload_n 0, 1) := by decide +kernel
theorem dX12_isRight_19 : decode cX12_isRight 19 = .ok (.iload_n 1, 1) := by decide +kernel
theorem dX12_isRight_20 : decode cX12_isRight 20 = .ok (.invokevirtual 109, 3) := by decide +kernel
theorem dX12_isRight_23 : decode cX12_isRight 23 = .ok (.ifCond .eq 7, 3) := by decide +kernel
theorem dX12_isRight_26 : decode cX12_isRight 26 = .ok (.iconst 1, 1) := by decide +kernel
theorem dX12_isRight_27 : decode cX12_isRight 27 = .ok (.goto 4, 3) := by decide +kernel
theorem dX12_isRight_30 : decode cX12_isRight 30 = .ok (.iconst 0, 1) := by decide +kernel
theorem dX12_isRight_31 : decode cX12_isRight 31 = .ok (.ireturn, 1) := by decide +kernel
theorem dX12_isSlip_0 : decode cX12_isSlip 0 = .ok (.bipush 81, 2) := by decide +kernel
theorem dX12_isSlip_2 : decode cX12_isSlip 2 = .ok (.iload_n 1, 1) := by decide +kernel
theorem dX12_isSlip_3 : decode cX12_isSlip 3 = .ok (.imul, 1) := by decide +kernel
theorem dX12_isSlip_4 : decode cX12_isSlip 4 = .ok (.iload_n 2, 1) := by decide +kernel
theorem dX12_isSlip_5 : decode cX12_isSlip 5 = .ok (.iadd, 1) := by decide +kernel
theorem dX12_isSlip_6 : decode cX12_isSlip 6 = .ok (.istore 4, 2) := by decide +kernel
theorem dX12_isSlip_8 : decode cX12_isSlip 8 = .ok (.aload_n 0, 1) := by decide +kernel
theorem dX12_isSlip_9 : decode cX12_isSlip 9 = .ok (.getfield 13, 3) := by decide +kernel
theorem dX12_isSlip_12 : decode cX12_isSlip 12 = .ok (.iload 4, 2) := by decide +kernel
theorem dX12_isSlip_14 : decode cX12_isSlip 14 = .ok (.iaload, 1) := by decide +kernel
theorem dX12_isSlip_15 : decode cX12_isSlip 15 = .ok (.istore 5, 2) := by decide +kernel
theorem dX12_isSlip_17 : decode cX12_isSlip 17 = .ok (.iload 5, 2) := by decide +kernel
theorem dX12_isSlip_19 : decode cX12_isSlip 19 = .ok (.iload_n 3, 1) := by decide +kernel
theorem dX12_isSlip_20 : decode cX12_isSlip 20 = .ok (.if_icmp .eq 14, 3) := by decide +kernel
theorem dX12_isSlip_23 : decode cX12_isSlip 23 = .ok (.iload_n 3, 1) := by decide +kernel
theorem dX12_isSlip_24 : decode cX12_isSlip 24 = .ok (.iconst 1, 1) := by decide +kernel
theorem dX12_isSlip_25 : decode cX12_isSlip 25 = .ok (.sipush 999, 3) := by decide +kernel
theorem dX12_isSlip_28 : decode cX12_isSlip 28 = .ok (.invokestatic 55, 3) := by decide +kernel
theorem dX12_isSlip_31 : decode cX12_isSlip 31 = .ok (.ifCond .ne 5, 3) := by decide +kernel
theorem dX12_isSlip_34 : decode cX12_isSlip 34 = .ok (.iconst 0, 1) := by decide +kernel
theorem dX12_isSlip_35 : decode cX12_isSlip 35 = .ok (.ireturn, 1) := by decide +kernel
theorem dX12_isSlip_36 : decode cX12_isSlip 36 = .ok (.aload_n 0, 1) := by decide +kernel
theorem dX12_isSlip_37 : decode cX12_isSlip 37 = .ok (.getfield 13, 3) := by decide +kernel
theorem dX12_isSlip_40 : decode cX12_isSlip 40 = .ok (.iload 4, 2) := by decide +kernel
theorem dX12_isSlip_42 : decode cX12_isSlip 42 = .ok (.iload_n 3, 1) := by decide +kernel
theorem dX12_isSlip_43 : decode cX12_isSlip 43 = .ok (.iastore, 1) := by decide +kernel
theorem dX12_isSlip_44 : decode cX12_isSlip 44 = .ok (.aload_n 0, 1) := by decide +kernel
theorem dX12_isSlip_45 : decode cX12_isSlip 45 = .ok (.iload_n 1, 1) := by decide +kernel
theorem dX12_isSlip_46 : decode cX12_isSlip 46 = .ok (.invokevirtual 190, 3) := by decide +kernel
theorem dX12_isSlip_49 : decode cX12_isSlip 49 = .ok (.istore 6, 2) := by decide +kernel
theorem dX12_isSlip_51 : decode cX12_isSlip 51 = .ok (.aload_n 0, 1) := by decide +kernel
theorem dX12_isSlip_52 : decode cX12_isSlip 52 = .ok (.getfield 13, 3) := by decide +kernel
theorem dX12_isSlip_55 : decode cX12_isSlip 55 = .ok (.iload 4, 2) := by decide +kernel
theorem dX12_isSlip_57 : decode cX12_isSlip 57 = .ok (.iload 5, 2) := by decide +kernel
theorem dX12_isSlip_59 : decode cX12_isSlip 59 = .ok (.iastore, 1) := by decide +kernel
theorem dX12_isSlip_60 : decode cX12_isSlip 60 = .ok (.iload 6, 2) := by decide +kernel
theorem dX12_isSlip_62 : decode cX12_isSlip 62 = .ok (.ireturn, 1) := by decide +kernel
theorem dX12_mended_0 : decode cX12_mended 0 = .ok (.iload_n 2, 1) := by decide +kernel
theorem dX12_mended_1 : decode cX12_mended 1 = .ok (.aload_n 0, 1) := by decide +kernel
theorem dX12_mended_2 : decode cX12_mended 2 = .ok (.getfield 7, 3) := by decide +kernel
theorem dX12_mended_5 : decode cX12_mended 5 = .ok (.iload_n 1, 1) := by decide +kernel
theorem dX12_mended_6 : decode cX12_mended 6 = .ok (.iaload, 1) := by decide +kernel
theorem dX12_mended_7 : decode cX12_mended 7 = .ok (.idiv, 1) := by decide +kernel
theorem dX12_mended_8 : decode cX12_mended 8 = .ok (.istore_n 3, 1) := by decide +kernel
theorem dX12_mended_9 : decode cX12_mended 9 = .ok (.aload_n 0, 1) := by decide +kernel
theorem dX12_mended_10 : decode cX12_mended 10 = .ok (.iload_n 1, 1) := by decide +kernel
theorem dX12_mended_11 : decode cX12_mended 11 = .ok (.iconst 0, 1) := by decide +kernel
theorem dX12_mended_12 : decode cX12_mended 12 = .ok (.iload_n 3, 1) := by decide +kernel
theorem dX12_mended_13 : decode cX12_mended 13 = .ok (.ifCond .ne 7, 3) := by decide +kernel
theorem dX12_mended_16 : decode cX12_mended 16 = .ok (.iconst 1, 1) := by decide +kernel
theorem dX12_mended_17 : decode cX12_mended 17 = .ok (.goto 4, 3) := by decide +kernel
theorem dX12_mended_20 : decode cX12_mended 20 = .ok (.iconst 0, 1) := by decide +kernel
theorem dX12_mended_21 : decode cX12_mended 21 = .ok (.invokevirtual 97, 3) := by decide +kernel
theorem dX12_mended_24 : decode cX12_mended 24 = .ok (.aload_n 0, 1) := by decide +kernel
theorem dX12_mended_25 : decode cX12_mended 25 = .ok (.iload_n 1, 1) := by decide +kernel
theorem dX12_mended_26 : decode cX12_mended 26 = .ok (.iconst 0, 1) := by decide +kernel
theorem dX12_mended_27 : decode cX12_mended 27 = .ok (.iload_n 3, 1) := by decide +kernel
theorem dX12_mended_28 : decode cX12_mended 28 = .ok (.invokevirtual 97, 3) := by decide +kernel
theorem dX12_mended_31 : decode cX12_mended 31 = .ok (.isub, 1) := by decide +kernel
theorem dX12_mended_32 : decode cX12_mended 32 = .ok (.aload_n 0, 1) := by decide +kernel
theorem dX12_mended_33 : decode cX12_mended 33 = .ok (.getfield 13, 3) := by decide +kernel
theorem dX12_mended_36 : decode cX12_mended 36 = .ok (.bipush 81, 2) := by decide +kernel
theorem dX12_mended_38 : decode cX12_mended 38 = .ok (.iload_n 1, 1) := by decide +kernel
theorem dX12_mended_39 : decode cX12_mended 39 = .ok (.imul, 1) := by decide +kernel
theorem dX12_mended_40 : decode cX12_mended 40 = .ok (.iload_n 2, 1) := by decide +kernel
theorem dX12_mended_41 : decode cX12_mended 41 = .ok (.iadd, 1) := by decide +kernel
theorem dX12_mended_42 : decode cX12_mended 42 = .ok (.iaload, 1) := by decide +kernel
theorem dX12_mended_43 : decode cX12_mended 43 = .ok (.iadd, 1) := by decide +kernel
theorem dX12_mended_44 : decode cX12_mended 44 = .ok (.ireturn, 1) := by decide +kernel
theorem dX12_slip_0 : decode cX12_slip 0 = .ok (.aload_n 0, 1) := by decide +kernel
theorem dX12_slip_1 : decode cX12_slip 1 = .ok (.iload_n 1, 1) := by decide +kernel
theorem dX12_slip_2 : decode cX12_slip 2 = .ok (.invokevirtual 59, 3) := by decide +kernel
theorem dX12_slip_5 : decode cX12_slip 5 = .ok (.istore_n 3, 1) := by decide +kernel
theorem dX12_slip_6 : decode cX12_slip 6 = .ok (.aload_n 0, 1) := by decide +kernel
theorem dX12_slip_7 : decode cX12_slip 7 = .ok (.iload_n 3, 1) := by decide +kernel
theorem dX12_slip_8 : decode cX12_slip 8 = .ok (.ifCond .ne 7, 3) := by decide +kernel
theorem dX12_slip_11 : decode cX12_slip 11 = .ok (.iconst 1, 1) := by decide +kernel
theorem dX12_slip_12 : decode cX12_slip 12 = .ok (.goto 17, 3) := by decide +kernel
theorem dX12_slip_15 : decode cX12_slip 15 = .ok (.iload_n 2, 1) := by decide +kernel
theorem dX12_slip_16 : decode cX12_slip 16 = .ok (.iconst 0, 1) := by decide +kernel
theorem dX12_slip_17 : decode cX12_slip 17 = .ok (.iconst 2, 1) := by decide +kernel
theorem dX12_slip_18 : decode cX12_slip 18 = .ok (.invokestatic 55, 3) := by decide +kernel
theorem dX12_slip_21 : decode cX12_slip 21 = .ok (.ifCond .ne 7, 3) := by decide +kernel
theorem dX12_slip_24 : decode cX12_slip 24 = .ok (.iconst 2, 1) := by decide +kernel
theorem dX12_slip_25 : decode cX12_slip 25 = .ok (.goto 4, 3) := by decide +kernel
theorem dX12_slip_28 : decode cX12_slip 28 = .ok (.iconst 0, 1) := by decide +kernel
theorem dX12_slip_29 : decode cX12_slip 29 = .ok (.invokevirtual 63, 3) := by decide +kernel
theorem dX12_slip_32 : decode cX12_slip 32 = .ok (.ifCond .ne 5, 3) := by decide +kernel
theorem dX12_slip_35 : decode cX12_slip 35 = .ok (.iconst 0, 1) := by decide +kernel
theorem dX12_slip_36 : decode cX12_slip 36 = .ok (.ireturn, 1) := by decide +kernel
theorem dX12_slip_37 : decode cX12_slip 37 = .ok (.iconst 0, 1) := by decide +kernel
theorem dX12_slip_38 : decode cX12_slip 38 = .ok (.istore 4, 2) := by decide +kernel
theorem dX12_slip_40 : decode cX12_slip 40 = .ok (.iconst (-1), 1) := by decide +kernel
theorem dX12_slip_41 : decode cX12_slip 41 = .ok (.istore 5, 2) := by decide +kernel
theorem dX12_slip_43 : decode cX12_slip 43 = .ok (.iconst (-1), 1) := by decide +kernel
theorem dX12_slip_44 : decode cX12_slip 44 = .ok (.istore 6, 2) := by decide +kernel
theorem dX12_slip_46 : decode cX12_slip 46 = .ok (.iconst 0, 1) := by decide +kernel
theorem dX12_slip_47 : decode cX12_slip 47 = .ok (.istore 7, 2) := by decide +kernel
theorem dX12_slip_49 : decode cX12_slip 49 = .ok (.iload 7, 2) := by decide +kernel
theorem dX12_slip_51 : decode cX12_slip 51 = .ok (.aload_n 0, 1) := by decide +kernel
theorem dX12_slip_52 : decode cX12_slip 52 = .ok (.iload_n 1, 1) := by decide +kernel
theorem dX12_slip_53 : decode cX12_slip 53 = .ok (.invokevirtual 100, 3) := by decide +kernel
theorem dX12_slip_56 : decode cX12_slip 56 = .ok (.if_icmp .ge 133, 3) := by decide +kernel
theorem dX12_slip_59 : decode cX12_slip 59 = .ok (.aload_n 0, 1) := by decide +kernel
theorem dX12_slip_60 : decode cX12_slip 60 = .ok (.getfield 7, 3) := by decide +kernel
theorem dX12_slip_63 : decode cX12_slip 63 = .ok (.iload_n 1, 1) := by decide +kernel
theorem dX12_slip_64 : decode cX12_slip 64 = .ok (.iaload, 1) := by decide +kernel
theorem dX12_slip_65 : decode cX12_slip 65 = .ok (.iconst 1, 1) := by decide +kernel
theorem dX12_slip_66 : decode cX12_slip 66 = .ok (.if_icmp .ne 7, 3) := by decide +kernel
theorem dX12_slip_69 : decode cX12_slip 69 = .ok (.iconst 1, 1) := by decide +kernel
theorem dX12_slip_70 : decode cX12_slip 70 = .ok (.goto 10, 3) := by decide +kernel
theorem dX12_slip_73 : decode cX12_slip 73 = .ok (.aload_n 0, 1) := by decide +kernel
theorem dX12_slip_74 : decode cX12_slip 74 = .ok (.iload_n 1, 1) := by decide +kernel
theorem dX12_slip_75 : decode cX12_slip 75 = .ok (.iload 7, 2) := by decide +kernel
theorem dX12_slip_77 : decode cX12_slip 77 = .ok (.invokevirtual 193, 3) := by decide +kernel
theorem dX12_slip_80 : decode cX12_slip 80 = .ok (.istore 8, 2) := by decide +kernel
theorem dX12_slip_82 : decode cX12_slip 82 = .ok (.aload_n 0, 1) := by decide +kernel
theorem dX12_slip_83 : decode cX12_slip 83 = .ok (.getfield 7, 3) := by decide +kernel
theorem dX12_slip_86 : decode cX12_slip 86 = .ok (.iload_n 1, 1) := by decide +kernel
theorem dX12_slip_87 : decode cX12_slip 87 = .ok (.iaload, 1) := by decide +kernel
theorem dX12_slip_88 : decode cX12_slip 88 = .ok (.iconst 1, 1) := by decide +kernel
theorem dX12_slip_89 : decode cX12_slip 89 = .ok (.if_icmp .ne 9, 3) := by decide +kernel
theorem dX12_slip_92 : decode cX12_slip 92 = .ok (.sipush 999, 3) := by decide +kernel
theorem dX12_slip_95 : decode cX12_slip 95 = .ok (.goto 5, 3) := by decide +kernel
theorem dX12_slip_98 : decode cX12_slip 98 = .ok (.iload 8, 2) := by decide +kernel
theorem dX12_slip_100 : decode cX12_slip 100 = .ok (.istore 9, 2) := by decide +kernel
theorem dX12_slip_102 : decode cX12_slip 102 = .ok (.iload 8, 2) := by decide +kernel
theorem dX12_slip_104 : decode cX12_slip 104 = .ok (.istore 10, 2) := by decide +kernel
theorem dX12_slip_106 : decode cX12_slip 106 = .ok (.iload 10, 2) := by decide +kernel
theorem dX12_slip_108 : decode cX12_slip 108 = .ok (.iload 9, 2) := by decide +kernel
theorem dX12_slip_110 : decode cX12_slip 110 = .ok (.if_icmp .gt 73, 3) := by decide +kernel
theorem dX12_slip_113 : decode cX12_slip 113 = .ok (.aload_n 0, 1) := by decide +kernel
theorem dX12_slip_114 : decode cX12_slip 114 = .ok (.iload_n 1, 1) := by decide +kernel
theorem dX12_slip_115 : decode cX12_slip 115 = .ok (.iload 7, 2) := by decide +kernel
theorem dX12_slip_117 : decode cX12_slip 117 = .ok (.iload 10, 2) := by decide +kernel
theorem dX12_slip_119 : decode cX12_slip 119 = .ok (.invokevirtual 196, 3) := by decide +kernel
theorem dX12_slip_122 : decode cX12_slip 122 = .ok (.istore 11, 2) := by decide +kernel
theorem dX12_slip_124 : decode cX12_slip 124 = .ok (.iload 11, 2) := by decide +kernel
theorem dX12_slip_126 : decode cX12_slip 126 = .ok (.ifCond .eq 13, 3) := by decide +kernel
theorem dX12_slip_129 : decode cX12_slip 129 = .ok (.iload 4, 2) := by decide +kernel
theorem dX12_slip_131 : decode cX12_slip 131 = .ok (.ifCond .ne 8, 3) := by decide +kernel
theorem dX12_slip_134 : decode cX12_slip 134 = .ok (.iload 7, 2) := by decide +kernel
theorem dX12_slip_136 : decode cX12_slip 136 = .ok (.goto 5, 3) := by decide +kernel
theorem dX12_slip_139 : decode cX12_slip 139 = .ok (.iload 5, 2) := by decide +kernel
theorem dX12_slip_141 : decode cX12_slip 141 = .ok (.istore 5, 2) := by decide +kernel
theorem dX12_slip_143 : decode cX12_slip 143 = .ok (.iload 11, 2) := by decide +kernel
theorem dX12_slip_145 : decode cX12_slip 145 = .ok (.ifCond .eq 13, 3) := by decide +kernel
theorem dX12_slip_148 : decode cX12_slip 148 = .ok (.iload 4, 2) := by decide +kernel
theorem dX12_slip_150 : decode cX12_slip 150 = .ok (.ifCond .ne 8, 3) := by decide +kernel
theorem dX12_slip_153 : decode cX12_slip 153 = .ok (.iload 10, 2) := by decide +kernel
theorem dX12_slip_155 : decode cX12_slip 155 = .ok (.goto 5, 3) := by decide +kernel
theorem dX12_slip_158 : decode cX12_slip 158 = .ok (.iload 6, 2) := by decide +kernel
theorem dX12_slip_160 : decode cX12_slip 160 = .ok (.istore 6, 2) := by decide +kernel
theorem dX12_slip_162 : decode cX12_slip 162 = .ok (.iload 4, 2) := by decide +kernel
theorem dX12_slip_164 : decode cX12_slip 164 = .ok (.iload 11, 2) := by decide +kernel
theorem dX12_slip_166 : decode cX12_slip 166 = .ok (.ifCond .eq 7, 3) := by decide +kernel
theorem dX12_slip_169 : decode cX12_slip 169 = .ok (.iconst 1, 1) := by decide +kernel
theorem dX12_slip_170 : decode cX12_slip 170 = .ok (.goto 4, 3) := by decide +kernel
theorem dX12_slip_173 : decode cX12_slip 173 = .ok (.iconst 0, 1) := by decide +kernel
theorem dX12_slip_174 : decode cX12_slip 174 = .ok (.iadd, 1) := by decide +kernel
theorem dX12_slip_175 : decode cX12_slip 175 = .ok (.istore 4, 2) := by decide +kernel
theorem dX12_slip_177 : decode cX12_slip 177 = .ok (.iinc 10 1, 3) := by decide +kernel
theorem dX12_slip_180 : decode cX12_slip 180 = .ok (.goto (-74), 3) := by decide +kernel
theorem dX12_slip_183 : decode cX12_slip 183 = .ok (.iinc 7 1, 3) := by decide +kernel
theorem dX12_slip_186 : decode cX12_slip 186 = .ok (.goto (-137), 3) := by decide +kernel
theorem dX12_slip_189 : decode cX12_slip 189 = .ok (.iload_n 2, 1) := by decide +kernel
theorem dX12_slip_190 : decode cX12_slip 190 = .ok (.ifCond .ne 8, 3) := by decide +kernel
theorem dX12_slip_193 : decode cX12_slip 193 = .ok (.iload 4, 2) := by decide +kernel
theorem dX12_slip_195 : decode cX12_slip 195 = .ok (.goto 15, 3) := by decide +kernel
theorem dX12_slip_198 : decode cX12_slip 198 = .ok (.iload_n 2, 1) := by decide +kernel
theorem dX12_slip_199 : decode cX12_slip 199 = .ok (.iconst 1, 1) := by decide +kernel
theorem dX12_slip_200 : decode cX12_slip 200 = .ok (.if_icmp .ne 8, 3) := by decide +kernel
theorem dX12_slip_203 : decode cX12_slip 203 = .ok (.iload 5, 2) := by decide +kernel
theorem dX12_slip_205 : decode cX12_slip 205 = .ok (.goto 5, 3) := by decide +kernel
theorem dX12_slip_208 : decode cX12_slip 208 = .ok (.iload 6, 2) := by decide +kernel
theorem dX12_slip_210 : decode cX12_slip 210 = .ok (.ireturn, 1) := by decide +kernel
theorem dX12_orthogonal_0 : decode cX12_orthogonal 0 = .ok (.aload_n 0, 1) := by decide +kernel
theorem dX12_orthogonal_1 : decode cX12_orthogonal 1 = .ok (.iload_n 1, 1) := by decide +kernel
theorem dX12_orthogonal_2 : decode cX12_orthogonal 2 = .ok (.invokevirtual 59, 3) := by decide +kernel
theorem dX12_orthogonal_5 : decode cX12_orthogonal 5 = .ok (.ifCond .eq 15, 3) := by decide +kernel
theorem dX12_orthogonal_8 : decode cX12_orthogonal 8 = .ok (.aload_n 0, 1) := by decide +kernel
theorem dX12_orthogonal_9 : decode cX12_orthogonal 9 = .ok (.iload_n 2, 1) := by decide +kernel
theorem dX12_orthogonal_10 : decode cX12_orthogonal 10 = .ok (.invokevirtual 59, 3) := by decide +kernel
theorem dX12_orthogonal_13 : decode cX12_orthogonal 13 = .ok (.ifCond .eq 7, 3) := by decide +kernel
theorem dX12_orthogonal_16 : decode cX12_orthogonal 16 = .ok (.iconst 1, 1) := by decide +kernel
theorem dX12_orthogonal_17 : decode cX12_orthogonal 17 = .ok (.goto 4, 3) := by decide +kernel
theorem dX12_orthogonal_20 : decode cX12_orthogonal 20 = .ok (.iconst 0, 1) := by decide +kernel
theorem dX12_orthogonal_21 : decode cX12_orthogonal 21 = .ok (.istore_n 3, 1) := by decide +kernel
theorem dX12_orthogonal_22 : decode cX12_orthogonal 22 = .ok (.aload_n 0, 1) := by decide +kernel
theorem dX12_orthogonal_23 : decode cX12_orthogonal 23 = .ok (.iload_n 3, 1) := by decide +kernel
theorem dX12_orthogonal_24 : decode cX12_orthogonal 24 = .ok (.ifCond .ne 7, 3) := by decide +kernel
theorem dX12_orthogonal_27 : decode cX12_orthogonal 27 = .ok (.iconst 1, 1) := by decide +kernel
theorem dX12_orthogonal_28 : decode cX12_orthogonal 28 = .ok (.goto 23, 3) := by decide +kernel
theorem dX12_orthogonal_31 : decode cX12_orthogonal 31 = .ok (.aload_n 0, 1) := by decide +kernel
theorem dX12_orthogonal_32 : decode cX12_orthogonal 32 = .ok (.getfield 7, 3) := by decide +kernel
theorem dX12_orthogonal_35 : decode cX12_orthogonal 35 = .ok (.iload_n 1, 1) := by decide +kernel
theorem dX12_orthogonal_36 : decode cX12_orthogonal 36 = .ok (.iaload, 1) := by decide +kernel
theorem dX12_orthogonal_37 : decode cX12_orthogonal 37 = .ok (.aload_n 0, 1) := by decide +kernel
theorem dX12_orthogonal_38 : decode cX12_orthogonal 38 = .ok (.getfield 7, 3) := by decide +kernel
theorem dX12_orthogonal_41 : decode cX12_orthogonal 41 = .ok (.iload_n 2, 1) := by decide +kernel
theorem dX12_orthogonal_42 : decode cX12_orthogonal 42 = .ok (.iaload, 1) := by decide +kernel
theorem dX12_orthogonal_43 : decode cX12_orthogonal 43 = .ok (.if_icmp .eq 7, 3) := by decide +kernel
theorem dX12_orthogonal_46 : decode cX12_orthogonal 46 = .ok (.iconst 2, 1) := by decide +kernel
theorem dX12_orthogonal_47 : decode cX12_orthogonal 47 = .ok (.goto 4, 3) := by decide +kernel
theorem dX12_orthogonal_50 : decode cX12_orthogonal 50 = .ok (.iconst 0, 1) := by decide +kernel
theorem dX12_orthogonal_51 : decode cX12_orthogonal 51 = .ok (.invokevirtual 63, 3) := by decide +kernel
theorem dX12_orthogonal_54 : decode cX12_orthogonal 54 = .ok (.ifCond .ne 5, 3) := by decide +kernel
theorem dX12_orthogonal_57 : decode cX12_orthogonal 57 = .ok (.iconst 0, 1) := by decide +kernel
theorem dX12_orthogonal_58 : decode cX12_orthogonal 58 = .ok (.ireturn, 1) := by decide +kernel
theorem dX12_orthogonal_59 : decode cX12_orthogonal 59 = .ok (.iconst 1, 1) := by decide +kernel
theorem dX12_orthogonal_60 : decode cX12_orthogonal 60 = .ok (.istore 4, 2) := by decide +kernel
theorem dX12_orthogonal_62 : decode cX12_orthogonal 62 = .ok (.iconst 0, 1) := by decide +kernel
theorem dX12_orthogonal_63 : decode cX12_orthogonal 63 = .ok (.istore 5, 2) := by decide +kernel
theorem dX12_orthogonal_65 : decode cX12_orthogonal 65 = .ok (.iload 5, 2) := by decide +kernel
theorem dX12_orthogonal_67 : decode cX12_orthogonal 67 = .ok (.aload_n 0, 1) := by decide +kernel
theorem dX12_orthogonal_68 : decode cX12_orthogonal 68 = .ok (.iload_n 1, 1) := by decide +kernel
theorem dX12_orthogonal_69 : decode cX12_orthogonal 69 = .ok (.invokevirtual 100, 3) := by decide +kernel
theorem dX12_orthogonal_72 : decode cX12_orthogonal 72 = .ok (.if_icmp .ge 91, 3) := by decide +kernel
theorem dX12_orthogonal_75 : decode cX12_orthogonal 75 = .ok (.iconst 0, 1) := by decide +kernel
theorem dX12_orthogonal_76 : decode cX12_orthogonal 76 = .ok (.istore 6, 2) := by decide +kernel
theorem dX12_orthogonal_78 : decode cX12_orthogonal 78 = .ok (.iload 6, 2) := by decide +kernel
theorem dX12_orthogonal_80 : decode cX12_orthogonal 80 = .ok (.iload 5, 2) := by decide +kernel
theorem dX12_orthogonal_82 : decode cX12_orthogonal 82 = .ok (.if_icmp .ge 75, 3) := by decide +kernel
theorem dX12_orthogonal_85 : decode cX12_orthogonal 85 = .ok (.iload 4, 2) := by decide +kernel
theorem dX12_orthogonal_87 : decode cX12_orthogonal 87 = .ok (.ifCond .eq 61, 3) := by decide +kernel
theorem dX12_orthogonal_90 : decode cX12_orthogonal 90 = .ok (.aload_n 0, 1) := by decide +kernel
theorem dX12_orthogonal_91 : decode cX12_orthogonal 91 = .ok (.getfield 13, 3) := by decide +kernel
theorem dX12_orthogonal_94 : decode cX12_orthogonal 94 = .ok (.bipush 81, 2) := by decide +kernel
theorem dX12_orthogonal_96 : decode cX12_orthogonal 96 = .ok (.iload_n 1, 1) := by decide +kernel
theorem dX12_orthogonal_97 : decode cX12_orthogonal 97 = .ok (.imul, 1) := by decide +kernel
theorem dX12_orthogonal_98 : decode cX12_orthogonal 98 = .ok (.iload 5, 2) := by decide +kernel
theorem dX12_orthogonal_100 : decode cX12_orthogonal 100 = .ok (.iadd, 1) := by decide +kernel
theorem dX12_orthogonal_101 : decode cX12_orthogonal 101 = .ok (.iaload, 1) := by decide +kernel
theorem dX12_orthogonal_102 : decode cX12_orthogonal 102 = .ok (.aload_n 0, 1) := by decide +kernel
theorem dX12_orthogonal_103 : decode cX12_orthogonal 103 = .ok (.getfield 13, 3) := by decide +kernel
theorem dX12_orthogonal_106 : decode cX12_orthogonal 106 = .ok (.bipush 81, 2) := by decide +kernel
theorem dX12_orthogonal_108 : decode cX12_orthogonal 108 = .ok (.iload_n 1, 1) := by decide +kernel
theorem dX12_orthogonal_109 : decode cX12_orthogonal 109 = .ok (.imul, 1) := by decide +kernel
theorem dX12_orthogonal_110 : decode cX12_orthogonal 110 = .ok (.iload 6, 2) := by decide +kernel
theorem dX12_orthogonal_112 : decode cX12_orthogonal 112 = .ok (.iadd, 1) := by decide +kernel
theorem dX12_orthogonal_113 : decode cX12_orthogonal 113 = .ok (.iaload, 1) := by decide +kernel
theorem dX12_orthogonal_114 : decode cX12_orthogonal 114 = .ok (.if_icmp .ne 30, 3) := by decide +kernel
theorem dX12_orthogonal_117 : decode cX12_orthogonal 117 = .ok (.aload_n 0, 1) := by decide +kernel
theorem dX12_orthogonal_118 : decode cX12_orthogonal 118 = .ok (.getfield 13, 3) := by decide +kernel
theorem dX12_orthogonal_121 : decode cX12_orthogonal 121 = .ok (.bipush 81, 2) := by decide +kernel
theorem dX12_orthogonal_123 : decode cX12_orthogonal 123 = .ok (.iload_n 2, 1) := by decide +kernel
theorem dX12_orthogonal_124 : decode cX12_orthogonal 124 = .ok (.imul, 1) := by decide +kernel
theorem dX12_orthogonal_125 : decode cX12_orthogonal 125 = .ok (.iload 5, 2) := by decide +kernel
theorem dX12_orthogonal_127 : decode cX12_orthogonal 127 = .ok (.iadd, 1) := by decide +kernel
theorem dX12_orthogonal_128 : decode cX12_orthogonal 128 = .ok (.iaload, 1) := by decide +kernel
theorem dX12_orthogonal_129 : decode cX12_orthogonal 129 = .ok (.aload_n 0, 1) := by decide +kernel
theorem dX12_orthogonal_130 : decode cX12_orthogonal 130 = .ok (.getfield 13, 3) := by decide +kernel
theorem dX12_orthogonal_133 : decode cX12_orthogonal 133 = .ok (.bipush 81, 2) := by decide +kernel
theorem dX12_orthogonal_135 : decode cX12_orthogonal 135 = .ok (.iload_n 2, 1) := by decide +kernel
theorem dX12_orthogonal_136 : decode cX12_orthogonal 136 = .ok (.imul, 1) := by decide +kernel
theorem dX12_orthogonal_137 : decode cX12_orthogonal 137 = .ok (.iload 6, 2) := by decide +kernel
theorem dX12_orthogonal_139 : decode cX12_orthogonal 139 = .ok (.iadd, 1) := by decide +kernel
theorem dX12_orthogonal_140 : decode cX12_orthogonal 140 = .ok (.iaload, 1) := by decide +kernel
theorem dX12_orthogonal_141 : decode cX12_orthogonal 141 = .ok (.if_icmp .eq 7, 3) := by decide +kernel
theorem dX12_orthogonal_144 : decode cX12_orthogonal 144 = .ok (.iconst 1, 1) := by decide +kernel
theorem dX12_orthogonal_145 : decode cX12_orthogonal 145 = .ok (.goto 4, 3) := by decide +kernel
theorem dX12_orthogonal_148 : decode cX12_orthogonal 148 = .ok (.iconst 0, 1) := by decide +kernel
theorem dX12_orthogonal_149 : decode cX12_orthogonal 149 = .ok (.istore 4, 2) := by decide +kernel
theorem dX12_orthogonal_151 : decode cX12_orthogonal 151 = .ok (.iinc 6 1, 3) := by decide +kernel
theorem dX12_orthogonal_154 : decode cX12_orthogonal 154 = .ok (.goto (-76), 3) := by decide +kernel
theorem dX12_orthogonal_157 : decode cX12_orthogonal 157 = .ok (.iinc 5 1, 3) := by decide +kernel
theorem dX12_orthogonal_160 : decode cX12_orthogonal 160 = .ok (.goto (-95), 3) := by decide +kernel
theorem dX12_orthogonal_163 : decode cX12_orthogonal 163 = .ok (.iload 4, 2) := by decide +kernel
theorem dX12_orthogonal_165 : decode cX12_orthogonal 165 = .ok (.ireturn, 1) := by decide +kernel
theorem dX12_isWithin_0 : decode cX12_isWithin 0 = .ok (.iconst 1, 1) := by decide +kernel
theorem dX12_isWithin_1 : decode cX12_isWithin 1 = .ok (.istore_n 3, 1) := by decide +kernel
theorem dX12_isWithin_2 : decode cX12_isWithin 2 = .ok (.iconst 0, 1) := by decide +kernel
theorem dX12_isWithin_3 : decode cX12_isWithin 3 = .ok (.istore 4, 2) := by decide +kernel
theorem dX12_isWithin_5 : decode cX12_isWithin 5 = .ok (.iload 4, 2) := by decide +kernel
theorem dX12_isWithin_7 : decode cX12_isWithin 7 = .ok (.aload_n 0, 1) := by decide +kernel
theorem dX12_isWithin_8 : decode cX12_isWithin 8 = .ok (.iload_n 1, 1) := by decide +kernel
theorem dX12_isWithin_9 : decode cX12_isWithin 9 = .ok (.invokevirtual 100, 3) := by decide +kernel
theorem dX12_isWithin_12 : decode cX12_isWithin 12 = .ok (.if_icmp .ge 39, 3) := by decide +kernel
theorem dX12_isWithin_15 : decode cX12_isWithin 15 = .ok (.iload_n 3, 1) := by decide +kernel
theorem dX12_isWithin_16 : decode cX12_isWithin 16 = .ok (.ifCond .eq 27, 3) := by decide +kernel
theorem dX12_isWithin_19 : decode cX12_isWithin 19 = .ok (.aload_n 0, 1) := by decide +kernel
theorem dX12_isWithin_20 : decode cX12_isWithin 20 = .ok (.getfield 13, 3) := by decide +kernel
theorem dX12_isWithin_23 : decode cX12_isWithin 23 = .ok (.bipush 81, 2) := by decide +kernel
theorem dX12_isWithin_25 : decode cX12_isWithin 25 = .ok (.iload_n 1, 1) := by decide +kernel
theorem dX12_isWithin_26 : decode cX12_isWithin 26 = .ok (.imul, 1) := by decide +kernel
theorem dX12_isWithin_27 : decode cX12_isWithin 27 = .ok (.iload 4, 2) := by decide +kernel
theorem dX12_isWithin_29 : decode cX12_isWithin 29 = .ok (.iadd, 1) := by decide +kernel
theorem dX12_isWithin_30 : decode cX12_isWithin 30 = .ok (.iaload, 1) := by decide +kernel
theorem dX12_isWithin_31 : decode cX12_isWithin 31 = .ok (.iconst 1, 1) := by decide +kernel
theorem dX12_isWithin_32 : decode cX12_isWithin 32 = .ok (.iload_n 2, 1) := by decide +kernel
theorem dX12_isWithin_33 : decode cX12_isWithin 33 = .ok (.invokestatic 55, 3) := by decide +kernel
theorem dX12_isWithin_36 : decode cX12_isWithin 36 = .ok (.ifCond .eq 7, 3) := by decide +kernel
theorem dX12_isWithin_39 : decode cX12_isWithin 39 = .ok (.iconst 1, 1) := by decide +kernel
theorem dX12_isWithin_40 : decode cX12_isWithin 40 = .ok (.goto 4, 3) := by decide +kernel
theorem dX12_isWithin_43 : decode cX12_isWithin 43 = .ok (.iconst 0, 1) := by decide +kernel
theorem dX12_isWithin_44 : decode cX12_isWithin 44 = .ok (.istore_n 3, 1) := by decide +kernel
theorem dX12_isWithin_45 : decode cX12_isWithin 45 = .ok (.iinc 4 1, 3) := by decide +kernel
theorem dX12_isWithin_48 : decode cX12_isWithin 48 = .ok (.goto (-43), 3) := by decide +kernel
theorem dX12_isWithin_51 : decode cX12_isWithin 51 = .ok (.iload_n 3, 1) := by decide +kernel
theorem dX12_isWithin_52 : decode cX12_isWithin 52 = .ok (.ireturn, 1) := by decide +kernel
theorem dX12_stack_0 : decode cX12_stack 0 = .ok (.aload_n 0, 1) := by decide +kernel
theorem dX12_stack_1 : decode cX12_stack 1 = .ok (.iload_n 1, 1) := by decide +kernel
theorem dX12_stack_2 : decode cX12_stack 2 = .ok (.invokevirtual 59, 3) := by decide +kernel
theorem dX12_stack_5 : decode cX12_stack 5 = .ok (.ifCond .eq 15, 3) := by decide +kernel
theorem dX12_stack_8 : decode cX12_stack 8 = .ok (.aload_n 0, 1) := by decide +kernel
theorem dX12_stack_9 : decode cX12_stack 9 = .ok (.iload_n 2, 1) := by decide +kernel
theorem dX12_stack_10 : decode cX12_stack 10 = .ok (.invokevirtual 59, 3) := by decide +kernel
theorem dX12_stack_13 : decode cX12_stack 13 = .ok (.ifCond .eq 7, 3) := by decide +kernel
theorem dX12_stack_16 : decode cX12_stack 16 = .ok (.iconst 1, 1) := by decide +kernel
theorem dX12_stack_17 : decode cX12_stack 17 = .ok (.goto 4, 3) := by decide +kernel
theorem dX12_stack_20 : decode cX12_stack 20 = .ok (.iconst 0, 1) := by decide +kernel
theorem dX12_stack_21 : decode cX12_stack 21 = .ok (.istore_n 3, 1) := by decide +kernel
theorem dX12_stack_22 : decode cX12_stack 22 = .ok (.iload_n 3, 1) := by decide +kernel
theorem dX12_stack_23 : decode cX12_stack 23 = .ok (.ifCond .eq 50, 3) := by decide +kernel
theorem dX12_stack_26 : decode cX12_stack 26 = .ok (.aload_n 0, 1) := by decide +kernel
theorem dX12_stack_27 : decode cX12_stack 27 = .ok (.getfield 7, 3) := by decide +kernel
theorem dX12_stack_30 : decode cX12_stack 30 = .ok (.iload_n 1, 1) := by decide +kernel
theorem dX12_stack_31 : decode cX12_stack 31 = .ok (.iaload, 1) := by decide +kernel
theorem dX12_stack_32 : decode cX12_stack 32 = .ok (.aload_n 0, 1) := by decide +kernel
theorem dX12_stack_33 : decode cX12_stack 33 = .ok (.getfield 7, 3) := by decide +kernel
theorem dX12_stack_36 : decode cX12_stack 36 = .ok (.iload_n 2, 1) := by decide +kernel
theorem dX12_stack_37 : decode cX12_stack 37 = .ok (.iaload, 1) := by decide +kernel
theorem dX12_stack_38 : decode cX12_stack 38 = .ok (.if_icmp .ne 35, 3) := by decide +kernel
theorem dX12_stack_41 : decode cX12_stack 41 = .ok (.aload_n 0, 1) := by decide +kernel
theorem dX12_stack_42 : decode cX12_stack 42 = .ok (.iload_n 1, 1) := by decide +kernel
theorem dX12_stack_43 : decode cX12_stack 43 = .ok (.aload_n 0, 1) := by decide +kernel
theorem dX12_stack_44 : decode cX12_stack 44 = .ok (.getfield 7, 3) := by decide +kernel
theorem dX12_stack_47 : decode cX12_stack 47 = .ok (.iload_n 1, 1) := by decide +kernel
theorem dX12_stack_48 : decode cX12_stack 48 = .ok (.iaload, 1) := by decide +kernel
theorem dX12_stack_49 : decode cX12_stack 49 = .ok (.invokevirtual 199, 3) := by decide +kernel
theorem dX12_stack_52 : decode cX12_stack 52 = .ok (.ifCond .eq 21, 3) := by decide +kernel
theorem dX12_stack_55 : decode cX12_stack 55 = .ok (.aload_n 0, 1) := by decide +kernel
theorem dX12_stack_56 : decode cX12_stack 56 = .ok (.iload_n 2, 1) := by decide +kernel
theorem dX12_stack_57 : decode cX12_stack 57 = .ok (.aload_n 0, 1) := by decide +kernel
theorem dX12_stack_58 : decode cX12_stack 58 = .ok (.getfield 7, 3) := by decide +kernel
theorem dX12_stack_61 : decode cX12_stack 61 = .ok (.iload_n 1, 1) := by decide +kernel
theorem dX12_stack_62 : decode cX12_stack 62 = .ok (.iaload, 1) := by decide +kernel
theorem dX12_stack_63 : decode cX12_stack 63 = .ok (.invokevirtual 199, 3) := by decide +kernel
theorem dX12_stack_66 : decode cX12_stack 66 = .ok (.ifCond .eq 7, 3) := by decide +kernel
theorem dX12_stack_69 : decode cX12_stack 69 = .ok (.iconst 1, 1) := by decide +kernel
theorem dX12_stack_70 : decode cX12_stack 70 = .ok (.goto 4, 3) := by decide +kernel
theorem dX12_stack_73 : decode cX12_stack 73 = .ok (.iconst 0, 1) := by decide +kernel
theorem dX12_stack_74 : decode cX12_stack 74 = .ok (.istore 4, 2) := by decide +kernel
theorem dX12_stack_76 : decode cX12_stack 76 = .ok (.aload_n 0, 1) := by decide +kernel
theorem dX12_stack_77 : decode cX12_stack 77 = .ok (.iload_n 3, 1) := by decide +kernel
theorem dX12_stack_78 : decode cX12_stack 78 = .ok (.ifCond .ne 7, 3) := by decide +kernel
theorem dX12_stack_81 : decode cX12_stack 81 = .ok (.iconst 1, 1) := by decide +kernel
theorem dX12_stack_82 : decode cX12_stack 82 = .ok (.goto 22, 3) := by decide +kernel
theorem dX12_stack_85 : decode cX12_stack 85 = .ok (.iload 4, 2) := by decide +kernel
theorem dX12_stack_87 : decode cX12_stack 87 = .ok (.ifCond .eq 12, 3) := by decide +kernel
theorem dX12_stack_90 : decode cX12_stack 90 = .ok (.aload_n 0, 1) := by decide +kernel
theorem dX12_stack_91 : decode cX12_stack 91 = .ok (.getfield 52, 3) := by decide +kernel
theorem dX12_stack_94 : decode cX12_stack 94 = .ok (.bipush 8, 2) := by decide +kernel
theorem dX12_stack_96 : decode cX12_stack 96 = .ok (.if_icmp .ne 7, 3) := by decide +kernel
theorem dX12_stack_99 : decode cX12_stack 99 = .ok (.iconst 2, 1) := by decide +kernel
theorem dX12_stack_100 : decode cX12_stack 100 = .ok (.goto 4, 3) := by decide +kernel
theorem dX12_stack_103 : decode cX12_stack 103 = .ok (.iconst 0, 1) := by decide +kernel
theorem dX12_stack_104 : decode cX12_stack 104 = .ok (.invokevirtual 63, 3) := by decide +kernel
theorem dX12_stack_107 : decode cX12_stack 107 = .ok (.ifCond .ne 5, 3) := by decide +kernel
theorem dX12_stack_110 : decode cX12_stack 110 = .ok (.iconst 0, 1) := by decide +kernel
theorem dX12_stack_111 : decode cX12_stack 111 = .ok (.ireturn, 1) := by decide +kernel
theorem dX12_stack_112 : decode cX12_stack 112 = .ok (.aload_n 0, 1) := by decide +kernel
theorem dX12_stack_113 : decode cX12_stack 113 = .ok (.invokevirtual 66, 3) := by decide +kernel
theorem dX12_stack_116 : decode cX12_stack 116 = .ok (.iconst 0, 1) := by decide +kernel
theorem dX12_stack_117 : decode cX12_stack 117 = .ok (.istore 5, 2) := by decide +kernel
theorem dX12_stack_119 : decode cX12_stack 119 = .ok (.iload 5, 2) := by decide +kernel
theorem dX12_stack_121 : decode cX12_stack 121 = .ok (.aload_n 0, 1) := by decide +kernel
theorem dX12_stack_122 : decode cX12_stack 122 = .ok (.iload_n 1, 1) := by decide +kernel
theorem dX12_stack_123 : decode cX12_stack 123 = .ok (.invokevirtual 100, 3) := by decide +kernel
theorem dX12_stack_126 : decode cX12_stack 126 = .ok (.if_icmp .ge 50, 3) := by decide +kernel
theorem dX12_stack_129 : decode cX12_stack 129 = .ok (.aload_n 0, 1) := by decide +kernel
theorem dX12_stack_130 : decode cX12_stack 130 = .ok (.getfield 16, 3) := by decide +kernel
theorem dX12_stack_133 : decode cX12_stack 133 = .ok (.iload 5, 2) := by decide +kernel
theorem dX12_stack_135 : decode cX12_stack 135 = .ok (.aload_n 0, 1) := by decide +kernel
theorem dX12_stack_136 : decode cX12_stack 136 = .ok (.getfield 7, 3) := by decide +kernel
theorem dX12_stack_139 : decode cX12_stack 139 = .ok (.iload_n 1, 1) := by decide +kernel
theorem dX12_stack_140 : decode cX12_stack 140 = .ok (.iaload, 1) := by decide +kernel
theorem dX12_stack_141 : decode cX12_stack 141 = .ok (.aload_n 0, 1) := by decide +kernel
theorem dX12_stack_142 : decode cX12_stack 142 = .ok (.getfield 13, 3) := by decide +kernel
theorem dX12_stack_145 : decode cX12_stack 145 = .ok (.bipush 81, 2) := by decide +kernel
theorem dX12_stack_147 : decode cX12_stack 147 = .ok (.iload_n 1, 1) := by decide +kernel
theorem dX12_stack_148 : decode cX12_stack 148 = .ok (.imul, 1) := by decide +kernel
theorem dX12_stack_149 : decode cX12_stack 149 = .ok (.iload 5, 2) := by decide +kernel
theorem dX12_stack_151 : decode cX12_stack 151 = .ok (.iadd, 1) := by decide +kernel
theorem dX12_stack_152 : decode cX12_stack 152 = .ok (.iaload, 1) := by decide +kernel
theorem dX12_stack_153 : decode cX12_stack 153 = .ok (.iconst 1, 1) := by decide +kernel
theorem dX12_stack_154 : decode cX12_stack 154 = .ok (.isub, 1) := by decide +kernel
theorem dX12_stack_155 : decode cX12_stack 155 = .ok (.imul, 1) := by decide +kernel
theorem dX12_stack_156 : decode cX12_stack 156 = .ok (.aload_n 0, 1) := by decide +kernel
theorem dX12_stack_157 : decode cX12_stack 157 = .ok (.getfield 13, 3) := by decide +kernel
theorem dX12_stack_160 : decode cX12_stack 160 = .ok (.bipush 81, 2) := by decide +kernel
theorem dX12_stack_162 : decode cX12_stack 162 = .ok (.iload_n 2, 1) := by decide +kernel
theorem dX12_stack_163 : decode cX12_stack 163 = .ok (.imul, 1) := by decide +kernel
theorem dX12_stack_164 : decode cX12_stack 164 = .ok (.iload 5, 2) := by decide +kernel
theorem dX12_stack_166 : decode cX12_stack 166 = .ok (.iadd, 1) := by decide +kernel
theorem dX12_stack_167 : decode cX12_stack 167 = .ok (.iaload, 1) := by decide +kernel
theorem dX12_stack_168 : decode cX12_stack 168 = .ok (.iadd, 1) := by decide +kernel
theorem dX12_stack_169 : decode cX12_stack 169 = .ok (.iastore, 1) := by decide +kernel
theorem dX12_stack_170 : decode cX12_stack 170 = .ok (.iinc 5 1, 3) := by decide +kernel
theorem dX12_stack_173 : decode cX12_stack 173 = .ok (.goto (-54), 3) := by decide +kernel
theorem dX12_stack_176 : decode cX12_stack 176 = .ok (.aload_n 0, 1) := by decide +kernel
theorem dX12_stack_177 : decode cX12_stack 177 = .ok (.aload_n 0, 1) := by decide +kernel
theorem dX12_stack_178 : decode cX12_stack 178 = .ok (.getfield 7, 3) := by decide +kernel
theorem dX12_stack_181 : decode cX12_stack 181 = .ok (.iload_n 1, 1) := by decide +kernel
theorem dX12_stack_182 : decode cX12_stack 182 = .ok (.iaload, 1) := by decide +kernel
theorem dX12_stack_183 : decode cX12_stack 183 = .ok (.invokevirtual 69, 3) := by decide +kernel
theorem dX12_stack_186 : decode cX12_stack 186 = .ok (.ireturn, 1) := by decide +kernel
theorem dX12_greatest_0 : decode cX12_greatest 0 = .ok (.iconst 0, 1) := by decide +kernel
theorem dX12_greatest_1 : decode cX12_greatest 1 = .ok (.istore_n 2, 1) := by decide +kernel
theorem dX12_greatest_2 : decode cX12_greatest 2 = .ok (.iconst 0, 1) := by decide +kernel
theorem dX12_greatest_3 : decode cX12_greatest 3 = .ok (.istore_n 3, 1) := by decide +kernel
theorem dX12_greatest_4 : decode cX12_greatest 4 = .ok (.iload_n 3, 1) := by decide +kernel
theorem dX12_greatest_5 : decode cX12_greatest 5 = .ok (.aload_n 0, 1) := by decide +kernel
theorem dX12_greatest_6 : decode cX12_greatest 6 = .ok (.iload_n 1, 1) := by decide +kernel
theorem dX12_greatest_7 : decode cX12_greatest 7 = .ok (.invokevirtual 100, 3) := by decide +kernel
theorem dX12_greatest_10 : decode cX12_greatest 10 = .ok (.if_icmp .ge 40, 3) := by decide +kernel
theorem dX12_greatest_13 : decode cX12_greatest 13 = .ok (.aload_n 0, 1) := by decide +kernel
theorem dX12_greatest_14 : decode cX12_greatest 14 = .ok (.getfield 13, 3) := by decide +kernel
theorem dX12_greatest_17 : decode cX12_greatest 17 = .ok (.bipush 81, 2) := by decide +kernel
theorem dX12_greatest_19 : decode cX12_greatest 19 = .ok (.iload_n 1, 1) := by decide +kernel
theorem dX12_greatest_20 : decode cX12_greatest 20 = .ok (.imul, 1) := by decide +kernel
theorem dX12_greatest_21 : decode cX12_greatest 21 = .ok (.iload_n 3, 1) := by decide +kernel
theorem dX12_greatest_22 : decode cX12_greatest 22 = .ok (.iadd, 1) := by decide +kernel
theorem dX12_greatest_23 : decode cX12_greatest 23 = .ok (.iaload, 1) := by decide +kernel
theorem dX12_greatest_24 : decode cX12_greatest 24 = .ok (.iload_n 2, 1) := by decide +kernel
theorem dX12_greatest_25 : decode cX12_greatest 25 = .ok (.if_icmp .le 17, 3) := by decide +kernel
theorem dX12_greatest_28 : decode cX12_greatest 28 = .ok (.aload_n 0, 1) := by decide +kernel
theorem dX12_greatest_29 : decode cX12_greatest 29 = .ok (.getfield 13, 3) := by decide +kernel
theorem dX12_greatest_32 : decode cX12_greatest 32 = .ok (.bipush 81, 2) := by decide +kernel
theorem dX12_greatest_34 : decode cX12_greatest 34 = .ok (.iload_n 1, 1) := by decide +kernel
theorem dX12_greatest_35 : decode cX12_greatest 35 = .ok (.imul, 1) := by decide +kernel
theorem dX12_greatest_36 : decode cX12_greatest 36 = .ok (.iload_n 3, 1) := by decide +kernel
theorem dX12_greatest_37 : decode cX12_greatest 37 = .ok (.iadd, 1) := by decide +kernel
theorem dX12_greatest_38 : decode cX12_greatest 38 = .ok (.iaload, 1) := by decide +kernel
theorem dX12_greatest_39 : decode cX12_greatest 39 = .ok (.goto 4, 3) := by decide +kernel
theorem dX12_greatest_42 : decode cX12_greatest 42 = .ok (.iload_n 2, 1) := by decide +kernel
theorem dX12_greatest_43 : decode cX12_greatest 43 = .ok (.istore_n 2, 1) := by decide +kernel
theorem dX12_greatest_44 : decode cX12_greatest 44 = .ok (.iinc 3 1, 3) := by decide +kernel
theorem dX12_greatest_47 : decode cX12_greatest 47 = .ok (.goto (-43), 3) := by decide +kernel
theorem dX12_greatest_50 : decode cX12_greatest 50 = .ok (.iload_n 2, 1) := by decide +kernel
theorem dX12_greatest_51 : decode cX12_greatest 51 = .ok (.ireturn, 1) := by decide +kernel
theorem dX12_product_0 : decode cX12_product 0 = .ok (.aload_n 0, 1) := by decide +kernel
theorem dX12_product_1 : decode cX12_product 1 = .ok (.iload_n 1, 1) := by decide +kernel
theorem dX12_product_2 : decode cX12_product 2 = .ok (.invokevirtual 59, 3) := by decide +kernel
theorem dX12_product_5 : decode cX12_product 5 = .ok (.ifCond .eq 15, 3) := by decide +kernel
theorem dX12_product_8 : decode cX12_product 8 = .ok (.aload_n 0, 1) := by decide +kernel
theorem dX12_product_9 : decode cX12_product 9 = .ok (.iload_n 2, 1) := by decide +kernel
theorem dX12_product_10 : decode cX12_product 10 = .ok (.invokevirtual 59, 3) := by decide +kernel
theorem dX12_product_13 : decode cX12_product 13 = .ok (.ifCond .eq 7, 3) := by decide +kernel
theorem dX12_product_16 : decode cX12_product 16 = .ok (.iconst 1, 1) := by decide +kernel
theorem dX12_product_17 : decode cX12_product 17 = .ok (.goto 4, 3) := by decide +kernel
theorem dX12_product_20 : decode cX12_product 20 = .ok (.iconst 0, 1) := by decide +kernel
theorem dX12_product_21 : decode cX12_product 21 = .ok (.istore_n 3, 1) := by decide +kernel
theorem dX12_product_22 : decode cX12_product 22 = .ok (.iload_n 3, 1) := by decide +kernel
theorem dX12_product_23 : decode cX12_product 23 = .ok (.ifCond .eq 47, 3) := by decide +kernel
theorem dX12_product_26 : decode cX12_product 26 = .ok (.aload_n 0, 1) := by decide +kernel
theorem dX12_product_27 : decode cX12_product 27 = .ok (.getfield 7, 3) := by decide +kernel
theorem dX12_product_30 : decode cX12_product 30 = .ok (.iload_n 1, 1) := by decide +kernel
theorem dX12_product_31 : decode cX12_product 31 = .ok (.iaload, 1) := by decide +kernel
theorem dX12_product_32 : decode cX12_product 32 = .ok (.aload_n 0, 1) := by decide +kernel
theorem dX12_product_33 : decode cX12_product 33 = .ok (.getfield 7, 3) := by decide +kernel
theorem dX12_product_36 : decode cX12_product 36 = .ok (.iload_n 2, 1) := by decide +kernel
theorem dX12_product_37 : decode cX12_product 37 = .ok (.iaload, 1) := by decide +kernel
theorem dX12_product_38 : decode cX12_product 38 = .ok (.imul, 1) := by decide +kernel
theorem dX12_product_39 : decode cX12_product 39 = .ok (.bipush 9, 2) := by decide +kernel
theorem dX12_product_41 : decode cX12_product 41 = .ok (.if_icmp .gt 29, 3) := by decide +kernel
theorem dX12_product_44 : decode cX12_product 44 = .ok (.aload_n 0, 1) := by decide +kernel
theorem dX12_product_45 : decode cX12_product 45 = .ok (.iload_n 1, 1) := by decide +kernel
theorem dX12_product_46 : decode cX12_product 46 = .ok (.sipush 999, 3) := by decide +kernel
theorem dX12_product_49 : decode cX12_product 49 = .ok (.invokevirtual 199, 3) := by decide +kernel
theorem dX12_product_52 : decode cX12_product 52 = .ok (.ifCond .eq 18, 3) := by decide +kernel
theorem dX12_product_55 : decode cX12_product 55 = .ok (.aload_n 0, 1) := by decide +kernel
theorem dX12_product_56 : decode cX12_product 56 = .ok (.iload_n 2, 1) := by decide +kernel
theorem dX12_product_57 : decode cX12_product 57 = .ok (.sipush 999, 3) := by decide +kernel
theorem dX12_product_60 : decode cX12_product 60 = .ok (.invokevirtual 199, 3) := by decide +kernel
theorem dX12_product_63 : decode cX12_product 63 = .ok (.ifCond .eq 7, 3) := by decide +kernel
theorem dX12_product_66 : decode cX12_product 66 = .ok (.iconst 1, 1) := by decide +kernel
theorem dX12_product_67 : decode cX12_product 67 = .ok (.goto 4, 3) := by decide +kernel
theorem dX12_product_70 : decode cX12_product 70 = .ok (.iconst 0, 1) := by decide +kernel
theorem dX12_product_71 : decode cX12_product 71 = .ok (.istore 4, 2) := by decide +kernel
theorem dX12_product_73 : decode cX12_product 73 = .ok (.iload 4, 2) := by decide +kernel
theorem dX12_product_75 : decode cX12_product 75 = .ok (.ifCond .eq 32, 3) := by decide +kernel
theorem dX12_product_78 : decode cX12_product 78 = .ok (.aload_n 0, 1) := by decide +kernel
theorem dX12_product_79 : decode cX12_product 79 = .ok (.iload_n 2, 1) := by decide +kernel
theorem dX12_product_80 : decode cX12_product 80 = .ok (.invokevirtual 100, 3) := by decide +kernel
theorem dX12_product_83 : decode cX12_product 83 = .ok (.aload_n 0, 1) := by decide +kernel
theorem dX12_product_84 : decode cX12_product 84 = .ok (.iload_n 1, 1) := by decide +kernel
theorem dX12_product_85 : decode cX12_product 85 = .ok (.invokevirtual 202, 3) := by decide +kernel
theorem dX12_product_88 : decode cX12_product 88 = .ok (.iconst 1, 1) := by decide +kernel
theorem dX12_product_89 : decode cX12_product 89 = .ok (.isub, 1) := by decide +kernel
theorem dX12_product_90 : decode cX12_product 90 = .ok (.imul, 1) := by decide +kernel
theorem dX12_product_91 : decode cX12_product 91 = .ok (.aload_n 0, 1) := by decide +kernel
theorem dX12_product_92 : decode cX12_product 92 = .ok (.iload_n 2, 1) := by decide +kernel
theorem dX12_product_93 : decode cX12_product 93 = .ok (.invokevirtual 202, 3) := by decide +kernel
theorem dX12_product_96 : decode cX12_product 96 = .ok (.iadd, 1) := by decide +kernel
theorem dX12_product_97 : decode cX12_product 97 = .ok (.sipush 999, 3) := by decide +kernel
theorem dX12_product_100 : decode cX12_product 100 = .ok (.if_icmp .gt 7, 3) := by decide +kernel
theorem dX12_product_103 : decode cX12_product 103 = .ok (.iconst 1, 1) := by decide +kernel
theorem dX12_product_104 : decode cX12_product 104 = .ok (.goto 4, 3) := by decide +kernel
theorem dX12_product_107 : decode cX12_product 107 = .ok (.iconst 0, 1) := by decide +kernel
theorem dX12_product_108 : decode cX12_product 108 = .ok (.istore 4, 2) := by decide +kernel
theorem dX12_product_110 : decode cX12_product 110 = .ok (.aload_n 0, 1) := by decide +kernel
theorem dX12_product_111 : decode cX12_product 111 = .ok (.iload_n 3, 1) := by decide +kernel
theorem dX12_product_112 : decode cX12_product 112 = .ok (.ifCond .ne 7, 3) := by decide +kernel
theorem dX12_product_115 : decode cX12_product 115 = .ok (.iconst 1, 1) := by decide +kernel
theorem dX12_product_116 : decode cX12_product 116 = .ok (.goto 22, 3) := by decide +kernel
theorem dX12_product_119 : decode cX12_product 119 = .ok (.iload 4, 2) := by decide +kernel
theorem dX12_product_121 : decode cX12_product 121 = .ok (.ifCond .eq 12, 3) := by decide +kernel
theorem dX12_product_124 : decode cX12_product 124 = .ok (.aload_n 0, 1) := by decide +kernel
theorem dX12_product_125 : decode cX12_product 125 = .ok (.getfield 52, 3) := by decide +kernel
theorem dX12_product_128 : decode cX12_product 128 = .ok (.bipush 8, 2) := by decide +kernel
theorem dX12_product_130 : decode cX12_product 130 = .ok (.if_icmp .ne 7, 3) := by decide +kernel
theorem dX12_product_133 : decode cX12_product 133 = .ok (.iconst 2, 1) := by decide +kernel
theorem dX12_product_134 : decode cX12_product 134 = .ok (.goto 4, 3) := by decide +kernel
theorem dX12_product_137 : decode cX12_product 137 = .ok (.iconst 0, 1) := by decide +kernel
theorem dX12_product_138 : decode cX12_product 138 = .ok (.invokevirtual 63, 3) := by decide +kernel
theorem dX12_product_141 : decode cX12_product 141 = .ok (.ifCond .ne 5, 3) := by decide +kernel
theorem dX12_product_144 : decode cX12_product 144 = .ok (.iconst 0, 1) := by decide +kernel
theorem dX12_product_145 : decode cX12_product 145 = .ok (.ireturn, 1) := by decide +kernel
theorem dX12_product_146 : decode cX12_product 146 = .ok (.aload_n 0, 1) := by decide +kernel
theorem dX12_product_147 : decode cX12_product 147 = .ok (.getfield 7, 3) := by decide +kernel
theorem dX12_product_150 : decode cX12_product 150 = .ok (.iload_n 2, 1) := by decide +kernel
theorem dX12_product_151 : decode cX12_product 151 = .ok (.iaload, 1) := by decide +kernel
theorem dX12_product_152 : decode cX12_product 152 = .ok (.istore 5, 2) := by decide +kernel
theorem dX12_product_154 : decode cX12_product 154 = .ok (.aload_n 0, 1) := by decide +kernel
theorem dX12_product_155 : decode cX12_product 155 = .ok (.getfield 7, 3) := by decide +kernel
theorem dX12_product_158 : decode cX12_product 158 = .ok (.iload_n 1, 1) := by decide +kernel
theorem dX12_product_159 : decode cX12_product 159 = .ok (.iaload, 1) := by decide +kernel
theorem dX12_product_160 : decode cX12_product 160 = .ok (.iload 5, 2) := by decide +kernel
theorem dX12_product_162 : decode cX12_product 162 = .ok (.imul, 1) := by decide +kernel
theorem dX12_product_163 : decode cX12_product 163 = .ok (.istore 6, 2) := by decide +kernel
theorem dX12_product_165 : decode cX12_product 165 = .ok (.aload_n 0, 1) := by decide +kernel
theorem dX12_product_166 : decode cX12_product 166 = .ok (.invokevirtual 66, 3) := by decide +kernel
theorem dX12_product_169 : decode cX12_product 169 = .ok (.iconst 0, 1) := by decide +kernel
theorem dX12_product_170 : decode cX12_product 170 = .ok (.istore 7, 2) := by decide +kernel
theorem dX12_product_172 : decode cX12_product 172 = .ok (.iload 7, 2) := by decide +kernel
theorem dX12_product_174 : decode cX12_product 174 = .ok (.iload 6, 2) := by decide +kernel
theorem dX12_product_176 : decode cX12_product 176 = .ok (.iload 6, 2) := by decide +kernel
theorem dX12_product_178 : decode cX12_product 178 = .ok (.imul, 1) := by decide +kernel
theorem dX12_product_179 : decode cX12_product 179 = .ok (.if_icmp .ge 69, 3) := by decide +kernel
theorem dX12_product_182 : decode cX12_product 182 = .ok (.iload 7, 2) := by decide +kernel
theorem dX12_product_184 : decode cX12_product 184 = .ok (.iload 6, 2) := by decide +kernel
theorem dX12_product_186 : decode cX12_product 186 = .ok (.idiv, 1) := by decide +kernel
theorem dX12_product_187 : decode cX12_product 187 = .ok (.istore 8, 2) := by decide +kernel
theorem dX12_product_189 : decode cX12_product 189 = .ok (.iload 7, 2) := by decide +kernel
theorem dX12_product_191 : decode cX12_product 191 = .ok (.iload 6, 2) := by decide +kernel
theorem dX12_product_193 : decode cX12_product 193 = .ok (.irem, 1) := by decide +kernel
theorem dX12_product_194 : decode cX12_product 194 = .ok (.istore 9, 2) := by decide +kernel
theorem dX12_product_196 : decode cX12_product 196 = .ok (.aload_n 0, 1) := by decide +kernel
theorem dX12_product_197 : decode cX12_product 197 = .ok (.getfield 16, 3) := by decide +kernel
theorem dX12_product_200 : decode cX12_product 200 = .ok (.iload 7, 2) := by decide +kernel
theorem dX12_product_202 : decode cX12_product 202 = .ok (.iload 5, 2) := by decide +kernel
theorem dX12_product_204 : decode cX12_product 204 = .ok (.iload 5, 2) := by decide +kernel
theorem dX12_product_206 : decode cX12_product 206 = .ok (.imul, 1) := by decide +kernel
theorem dX12_product_207 : decode cX12_product 207 = .ok (.aload_n 0, 1) := by decide +kernel
theorem dX12_product_208 : decode cX12_product 208 = .ok (.iload_n 1, 1) := by decide +kernel
theorem dX12_product_209 : decode cX12_product 209 = .ok (.iload 8, 2) := by decide +kernel
theorem dX12_product_211 : decode cX12_product 211 = .ok (.iload 5, 2) := by decide +kernel
theorem dX12_product_213 : decode cX12_product 213 = .ok (.idiv, 1) := by decide +kernel
theorem dX12_product_214 : decode cX12_product 214 = .ok (.iload 9, 2) := by decide +kernel
theorem dX12_product_216 : decode cX12_product 216 = .ok (.iload 5, 2) := by decide +kernel
theorem dX12_product_218 : decode cX12_product 218 = .ok (.idiv, 1) := by decide +kernel
theorem dX12_product_219 : decode cX12_product 219 = .ok (.invokevirtual 76, 3) := by decide +kernel
theorem dX12_product_222 : decode cX12_product 222 = .ok (.iconst 1, 1) := by decide +kernel
theorem dX12_product_223 : decode cX12_product 223 = .ok (.isub, 1) := by decide +kernel
theorem dX12_product_224 : decode cX12_product 224 = .ok (.imul, 1) := by decide +kernel
theorem dX12_product_225 : decode cX12_product 225 = .ok (.aload_n 0, 1) := by decide +kernel
theorem dX12_product_226 : decode cX12_product 226 = .ok (.iload_n 2, 1) := by decide +kernel
theorem dX12_product_227 : decode cX12_product 227 = .ok (.iload 8, 2) := by decide +kernel
theorem dX12_product_229 : decode cX12_product 229 = .ok (.iload 5, 2) := by decide +kernel
theorem dX12_product_231 : decode cX12_product 231 = .ok (.irem, 1) := by decide +kernel
theorem dX12_product_232 : decode cX12_product 232 = .ok (.iload 9, 2) := by decide +kernel
theorem dX12_product_234 : decode cX12_product 234 = .ok (.iload 5, 2) := by decide +kernel
theorem dX12_product_236 : decode cX12_product 236 = .ok (.irem, 1) := by decide +kernel
theorem dX12_product_237 : decode cX12_product 237 = .ok (.invokevirtual 76, 3) := by decide +kernel
theorem dX12_product_240 : decode cX12_product 240 = .ok (.iadd, 1) := by decide +kernel
theorem dX12_product_241 : decode cX12_product 241 = .ok (.iastore, 1) := by decide +kernel
theorem dX12_product_242 : decode cX12_product 242 = .ok (.iinc 7 1, 3) := by decide +kernel
theorem dX12_product_245 : decode cX12_product 245 = .ok (.goto (-73), 3) := by decide +kernel
theorem dX12_product_248 : decode cX12_product 248 = .ok (.aload_n 0, 1) := by decide +kernel
theorem dX12_product_249 : decode cX12_product 249 = .ok (.iload 6, 2) := by decide +kernel
theorem dX12_product_251 : decode cX12_product 251 = .ok (.invokevirtual 69, 3) := by decide +kernel
theorem dX12_product_254 : decode cX12_product 254 = .ok (.ireturn, 1) := by decide +kernel
theorem dX12_crossings_0 : decode cX12_crossings 0 = .ok (.aload_n 0, 1) := by decide +kernel
theorem dX12_crossings_1 : decode cX12_crossings 1 = .ok (.iload_n 1, 1) := by decide +kernel
theorem dX12_crossings_2 : decode cX12_crossings 2 = .ok (.invokevirtual 59, 3) := by decide +kernel
theorem dX12_crossings_5 : decode cX12_crossings 5 = .ok (.istore_n 3, 1) := by decide +kernel
theorem dX12_crossings_6 : decode cX12_crossings 6 = .ok (.aload_n 0, 1) := by decide +kernel
theorem dX12_crossings_7 : decode cX12_crossings 7 = .ok (.iload_n 3, 1) := by decide +kernel
theorem dX12_crossings_8 : decode cX12_crossings 8 = .ok (.ifCond .ne 7, 3) := by decide +kernel
theorem dX12_crossings_11 : decode cX12_crossings 11 = .ok (.iconst 1, 1) := by decide +kernel
theorem dX12_crossings_12 : decode cX12_crossings 12 = .ok (.goto 34, 3) := by decide +kernel
theorem dX12_crossings_15 : decode cX12_crossings 15 = .ok (.iload_n 2, 1) := by decide +kernel
theorem dX12_crossings_16 : decode cX12_crossings 16 = .ok (.iconst 0, 1) := by decide +kernel
theorem dX12_crossings_17 : decode cX12_crossings 17 = .ok (.sipush 8991, 3) := by decide +kernel
theorem dX12_crossings_20 : decode cX12_crossings 20 = .ok (.invokestatic 55, 3) := by decide +kernel
theorem dX12_crossings_23 : decode cX12_crossings 23 = .ok (.ifCond .ne 7, 3) := by decide +kernel
theorem dX12_crossings_26 : decode cX12_crossings 26 = .ok (.iconst 2, 1) := by decide +kernel
theorem dX12_crossings_27 : decode cX12_crossings 27 = .ok (.goto 19, 3) := by decide +kernel
theorem dX12_crossings_30 : decode cX12_crossings 30 = .ok (.aload_n 0, 1) := by decide +kernel
theorem dX12_crossings_31 : decode cX12_crossings 31 = .ok (.getfield 7, 3) := by decide +kernel
theorem dX12_crossings_34 : decode cX12_crossings 34 = .ok (.iload_n 1, 1) := by decide +kernel
theorem dX12_crossings_35 : decode cX12_crossings 35 = .ok (.iaload, 1) := by decide +kernel
theorem dX12_crossings_36 : decode cX12_crossings 36 = .ok (.bipush 6, 2) := by decide +kernel
theorem dX12_crossings_38 : decode cX12_crossings 38 = .ok (.if_icmp .le 7, 3) := by decide +kernel
theorem dX12_crossings_41 : decode cX12_crossings 41 = .ok (.iconst 3, 1) := by decide +kernel
theorem dX12_crossings_42 : decode cX12_crossings 42 = .ok (.goto 4, 3) := by decide +kernel
theorem dX12_crossings_45 : decode cX12_crossings 45 = .ok (.iconst 0, 1) := by decide +kernel
theorem dX12_crossings_46 : decode cX12_crossings 46 = .ok (.invokevirtual 63, 3) := by decide +kernel
theorem dX12_crossings_49 : decode cX12_crossings 49 = .ok (.ifCond .ne 5, 3) := by decide +kernel
theorem dX12_crossings_52 : decode cX12_crossings 52 = .ok (.iconst 0, 1) := by decide +kernel
theorem dX12_crossings_53 : decode cX12_crossings 53 = .ok (.ireturn, 1) := by decide +kernel
theorem dX12_crossings_54 : decode cX12_crossings 54 = .ok (.aload_n 0, 1) := by decide +kernel
theorem dX12_crossings_55 : decode cX12_crossings 55 = .ok (.getfield 7, 3) := by decide +kernel
theorem dX12_crossings_58 : decode cX12_crossings 58 = .ok (.iload_n 1, 1) := by decide +kernel
theorem dX12_crossings_59 : decode cX12_crossings 59 = .ok (.iaload, 1) := by decide +kernel
theorem dX12_crossings_60 : decode cX12_crossings 60 = .ok (.istore 4, 2) := by decide +kernel
theorem dX12_crossings_62 : decode cX12_crossings 62 = .ok (.iconst 0, 1) := by decide +kernel
theorem dX12_crossings_63 : decode cX12_crossings 63 = .ok (.istore 5, 2) := by decide +kernel
theorem dX12_crossings_65 : decode cX12_crossings 65 = .ok (.iconst 0, 1) := by decide +kernel
theorem dX12_crossings_66 : decode cX12_crossings 66 = .ok (.istore 6, 2) := by decide +kernel
theorem dX12_crossings_68 : decode cX12_crossings 68 = .ok (.iconst 0, 1) := by decide +kernel
theorem dX12_crossings_69 : decode cX12_crossings 69 = .ok (.istore 7, 2) := by decide +kernel
theorem dX12_crossings_71 : decode cX12_crossings 71 = .ok (.iconst 0, 1) := by decide +kernel
theorem dX12_crossings_72 : decode cX12_crossings 72 = .ok (.istore 8, 2) := by decide +kernel
theorem dX12_crossings_74 : decode cX12_crossings 74 = .ok (.aload_n 0, 1) := by decide +kernel
theorem dX12_crossings_75 : decode cX12_crossings 75 = .ok (.getfield 31, 3) := by decide +kernel
theorem dX12_crossings_78 : decode cX12_crossings 78 = .ok (.iconst 0, 1) := by decide +kernel
theorem dX12_crossings_79 : decode cX12_crossings 79 = .ok (.iconst (-1), 1) := by decide +kernel
theorem dX12_crossings_80 : decode cX12_crossings 80 = .ok (.iastore, 1) := by decide +kernel
theorem dX12_crossings_81 : decode cX12_crossings 81 = .ok (.iload 8, 2) := by decide +kernel
theorem dX12_crossings_83 : decode cX12_crossings 83 = .ok (.ifCond .lt 168, 3) := by decide +kernel
theorem dX12_crossings_86 : decode cX12_crossings 86 = .ok (.aload_n 0, 1) := by decide +kernel
theorem dX12_crossings_87 : decode cX12_crossings 87 = .ok (.getfield 31, 3) := by decide +kernel
theorem dX12_crossings_90 : decode cX12_crossings 90 = .ok (.iload 8, 2) := by decide +kernel
theorem dX12_crossings_92 : decode cX12_crossings 92 = .ok (.iaload, 1) := by decide +kernel
theorem dX12_crossings_93 : decode cX12_crossings 93 = .ok (.ifCond .lt 36, 3) := by decide +kernel
theorem dX12_crossings_96 : decode cX12_crossings 96 = .ok (.iload 6, 2) := by decide +kernel
theorem dX12_crossings_98 : decode cX12_crossings 98 = .ok (.iconst 1, 1) := by decide +kernel
theorem dX12_crossings_99 : decode cX12_crossings 99 = .ok (.aload_n 0, 1) := by decide +kernel
theorem dX12_crossings_100 : decode cX12_crossings 100 = .ok (.getfield 31, 3) := by decide +kernel
theorem dX12_crossings_103 : decode cX12_crossings 103 = .ok (.iload 8, 2) := by decide +kernel
theorem dX12_crossings_105 : decode cX12_crossings 105 = .ok (.iaload, 1) := by decide +kernel
theorem dX12_crossings_106 : decode cX12_crossings 106 = .ok (.ishl, 1) := by decide +kernel
theorem dX12_crossings_107 : decode cX12_crossings 107 = .ok (.isub, 1) := by decide +kernel
theorem dX12_crossings_108 : decode cX12_crossings 108 = .ok (.istore 6, 2) := by decide +kernel
theorem dX12_crossings_110 : decode cX12_crossings 110 = .ok (.iload 7, 2) := by decide +kernel
theorem dX12_crossings_112 : decode cX12_crossings 112 = .ok (.aload_n 0, 1) := by decide +kernel
theorem dX12_crossings_113 : decode cX12_crossings 113 = .ok (.iload_n 1, 1) := by decide +kernel
theorem dX12_crossings_114 : decode cX12_crossings 114 = .ok (.iload 8, 2) := by decide +kernel
theorem dX12_crossings_116 : decode cX12_crossings 116 = .ok (.aload_n 0, 1) := by decide +kernel
theorem dX12_crossings_117 : decode cX12_crossings 117 = .ok (.getfield 31, 3) := by decide +kernel
theorem dX12_crossings_120 : decode cX12_crossings 120 = .ok (.iload 8, 2) := by decide +kernel
theorem dX12_crossings_122 : decode cX12_crossings 122 = .ok (.iaload, 1) := by decide +kernel
theorem dX12_crossings_123 : decode cX12_crossings 123 = .ok (.invokevirtual 76, 3) := by decide +kernel
theorem dX12_crossings_126 : decode cX12_crossings 126 = .ok (.isub, 1) := by decide +kernel
theorem dX12_crossings_127 : decode cX12_crossings 127 = .ok (.istore 7, 2) := by decide +kernel
theorem dX12_crossings_129 : decode cX12_crossings 129 = .ok (.aload_n 0, 1) := by decide +kernel
theorem dX12_crossings_130 : decode cX12_crossings 130 = .ok (.getfield 31, 3) := by decide +kernel
theorem dX12_crossings_133 : decode cX12_crossings 133 = .ok (.iload 8, 2) := by decide +kernel
theorem dX12_crossings_135 : decode cX12_crossings 135 = .ok (.iaload, 1) := by decide +kernel
theorem dX12_crossings_136 : decode cX12_crossings 136 = .ok (.iconst 1, 1) := by decide +kernel
theorem dX12_crossings_137 : decode cX12_crossings 137 = .ok (.iadd, 1) := by decide +kernel
theorem dX12_crossings_138 : decode cX12_crossings 138 = .ok (.istore 9, 2) := by decide +kernel
theorem dX12_crossings_140 : decode cX12_crossings 140 = .ok (.iload 9, 2) := by decide +kernel
theorem dX12_crossings_142 : decode cX12_crossings 142 = .ok (.iload 4, 2) := by decide +kernel
theorem dX12_crossings_144 : decode cX12_crossings 144 = .ok (.if_icmp .ge 20, 3) := by decide +kernel
theorem dX12_crossings_147 : decode cX12_crossings 147 = .ok (.iload 6, 2) := by decide +kernel
theorem dX12_crossings_149 : decode cX12_crossings 149 = .ok (.iload 9, 2) := by decide +kernel
theorem dX12_crossings_151 : decode cX12_crossings 151 = .ok (.ishr, 1) := by decide +kernel
theorem dX12_crossings_152 : decode cX12_crossings 152 = .ok (.iconst 1, 1) := by decide +kernel
theorem dX12_crossings_153 : decode cX12_crossings 153 = .ok (.iand, 1) := by decide +kernel
theorem dX12_crossings_154 : decode cX12_crossings 154 = .ok (.iconst 1, 1) := by decide +kernel
theorem dX12_crossings_155 : decode cX12_crossings 155 = .ok (.if_icmp .ne 9, 3) := by decide +kernel
theorem dX12_crossings_158 : decode cX12_crossings 158 = .ok (.iinc 9 1, 3) := by decide +kernel
theorem dX12_crossings_161 : decode cX12_crossings 161 = .ok (.goto (-21), 3) := by decide +kernel
theorem dX12_crossings_164 : decode cX12_crossings 164 = .ok (.iload 9, 2) := by decide +kernel
theorem dX12_crossings_166 : decode cX12_crossings 166 = .ok (.iload 4, 2) := by decide +kernel
theorem dX12_crossings_168 : decode cX12_crossings 168 = .ok (.if_icmp .ne 9, 3) := by decide +kernel
theorem dX12_crossings_171 : decode cX12_crossings 171 = .ok (.iinc 8 (-1), 3) := by decide +kernel
theorem dX12_crossings_174 : decode cX12_crossings 174 = .ok (.goto 74, 3) := by decide +kernel
theorem dX12_crossings_177 : decode cX12_crossings 177 = .ok (.aload_n 0, 1) := by decide +kernel
theorem dX12_crossings_178 : decode cX12_crossings 178 = .ok (.getfield 31, 3) := by decide +kernel
theorem dX12_crossings_181 : decode cX12_crossings 181 = .ok (.iload 8, 2) := by decide +kernel
theorem dX12_crossings_183 : decode cX12_crossings 183 = .ok (.iload 9, 2) := by decide +kernel
theorem dX12_crossings_185 : decode cX12_crossings 185 = .ok (.iastore, 1) := by decide +kernel
theorem dX12_crossings_186 : decode cX12_crossings 186 = .ok (.iload 6, 2) := by decide +kernel
theorem dX12_crossings_188 : decode cX12_crossings 188 = .ok (.iconst 1, 1) := by decide +kernel
theorem dX12_crossings_189 : decode cX12_crossings 189 = .ok (.iload 9, 2) := by decide +kernel
theorem dX12_crossings_191 : decode cX12_crossings 191 = .ok (.ishl, 1) := by decide +kernel
theorem dX12_crossings_192 : decode cX12_crossings 192 = .ok (.iadd, 1) := by decide +kernel
theorem dX12_crossings_193 : decode cX12_crossings 193 = .ok (.istore 6, 2) := by decide +kernel
theorem dX12_crossings_195 : decode cX12_crossings 195 = .ok (.iload 7, 2) := by decide +kernel
theorem dX12_crossings_197 : decode cX12_crossings 197 = .ok (.aload_n 0, 1) := by decide +kernel
theorem dX12_crossings_198 : decode cX12_crossings 198 = .ok (.iload_n 1, 1) := by decide +kernel
theorem dX12_crossings_199 : decode cX12_crossings 199 = .ok (.iload 8, 2) := by decide +kernel
theorem dX12_crossings_201 : decode cX12_crossings 201 = .ok (.iload 9, 2) := by decide +kernel
theorem dX12_crossings_203 : decode cX12_crossings 203 = .ok (.invokevirtual 76, 3) := by decide +kernel
theorem dX12_crossings_206 : decode cX12_crossings 206 = .ok (.iadd, 1) := by decide +kernel
theorem dX12_crossings_207 : decode cX12_crossings 207 = .ok (.istore 7, 2) := by decide +kernel
theorem dX12_crossings_209 : decode cX12_crossings 209 = .ok (.iload 8, 2) := by decide +kernel
theorem dX12_crossings_211 : decode cX12_crossings 211 = .ok (.iload 4, 2) := by decide +kernel
theorem dX12_crossings_213 : decode cX12_crossings 213 = .ok (.iconst 1, 1) := by decide +kernel
theorem dX12_crossings_214 : decode cX12_crossings 214 = .ok (.isub, 1) := by decide +kernel
theorem dX12_crossings_215 : decode cX12_crossings 215 = .ok (.if_icmp .ne 22, 3) := by decide +kernel
theorem dX12_crossings_218 : decode cX12_crossings 218 = .ok (.iload 5, 2) := by decide +kernel
theorem dX12_crossings_220 : decode cX12_crossings 220 = .ok (.iload 7, 2) := by decide +kernel
theorem dX12_crossings_222 : decode cX12_crossings 222 = .ok (.iload_n 2, 1) := by decide +kernel
theorem dX12_crossings_223 : decode cX12_crossings 223 = .ok (.if_icmp .ne 7, 3) := by decide +kernel
theorem dX12_crossings_226 : decode cX12_crossings 226 = .ok (.iconst 1, 1) := by decide +kernel
theorem dX12_crossings_227 : decode cX12_crossings 227 = .ok (.goto 4, 3) := by decide +kernel
theorem dX12_crossings_230 : decode cX12_crossings 230 = .ok (.iconst 0, 1) := by decide +kernel
theorem dX12_crossings_231 : decode cX12_crossings 231 = .ok (.iadd, 1) := by decide +kernel
theorem dX12_crossings_232 : decode cX12_crossings 232 = .ok (.istore 5, 2) := by decide +kernel
theorem dX12_crossings_234 : decode cX12_crossings 234 = .ok (.goto 14, 3) := by decide +kernel
theorem dX12_crossings_237 : decode cX12_crossings 237 = .ok (.iinc 8 1, 3) := by decide +kernel
theorem dX12_crossings_240 : decode cX12_crossings 240 = .ok (.aload_n 0, 1) := by decide +kernel
theorem dX12_crossings_241 : decode cX12_crossings 241 = .ok (.getfield 31, 3) := by decide +kernel
theorem dX12_crossings_244 : decode cX12_crossings 244 = .ok (.iload 8, 2) := by decide +kernel
theorem dX12_crossings_246 : decode cX12_crossings 246 = .ok (.iconst (-1), 1) := by decide +kernel
theorem dX12_crossings_247 : decode cX12_crossings 247 = .ok (.iastore, 1) := by decide +kernel
theorem dX12_crossings_248 : decode cX12_crossings 248 = .ok (.goto (-167), 3) := by decide +kernel
theorem dX12_crossings_251 : decode cX12_crossings 251 = .ok (.iload 5, 2) := by decide +kernel
theorem dX12_crossings_253 : decode cX12_crossings 253 = .ok (.ireturn, 1) := by decide +kernel
theorem dX12_power_0 : decode cX12_power 0 = .ok (.lconst 1, 1) := by decide +kernel
theorem dX12_power_1 : decode cX12_power 1 = .ok (.lstore 4, 2) := by decide +kernel
theorem dX12_power_3 : decode cX12_power 3 = .ok (.lload_n 0, 1) := by decide +kernel
theorem dX12_power_4 : decode cX12_power 4 = .ok (.lstore 6, 2) := by decide +kernel
theorem dX12_power_6 : decode cX12_power 6 = .ok (.lload_n 2, 1) := by decide +kernel
theorem dX12_power_7 : decode cX12_power 7 = .ok (.lstore 8, 2) := by decide +kernel
theorem dX12_power_9 : decode cX12_power 9 = .ok (.lload 8, 2) := by decide +kernel
theorem dX12_power_11 : decode cX12_power 11 = .ok (.lconst 0, 1) := by decide +kernel
theorem dX12_power_12 : decode cX12_power 12 = .ok (.lcmp, 1) := by decide +kernel
theorem dX12_power_13 : decode cX12_power 13 = .ok (.ifCond .le 52, 3) := by decide +kernel
theorem dX12_power_16 : decode cX12_power 16 = .ok (.lload 8, 2) := by decide +kernel
theorem dX12_power_18 : decode cX12_power 18 = .ok (.ldc2_w 205, 3) := by decide +kernel
theorem dX12_power_21 : decode cX12_power 21 = .ok (.lrem, 1) := by decide +kernel
theorem dX12_power_22 : decode cX12_power 22 = .ok (.lconst 1, 1) := by decide +kernel
theorem dX12_power_23 : decode cX12_power 23 = .ok (.lcmp, 1) := by decide +kernel
theorem dX12_power_24 : decode cX12_power 24 = .ok (.ifCond .ne 15, 3) := by decide +kernel
theorem dX12_power_27 : decode cX12_power 27 = .ok (.lload 4, 2) := by decide +kernel
theorem dX12_power_29 : decode cX12_power 29 = .ok (.lload 6, 2) := by decide +kernel
theorem dX12_power_31 : decode cX12_power 31 = .ok (.lmul, 1) := by decide +kernel
theorem dX12_power_32 : decode cX12_power 32 = .ok (.ldc2_w 207, 3) := by decide +kernel
theorem dX12_power_35 : decode cX12_power 35 = .ok (.lrem, 1) := by decide +kernel
theorem dX12_power_36 : decode cX12_power 36 = .ok (.goto 5, 3) := by decide +kernel
theorem dX12_power_39 : decode cX12_power 39 = .ok (.lload 4, 2) := by decide +kernel
theorem dX12_power_41 : decode cX12_power 41 = .ok (.lstore 4, 2) := by decide +kernel
theorem dX12_power_43 : decode cX12_power 43 = .ok (.lload 6, 2) := by decide +kernel
theorem dX12_power_45 : decode cX12_power 45 = .ok (.lload 6, 2) := by decide +kernel
theorem dX12_power_47 : decode cX12_power 47 = .ok (.lmul, 1) := by decide +kernel
theorem dX12_power_48 : decode cX12_power 48 = .ok (.ldc2_w 207, 3) := by decide +kernel
theorem dX12_power_51 : decode cX12_power 51 = .ok (.lrem, 1) := by decide +kernel
theorem dX12_power_52 : decode cX12_power 52 = .ok (.lstore 6, 2) := by decide +kernel
theorem dX12_power_54 : decode cX12_power 54 = .ok (.lload 8, 2) := by decide +kernel
theorem dX12_power_56 : decode cX12_power 56 = .ok (.ldc2_w 205, 3) := by decide +kernel
theorem dX12_power_59 : decode cX12_power 59 = .ok (.ldiv, 1) := by decide +kernel
theorem dX12_power_60 : decode cX12_power 60 = .ok (.lstore 8, 2) := by decide +kernel
theorem dX12_power_62 : decode cX12_power 62 = .ok (.goto (-53), 3) := by decide +kernel
theorem dX12_power_65 : decode cX12_power 65 = .ok (.lload 4, 2) := by decide +kernel
theorem dX12_power_67 : decode cX12_power 67 = .ok (.lreturn, 1) := by decide +kernel
theorem dX12_independent_0 : decode cX12_independent 0 = .ok (.iconst 0, 1) := by decide +kernel
theorem dX12_independent_1 : decode cX12_independent 1 = .ok (.istore_n 1, 1) := by decide +kernel
theorem dX12_independent_2 : decode cX12_independent 2 = .ok (.iload_n 1, 1) := by decide +kernel
theorem dX12_independent_3 : decode cX12_independent 3 = .ok (.bipush 36, 2) := by decide +kernel
theorem dX12_independent_5 : decode cX12_independent 5 = .ok (.if_icmp .ge 36, 3) := by decide +kernel
theorem dX12_independent_8 : decode cX12_independent 8 = .ok (.aload_n 0, 1) := by decide +kernel
theorem dX12_independent_9 : decode cX12_independent 9 = .ok (.getfield 34, 3) := by decide +kernel
theorem dX12_independent_12 : decode cX12_independent 12 = .ok (.iload_n 1, 1) := by decide +kernel
theorem dX12_independent_13 : decode cX12_independent 13 = .ok (.aload_n 0, 1) := by decide +kernel
theorem dX12_independent_14 : decode cX12_independent 14 = .ok (.getfield 34, 3) := by decide +kernel
theorem dX12_independent_17 : decode cX12_independent 17 = .ok (.iload_n 1, 1) := by decide +kernel
theorem dX12_independent_18 : decode cX12_independent 18 = .ok (.laload, 1) := by decide +kernel
theorem dX12_independent_19 : decode cX12_independent 19 = .ok (.aload_n 0, 1) := by decide +kernel
theorem dX12_independent_20 : decode cX12_independent 20 = .ok (.getfield 38, 3) := by decide +kernel
theorem dX12_independent_23 : decode cX12_independent 23 = .ok (.iload_n 1, 1) := by decide +kernel
theorem dX12_independent_24 : decode cX12_independent 24 = .ok (.laload, 1) := by decide +kernel
theorem dX12_independent_25 : decode cX12_independent 25 = .ok (.lsub, 1) := by decide +kernel
theorem dX12_independent_26 : decode cX12_independent 26 = .ok (.ldc2_w 207, 3) := by decide +kernel
theorem dX12_independent_29 : decode cX12_independent 29 = .ok (.ladd, 1) := by decide +kernel
theorem dX12_independent_30 : decode cX12_independent 30 = .ok (.ldc2_w 207, 3) := by decide +kernel
theorem dX12_independent_33 : decode cX12_independent 33 = .ok (.lrem, 1) := by decide +kernel
theorem dX12_independent_34 : decode cX12_independent 34 = .ok (.lastore, 1) := by decide +kernel
theorem dX12_independent_35 : decode cX12_independent 35 = .ok (.iinc 1 1, 3) := by decide +kernel
theorem dX12_independent_38 : decode cX12_independent 38 = .ok (.goto (-36), 3) := by decide +kernel
theorem dX12_independent_41 : decode cX12_independent 41 = .ok (.iconst 0, 1) := by decide +kernel
theorem dX12_independent_42 : decode cX12_independent 42 = .ok (.istore_n 1, 1) := by decide +kernel
theorem dX12_independent_43 : decode cX12_independent 43 = .ok (.iload_n 1, 1) := by decide +kernel
theorem dX12_independent_44 : decode cX12_independent 44 = .ok (.bipush 36, 2) := by decide +kernel
theorem dX12_independent_46 : decode cX12_independent 46 = .ok (.if_icmp .ge 153, 3) := by decide +kernel
theorem dX12_independent_49 : decode cX12_independent 49 = .ok (.aload_n 0, 1) := by decide +kernel
theorem dX12_independent_50 : decode cX12_independent 50 = .ok (.getfield 34, 3) := by decide +kernel
theorem dX12_independent_53 : decode cX12_independent 53 = .ok (.iload_n 1, 1) := by decide +kernel
theorem dX12_independent_54 : decode cX12_independent 54 = .ok (.laload, 1) := by decide +kernel
theorem dX12_independent_55 : decode cX12_independent 55 = .ok (.lconst 0, 1) := by decide +kernel
theorem dX12_independent_56 : decode cX12_independent 56 = .ok (.lcmp, 1) := by decide +kernel
theorem dX12_independent_57 : decode cX12_independent 57 = .ok (.ifCond .eq 136, 3) := by decide +kernel
theorem dX12_independent_60 : decode cX12_independent 60 = .ok (.aload_n 0, 1) := by decide +kernel
theorem dX12_independent_61 : decode cX12_independent 61 = .ok (.getfield 34, 3) := by decide +kernel
theorem dX12_independent_64 : decode cX12_independent 64 = .ok (.iload_n 1, 1) := by decide +kernel
theorem dX12_independent_65 : decode cX12_independent 65 = .ok (.laload, 1) := by decide +kernel
theorem dX12_independent_66 : decode cX12_independent 66 = .ok (.lstore_n 2, 1) := by decide +kernel
theorem dX12_independent_67 : decode cX12_independent 67 = .ok (.aload_n 0, 1) := by decide +kernel
theorem dX12_independent_68 : decode cX12_independent 68 = .ok (.getfield 44, 3) := by decide +kernel
theorem dX12_independent_71 : decode cX12_independent 71 = .ok (.iload_n 1, 1) := by decide +kernel
theorem dX12_independent_72 : decode cX12_independent 72 = .ok (.baload, 1) := by decide +kernel
theorem dX12_independent_73 : decode cX12_independent 73 = .ok (.ifCond .ne 63, 3) := by decide +kernel
theorem dX12_independent_76 : decode cX12_independent 76 = .ok (.lload_n 2, 1) := by decide +kernel
theorem dX12_independent_77 : decode cX12_independent 77 = .ok (.ldc2_w 209, 3) := by decide +kernel
theorem dX12_independent_80 : decode cX12_independent 80 = .ok (.invokestatic 211, 3) := by decide +kernel
theorem dX12_independent_83 : decode cX12_independent 83 = .ok (.lstore 4, 2) := by decide +kernel
theorem dX12_independent_85 : decode cX12_independent 85 = .ok (.iconst 0, 1) := by decide +kernel
theorem dX12_independent_86 : decode cX12_independent 86 = .ok (.istore 6, 2) := by decide +kernel
theorem dX12_independent_88 : decode cX12_independent 88 = .ok (.iload 6, 2) := by decide +kernel
theorem dX12_independent_90 : decode cX12_independent 90 = .ok (.bipush 36, 2) := by decide +kernel
theorem dX12_independent_92 : decode cX12_independent 92 = .ok (.if_icmp .ge 35, 3) := by decide +kernel
theorem dX12_independent_95 : decode cX12_independent 95 = .ok (.aload_n 0, 1) := by decide +kernel
theorem dX12_independent_96 : decode cX12_independent 96 = .ok (.getfield 41, 3) := by decide +kernel
theorem dX12_independent_99 : decode cX12_independent 99 = .ok (.bipush 36, 2) := by decide +kernel
theorem dX12_independent_101 : decode cX12_independent 101 = .ok (.iload_n 1, 1) := by decide +kernel
theorem dX12_independent_102 : decode cX12_independent 102 = .ok (.imul, 1) := by decide +kernel
theorem dX12_independent_103 : decode cX12_independent 103 = .ok (.iload 6, 2) := by decide +kernel
theorem dX12_independent_105 : decode cX12_independent 105 = .ok (.iadd, 1) := by decide +kernel
theorem dX12_independent_106 : decode cX12_independent 106 = .ok (.aload_n 0, 1) := by decide +kernel
theorem dX12_independent_107 : decode cX12_independent 107 = .ok (.getfield 34, 3) := by decide +kernel
theorem dX12_independent_110 : decode cX12_independent 110 = .ok (.iload 6, 2) := by decide +kernel
theorem dX12_independent_112 : decode cX12_independent 112 = .ok (.laload, 1) := by decide +kernel
theorem dX12_independent_113 : decode cX12_independent 113 = .ok (.lload 4, 2) := by decide +kernel
theorem dX12_independent_115 : decode cX12_independent 115 = .ok (.lmul, 1) := by decide +kernel
theorem dX12_independent_116 : decode cX12_independent 116 = .ok (.ldc2_w 207, 3) := by decide +kernel
theorem dX12_independent_119 : decode cX12_independent 119 = .ok (.lrem, 1) := by decide +kernel
theorem dX12_independent_120 : decode cX12_independent 120 = .ok (.lastore, 1) := by decide +kernel
theorem dX12_independent_121 : decode cX12_independent 121 = .ok (.iinc 6 1, 3) := by decide +kernel
theorem dX12_independent_124 : decode cX12_independent 124 = .ok (.goto (-36), 3) := by decide +kernel
theorem dX12_independent_127 : decode cX12_independent 127 = .ok (.aload_n 0, 1) := by decide +kernel
theorem dX12_independent_128 : decode cX12_independent 128 = .ok (.getfield 44, 3) := by decide +kernel
theorem dX12_independent_131 : decode cX12_independent 131 = .ok (.iload_n 1, 1) := by decide +kernel
theorem dX12_independent_132 : decode cX12_independent 132 = .ok (.iconst 1, 1) := by decide +kernel
theorem dX12_independent_133 : decode cX12_independent 133 = .ok (.bastore, 1) := by decide +kernel
theorem dX12_independent_134 : decode cX12_independent 134 = .ok (.iconst 1, 1) := by decide +kernel
theorem dX12_independent_135 : decode cX12_independent 135 = .ok (.ireturn, 1) := by decide +kernel
theorem dX12_independent_136 : decode cX12_independent 136 = .ok (.iconst 0, 1) := by decide +kernel
theorem dX12_independent_137 : decode cX12_independent 137 = .ok (.istore 4, 2) := by decide +kernel
theorem dX12_independent_139 : decode cX12_independent 139 = .ok (.iload 4, 2) := by decide +kernel
theorem dX12_independent_141 : decode cX12_independent 141 = .ok (.bipush 36, 2) := by decide +kernel
theorem dX12_independent_143 : decode cX12_independent 143 = .ok (.if_icmp .ge 50, 3) := by decide +kernel
theorem dX12_independent_146 : decode cX12_independent 146 = .ok (.aload_n 0, 1) := by decide +kernel
theorem dX12_independent_147 : decode cX12_independent 147 = .ok (.getfield 34, 3) := by decide +kernel
theorem dX12_independent_150 : decode cX12_independent 150 = .ok (.iload 4, 2) := by decide +kernel
theorem dX12_independent_152 : decode cX12_independent 152 = .ok (.aload_n 0, 1) := by decide +kernel
theorem dX12_independent_153 : decode cX12_independent 153 = .ok (.getfield 34, 3) := by decide +kernel
theorem dX12_independent_156 : decode cX12_independent 156 = .ok (.iload 4, 2) := by decide +kernel
theorem dX12_independent_158 : decode cX12_independent 158 = .ok (.laload, 1) := by decide +kernel
theorem dX12_independent_159 : decode cX12_independent 159 = .ok (.ldc2_w 207, 3) := by decide +kernel
theorem dX12_independent_162 : decode cX12_independent 162 = .ok (.ladd, 1) := by decide +kernel
theorem dX12_independent_163 : decode cX12_independent 163 = .ok (.lload_n 2, 1) := by decide +kernel
theorem dX12_independent_164 : decode cX12_independent 164 = .ok (.aload_n 0, 1) := by decide +kernel
theorem dX12_independent_165 : decode cX12_independent 165 = .ok (.getfield 41, 3) := by decide +kernel
theorem dX12_independent_168 : decode cX12_independent 168 = .ok (.bipush 36, 2) := by decide +kernel
theorem dX12_independent_170 : decode cX12_independent 170 = .ok (.iload_n 1, 1) := by decide +kernel
theorem dX12_independent_171 : decode cX12_independent 171 = .ok (.imul, 1) := by decide +kernel
theorem dX12_independent_172 : decode cX12_independent 172 = .ok (.iload 4, 2) := by decide +kernel
theorem dX12_independent_174 : decode cX12_independent 174 = .ok (.iadd, 1) := by decide +kernel
theorem dX12_independent_175 : decode cX12_independent 175 = .ok (.laload, 1) := by decide +kernel
theorem dX12_independent_176 : decode cX12_independent 176 = .ok (.lmul, 1) := by decide +kernel
theorem dX12_independent_177 : decode cX12_independent 177 = .ok (.ldc2_w 207, 3) := by decide +kernel
theorem dX12_independent_180 : decode cX12_independent 180 = .ok (.lrem, 1) := by decide +kernel
theorem dX12_independent_181 : decode cX12_independent 181 = .ok (.lsub, 1) := by decide +kernel
theorem dX12_independent_182 : decode cX12_independent 182 = .ok (.ldc2_w 207, 3) := by decide +kernel
theorem dX12_independent_185 : decode cX12_independent 185 = .ok (.lrem, 1) := by decide +kernel
theorem dX12_independent_186 : decode cX12_independent 186 = .ok (.lastore, 1) := by decide +kernel
theorem dX12_independent_187 : decode cX12_independent 187 = .ok (.iinc 4 1, 3) := by decide +kernel
theorem dX12_independent_190 : decode cX12_independent 190 = .ok (.goto (-51), 3) := by decide +kernel
theorem dX12_independent_193 : decode cX12_independent 193 = .ok (.iinc 1 1, 3) := by decide +kernel
theorem dX12_independent_196 : decode cX12_independent 196 = .ok (.goto (-153), 3) := by decide +kernel
theorem dX12_independent_199 : decode cX12_independent 199 = .ok (.iconst 0, 1) := by decide +kernel
theorem dX12_independent_200 : decode cX12_independent 200 = .ok (.ireturn, 1) := by decide +kernel
theorem dX12_begin_0 : decode cX12_begin 0 = .ok (.iconst 0, 1) := by decide +kernel
theorem dX12_begin_1 : decode cX12_begin 1 = .ok (.istore_n 2, 1) := by decide +kernel
theorem dX12_begin_2 : decode cX12_begin 2 = .ok (.iload_n 2, 1) := by decide +kernel
theorem dX12_begin_3 : decode cX12_begin 3 = .ok (.bipush 36, 2) := by decide +kernel
theorem dX12_begin_5 : decode cX12_begin 5 = .ok (.if_icmp .ge 13, 3) := by decide +kernel
theorem dX12_begin_8 : decode cX12_begin 8 = .ok (.aload_n 1, 1) := by decide +kernel
theorem dX12_begin_9 : decode cX12_begin 9 = .ok (.iload_n 2, 1) := by decide +kernel
theorem dX12_begin_10 : decode cX12_begin 10 = .ok (.lconst 0, 1) := by decide +kernel
theorem dX12_begin_11 : decode cX12_begin 11 = .ok (.lastore, 1) := by decide +kernel
theorem dX12_begin_12 : decode cX12_begin 12 = .ok (.iinc 2 1, 3) := by decide +kernel
theorem dX12_begin_15 : decode cX12_begin 15 = .ok (.goto (-13), 3) := by decide +kernel
theorem dX12_begin_18 : decode cX12_begin 18 = .ok (.return_, 1) := by decide +kernel
theorem dX12_layLine_0 : decode cX12_layLine 0 = .ok (.aload_n 0, 1) := by decide +kernel
theorem dX12_layLine_1 : decode cX12_layLine 1 = .ok (.aload_n 1, 1) := by decide +kernel
theorem dX12_layLine_2 : decode cX12_layLine 2 = .ok (.invokevirtual 215, 3) := by decide +kernel
theorem dX12_layLine_5 : decode cX12_layLine 5 = .ok (.iconst 0, 1) := by decide +kernel
theorem dX12_layLine_6 : decode cX12_layLine 6 = .ok (.istore 5, 2) := by decide +kernel
theorem dX12_layLine_8 : decode cX12_layLine 8 = .ok (.iload 5, 2) := by decide +kernel
theorem dX12_layLine_10 : decode cX12_layLine 10 = .ok (.iload_n 2, 1) := by decide +kernel
theorem dX12_layLine_11 : decode cX12_layLine 11 = .ok (.if_icmp .ge 77, 3) := by decide +kernel
theorem dX12_layLine_14 : decode cX12_layLine 14 = .ok (.iload_n 3, 1) := by decide +kernel
theorem dX12_layLine_15 : decode cX12_layLine 15 = .ok (.ifCond .ne 8, 3) := by decide +kernel
theorem dX12_layLine_18 : decode cX12_layLine 18 = .ok (.iload 4, 2) := by decide +kernel
theorem dX12_layLine_20 : decode cX12_layLine 20 = .ok (.goto 5, 3) := by decide +kernel
theorem dX12_layLine_23 : decode cX12_layLine 23 = .ok (.iload 5, 2) := by decide +kernel
theorem dX12_layLine_25 : decode cX12_layLine 25 = .ok (.istore 6, 2) := by decide +kernel
theorem dX12_layLine_27 : decode cX12_layLine 27 = .ok (.iload_n 3, 1) := by decide +kernel
theorem dX12_layLine_28 : decode cX12_layLine 28 = .ok (.ifCond .ne 8, 3) := by decide +kernel
theorem dX12_layLine_31 : decode cX12_layLine 31 = .ok (.iload 5, 2) := by decide +kernel
theorem dX12_layLine_33 : decode cX12_layLine 33 = .ok (.goto 37, 3) := by decide +kernel
theorem dX12_layLine_36 : decode cX12_layLine 36 = .ok (.iload_n 3, 1) := by decide +kernel
theorem dX12_layLine_37 : decode cX12_layLine 37 = .ok (.iconst 1, 1) := by decide +kernel
theorem dX12_layLine_38 : decode cX12_layLine 38 = .ok (.if_icmp .ne 8, 3) := by decide +kernel
theorem dX12_layLine_41 : decode cX12_layLine 41 = .ok (.iload 4, 2) := by decide +kernel
theorem dX12_layLine_43 : decode cX12_layLine 43 = .ok (.goto 27, 3) := by decide +kernel
theorem dX12_layLine_46 : decode cX12_layLine 46 = .ok (.iload_n 3, 1) := by decide +kernel
theorem dX12_layLine_47 : decode cX12_layLine 47 = .ok (.iconst 2, 1) := by decide +kernel
theorem dX12_layLine_48 : decode cX12_layLine 48 = .ok (.if_icmp .ne 13, 3) := by decide +kernel
theorem dX12_layLine_51 : decode cX12_layLine 51 = .ok (.iload 4, 2) := by decide +kernel
theorem dX12_layLine_53 : decode cX12_layLine 53 = .ok (.iload 5, 2) := by decide +kernel
theorem dX12_layLine_55 : decode cX12_layLine 55 = .ok (.iadd, 1) := by decide +kernel
theorem dX12_layLine_56 : decode cX12_layLine 56 = .ok (.iload_n 2, 1) := by decide +kernel
theorem dX12_layLine_57 : decode cX12_layLine 57 = .ok (.irem, 1) := by decide +kernel
theorem dX12_layLine_58 : decode cX12_layLine 58 = .ok (.goto 12, 3) := by decide +kernel
theorem dX12_layLine_61 : decode cX12_layLine 61 = .ok (.iload 4, 2) := by decide +kernel
theorem dX12_layLine_63 : decode cX12_layLine 63 = .ok (.iload 5, 2) := by decide +kernel
theorem dX12_layLine_65 : decode cX12_layLine 65 = .ok (.isub, 1) := by decide +kernel
theorem dX12_layLine_66 : decode cX12_layLine 66 = .ok (.iload_n 2, 1) := by decide +kernel
theorem dX12_layLine_67 : decode cX12_layLine 67 = .ok (.iadd, 1) := by decide +kernel
theorem dX12_layLine_68 : decode cX12_layLine 68 = .ok (.iload_n 2, 1) := by decide +kernel
theorem dX12_layLine_69 : decode cX12_layLine 69 = .ok (.irem, 1) := by decide +kernel
theorem dX12_layLine_70 : decode cX12_layLine 70 = .ok (.istore 7, 2) := by decide +kernel
theorem dX12_layLine_72 : decode cX12_layLine 72 = .ok (.aload_n 1, 1) := by decide +kernel
theorem dX12_layLine_73 : decode cX12_layLine 73 = .ok (.iload_n 2, 1) := by decide +kernel
theorem dX12_layLine_74 : decode cX12_layLine 74 = .ok (.iload 6, 2) := by decide +kernel
theorem dX12_layLine_76 : decode cX12_layLine 76 = .ok (.imul, 1) := by decide +kernel
theorem dX12_layLine_77 : decode cX12_layLine 77 = .ok (.iload 7, 2) := by decide +kernel
theorem dX12_layLine_79 : decode cX12_layLine 79 = .ok (.iadd, 1) := by decide +kernel
theorem dX12_layLine_80 : decode cX12_layLine 80 = .ok (.lconst 1, 1) := by decide +kernel
theorem dX12_layLine_81 : decode cX12_layLine 81 = .ok (.lastore, 1) := by decide +kernel
theorem dX12_layLine_82 : decode cX12_layLine 82 = .ok (.iinc 5 1, 3) := by decide +kernel
theorem dX12_layLine_85 : decode cX12_layLine 85 = .ok (.goto (-77), 3) := by decide +kernel
theorem dX12_layLine_88 : decode cX12_layLine 88 = .ok (.return_, 1) := by decide +kernel
theorem dX12_isOfLaws_0 : decode cX12_isOfLaws 0 = .ok (.iload_n 2, 1) := by decide +kernel
theorem dX12_isOfLaws_1 : decode cX12_isOfLaws 1 = .ok (.iconst 2, 1) := by decide +kernel
theorem dX12_isOfLaws_2 : decode cX12_isOfLaws 2 = .ok (.if_icmp .ge 23, 3) := by decide +kernel
theorem dX12_isOfLaws_5 : decode cX12_isOfLaws 5 = .ok (.iload_n 1, 1) := by decide +kernel
theorem dX12_isOfLaws_6 : decode cX12_isOfLaws 6 = .ok (.iload_n 2, 1) := by decide +kernel
theorem dX12_isOfLaws_7 : decode cX12_isOfLaws 7 = .ok (.ifCond .ne 7, 3) := by decide +kernel
theorem dX12_isOfLaws_10 : decode cX12_isOfLaws 10 = .ok (.iconst 2, 1) := by decide +kernel
theorem dX12_isOfLaws_11 : decode cX12_isOfLaws 11 = .ok (.goto 4, 3) := by decide +kernel
theorem dX12_isOfLaws_14 : decode cX12_isOfLaws 14 = .ok (.iconst 4, 1) := by decide +kernel
theorem dX12_isOfLaws_15 : decode cX12_isOfLaws 15 = .ok (.iand, 1) := by decide +kernel
theorem dX12_isOfLaws_16 : decode cX12_isOfLaws 16 = .ok (.ifCond .eq 7, 3) := by decide +kernel
theorem dX12_isOfLaws_19 : decode cX12_isOfLaws 19 = .ok (.iconst 1, 1) := by decide +kernel
theorem dX12_isOfLaws_20 : decode cX12_isOfLaws 20 = .ok (.goto 4, 3) := by decide +kernel
theorem dX12_isOfLaws_23 : decode cX12_isOfLaws 23 = .ok (.iconst 0, 1) := by decide +kernel
theorem dX12_isOfLaws_24 : decode cX12_isOfLaws 24 = .ok (.ireturn, 1) := by decide +kernel
theorem dX12_isOfLaws_25 : decode cX12_isOfLaws 25 = .ok (.iload_n 3, 1) := by decide +kernel
theorem dX12_isOfLaws_26 : decode cX12_isOfLaws 26 = .ok (.iload_n 2, 1) := by decide +kernel
theorem dX12_isOfLaws_27 : decode cX12_isOfLaws 27 = .ok (.iconst 2, 1) := by decide +kernel
theorem dX12_isOfLaws_28 : decode cX12_isOfLaws 28 = .ok (.if_icmp .ne 7, 3) := by decide +kernel
theorem dX12_isOfLaws_31 : decode cX12_isOfLaws 31 = .ok (.iconst 0, 1) := by decide +kernel
theorem dX12_isOfLaws_32 : decode cX12_isOfLaws 32 = .ok (.goto 6, 3) := by decide +kernel
theorem dX12_isOfLaws_35 : decode cX12_isOfLaws 35 = .ok (.iload_n 0, 1) := by decide +kernel
theorem dX12_isOfLaws_36 : decode cX12_isOfLaws 36 = .ok (.iconst 1, 1) := by decide +kernel
theorem dX12_isOfLaws_37 : decode cX12_isOfLaws 37 = .ok (.isub, 1) := by decide +kernel
theorem dX12_isOfLaws_38 : decode cX12_isOfLaws 38 = .ok (.if_icmp .ne 7, 3) := by decide +kernel
theorem dX12_isOfLaws_41 : decode cX12_isOfLaws 41 = .ok (.iconst 1, 1) := by decide +kernel
theorem dX12_isOfLaws_42 : decode cX12_isOfLaws 42 = .ok (.goto 4, 3) := by decide +kernel
theorem dX12_isOfLaws_45 : decode cX12_isOfLaws 45 = .ok (.iconst 0, 1) := by decide +kernel
theorem dX12_isOfLaws_46 : decode cX12_isOfLaws 46 = .ok (.istore 4, 2) := by decide +kernel
theorem dX12_isOfLaws_48 : decode cX12_isOfLaws 48 = .ok (.iload_n 1, 1) := by decide +kernel
theorem dX12_isOfLaws_49 : decode cX12_isOfLaws 49 = .ok (.bipush 16, 2) := by decide +kernel
theorem dX12_isOfLaws_51 : decode cX12_isOfLaws 51 = .ok (.iand, 1) := by decide +kernel
theorem dX12_isOfLaws_52 : decode cX12_isOfLaws 52 = .ok (.ifCond .ne 15, 3) := by decide +kernel
theorem dX12_isOfLaws_55 : decode cX12_isOfLaws 55 = .ok (.iload_n 1, 1) := by decide +kernel
theorem dX12_isOfLaws_56 : decode cX12_isOfLaws 56 = .ok (.bipush 8, 2) := by decide +kernel
theorem dX12_isOfLaws_58 : decode cX12_isOfLaws 58 = .ok (.iand, 1) := by decide +kernel
theorem dX12_isOfLaws_59 : decode cX12_isOfLaws 59 = .ok (.ifCond .eq 12, 3) := by decide +kernel
theorem dX12_isOfLaws_62 : decode cX12_isOfLaws 62 = .ok (.iload 4, 2) := by decide +kernel
theorem dX12_isOfLaws_64 : decode cX12_isOfLaws 64 = .ok (.ifCond .eq 7, 3) := by decide +kernel
theorem dX12_isOfLaws_67 : decode cX12_isOfLaws 67 = .ok (.iconst 1, 1) := by decide +kernel
theorem dX12_isOfLaws_68 : decode cX12_isOfLaws 68 = .ok (.goto 4, 3) := by decide +kernel
theorem dX12_isOfLaws_71 : decode cX12_isOfLaws 71 = .ok (.iconst 0, 1) := by decide +kernel
theorem dX12_isOfLaws_72 : decode cX12_isOfLaws 72 = .ok (.ireturn, 1) := by decide +kernel
theorem dX12_dimension_0 : decode cX12_dimension 0 = .ok (.bipush 62, 2) := by decide +kernel
theorem dX12_dimension_2 : decode cX12_dimension 2 = .ok (.istore_n 3, 1) := by decide +kernel
theorem dX12_dimension_3 : decode cX12_dimension 3 = .ok (.aload_n 0, 1) := by decide +kernel
theorem dX12_dimension_4 : decode cX12_dimension 4 = .ok (.iload_n 1, 1) := by decide +kernel
theorem dX12_dimension_5 : decode cX12_dimension 5 = .ok (.iconst 1, 1) := by decide +kernel
theorem dX12_dimension_6 : decode cX12_dimension 6 = .ok (.bipush 6, 2) := by decide +kernel
theorem dX12_dimension_8 : decode cX12_dimension 8 = .ok (.invokestatic 55, 3) := by decide +kernel
theorem dX12_dimension_11 : decode cX12_dimension 11 = .ok (.ifCond .eq 15, 3) := by decide +kernel
theorem dX12_dimension_14 : decode cX12_dimension 14 = .ok (.iload_n 2, 1) := by decide +kernel
theorem dX12_dimension_15 : decode cX12_dimension 15 = .ok (.iload_n 3, 1) := by decide +kernel
theorem dX12_dimension_16 : decode cX12_dimension 16 = .ok (.iconst (-1), 1) := by decide +kernel
theorem dX12_dimension_17 : decode cX12_dimension 17 = .ok (.ixor, 1) := by decide +kernel
theorem dX12_dimension_18 : decode cX12_dimension 18 = .ok (.iand, 1) := by decide +kernel
theorem dX12_dimension_19 : decode cX12_dimension 19 = .ok (.ifCond .ne 7, 3) := by decide +kernel
theorem dX12_dimension_22 : decode cX12_dimension 22 = .ok (.iconst 0, 1) := by decide +kernel
theorem dX12_dimension_23 : decode cX12_dimension 23 = .ok (.goto 4, 3) := by decide +kernel
theorem dX12_dimension_26 : decode cX12_dimension 26 = .ok (.iconst 1, 1) := by decide +kernel
theorem dX12_dimension_27 : decode cX12_dimension 27 = .ok (.invokevirtual 63, 3) := by decide +kernel
theorem dX12_dimension_30 : decode cX12_dimension 30 = .ok (.ifCond .ne 5, 3) := by decide +kernel
theorem dX12_dimension_33 : decode cX12_dimension 33 = .ok (.iconst 0, 1) := by decide +kernel
theorem dX12_dimension_34 : decode cX12_dimension 34 = .ok (.ireturn, 1) := by decide +kernel
theorem dX12_dimension_35 : decode cX12_dimension 35 = .ok (.iconst 0, 1) := by decide +kernel
theorem dX12_dimension_36 : decode cX12_dimension 36 = .ok (.istore 4, 2) := by decide +kernel
theorem dX12_dimension_38 : decode cX12_dimension 38 = .ok (.iload 4, 2) := by decide +kernel
theorem dX12_dimension_40 : decode cX12_dimension 40 = .ok (.bipush 36, 2) := by decide +kernel
theorem dX12_dimension_42 : decode cX12_dimension 42 = .ok (.if_icmp .ge 17, 3) := by decide +kernel
theorem dX12_dimension_45 : decode cX12_dimension 45 = .ok (.aload_n 0, 1) := by decide +kernel
theorem dX12_dimension_46 : decode cX12_dimension 46 = .ok (.getfield 44, 3) := by decide +kernel
theorem dX12_dimension_49 : decode cX12_dimension 49 = .ok (.iload 4, 2) := by decide +kernel
theorem dX12_dimension_51 : decode cX12_dimension 51 = .ok (.iconst 0, 1) := by decide +kernel
theorem dX12_dimension_52 : decode cX12_dimension 52 = .ok (.bastore, 1) := by decide +kernel
theorem dX12_dimension_53 : decode cX12_dimension 53 = .ok (.iinc 4 1, 3) := by decide +kernel
theorem dX12_dimension_56 : decode cX12_dimension 56 = .ok (.goto (-18), 3) := by decide +kernel
theorem dX12_dimension_59 : decode cX12_dimension 59 = .ok (.iconst 0, 1) := by decide +kernel
theorem dX12_dimension_60 : decode cX12_dimension 60 = .ok (.istore 4, 2) := by decide +kernel
theorem dX12_dimension_62 : decode cX12_dimension 62 = .ok (.iconst 1, 1) := by decide +kernel
theorem dX12_dimension_63 : decode cX12_dimension 63 = .ok (.istore 5, 2) := by decide +kernel
theorem dX12_dimension_65 : decode cX12_dimension 65 = .ok (.iconst 0, 1) := by decide +kernel
theorem dX12_dimension_66 : decode cX12_dimension 66 = .ok (.istore 6, 2) := by decide +kernel
theorem dX12_dimension_68 : decode cX12_dimension 68 = .ok (.iload 6, 2) := by decide +kernel
theorem dX12_dimension_70 : decode cX12_dimension 70 = .ok (.iconst 4, 1) := by decide +kernel
theorem dX12_dimension_71 : decode cX12_dimension 71 = .ok (.iload_n 1, 1) := by decide +kernel
theorem dX12_dimension_72 : decode cX12_dimension 72 = .ok (.imul, 1) := by decide +kernel
theorem dX12_dimension_73 : decode cX12_dimension 73 = .ok (.if_icmp .ge 79, 3) := by decide +kernel
theorem dX12_dimension_76 : decode cX12_dimension 76 = .ok (.iload_n 1, 1) := by decide +kernel
theorem dX12_dimension_77 : decode cX12_dimension 77 = .ok (.iload_n 2, 1) := by decide +kernel
theorem dX12_dimension_78 : decode cX12_dimension 78 = .ok (.iload 6, 2) := by decide +kernel
theorem dX12_dimension_80 : decode cX12_dimension 80 = .ok (.iload_n 1, 1) := by decide +kernel
theorem dX12_dimension_81 : decode cX12_dimension 81 = .ok (.idiv, 1) := by decide +kernel
theorem dX12_dimension_82 : decode cX12_dimension 82 = .ok (.iload 6, 2) := by decide +kernel
theorem dX12_dimension_84 : decode cX12_dimension 84 = .ok (.iload_n 1, 1) := by decide +kernel
theorem dX12_dimension_85 : decode cX12_dimension 85 = .ok (.irem, 1) := by decide +kernel
theorem dX12_dimension_86 : decode cX12_dimension 86 = .ok (.invokestatic 219, 3) := by decide +kernel
theorem dX12_dimension_89 : decode cX12_dimension 89 = .ok (.ifCond .eq 57, 3) := by decide +kernel
theorem dX12_dimension_92 : decode cX12_dimension 92 = .ok (.iload 5, 2) := by decide +kernel
theorem dX12_dimension_94 : decode cX12_dimension 94 = .ok (.ifCond .eq 23, 3) := by decide +kernel
theorem dX12_dimension_97 : decode cX12_dimension 97 = .ok (.aload_n 0, 1) := by decide +kernel
theorem dX12_dimension_98 : decode cX12_dimension 98 = .ok (.aload_n 0, 1) := by decide +kernel
theorem dX12_dimension_99 : decode cX12_dimension 99 = .ok (.getfield 38, 3) := by decide +kernel
theorem dX12_dimension_102 : decode cX12_dimension 102 = .ok (.iload_n 1, 1) := by decide +kernel
theorem dX12_dimension_103 : decode cX12_dimension 103 = .ok (.iload 6, 2) := by decide +kernel
theorem dX12_dimension_105 : decode cX12_dimension 105 = .ok (.iload_n 1, 1) := by decide +kernel
theorem dX12_dimension_106 : decode cX12_dimension 106 = .ok (.idiv, 1) := by decide +kernel
theorem dX12_dimension_107 : decode cX12_dimension 107 = .ok (.iload 6, 2) := by decide +kernel
theorem dX12_dimension_109 : decode cX12_dimension 109 = .ok (.iload_n 1, 1) := by decide +kernel
theorem dX12_dimension_110 : decode cX12_dimension 110 = .ok (.irem, 1) := by decide +kernel
theorem dX12_dimension_111 : decode cX12_dimension 111 = .ok (.invokevirtual 223, 3) := by decide +kernel
theorem dX12_dimension_114 : decode cX12_dimension 114 = .ok (.goto 29, 3) := by decide +kernel
theorem dX12_dimension_117 : decode cX12_dimension 117 = .ok (.aload_n 0, 1) := by decide +kernel
theorem dX12_dimension_118 : decode cX12_dimension 118 = .ok (.aload_n 0, 1) := by decide +kernel
theorem dX12_dimension_119 : decode cX12_dimension 119 = .ok (.getfield 34, 3) := by decide +kernel
theorem dX12_dimension_122 : decode cX12_dimension 122 = .ok (.iload_n 1, 1) := by decide +kernel
theorem dX12_dimension_123 : decode cX12_dimension 123 = .ok (.iload 6, 2) := by decide +kernel
theorem dX12_dimension_125 : decode cX12_dimension 125 = .ok (.iload_n 1, 1) := by decide +kernel
theorem dX12_dimension_126 : decode cX12_dimension 126 = .ok (.idiv, 1) := by decide +kernel
theorem dX12_dimension_127 : decode cX12_dimension 127 = .ok (.iload 6, 2) := by decide +kernel
theorem dX12_dimension_129 : decode cX12_dimension 129 = .ok (.iload_n 1, 1) := by decide +kernel
theorem dX12_dimension_130 : decode cX12_dimension 130 = .ok (.irem, 1) := by decide +kernel
theorem dX12_dimension_131 : decode cX12_dimension 131 = .ok (.invokevirtual 223, 3) := by decide +kernel
theorem dX12_dimension_134 : decode cX12_dimension 134 = .ok (.iload 4, 2) := by decide +kernel
theorem dX12_dimension_136 : decode cX12_dimension 136 = .ok (.aload_n 0, 1) := by decide +kernel
theorem dX12_dimension_137 : decode cX12_dimension 137 = .ok (.invokevirtual 227, 3) := by decide +kernel
theorem dX12_dimension_140 : decode cX12_dimension 140 = .ok (.iadd, 1) := by decide +kernel
theorem dX12_dimension_141 : decode cX12_dimension 141 = .ok (.istore 4, 2) := by decide +kernel
theorem dX12_dimension_143 : decode cX12_dimension 143 = .ok (.iconst 0, 1) := by decide +kernel
theorem dX12_dimension_144 : decode cX12_dimension 144 = .ok (.istore 5, 2) := by decide +kernel
theorem dX12_dimension_146 : decode cX12_dimension 146 = .ok (.iinc 6 1, 3) := by decide +kernel
theorem dX12_dimension_149 : decode cX12_dimension 149 = .ok (.goto (-81), 3) := by decide +kernel
theorem dX12_dimension_152 : decode cX12_dimension 152 = .ok (.iload_n 1, 1) := by decide +kernel
theorem dX12_dimension_153 : decode cX12_dimension 153 = .ok (.iload_n 1, 1) := by decide +kernel
theorem dX12_dimension_154 : decode cX12_dimension 154 = .ok (.imul, 1) := by decide +kernel
theorem dX12_dimension_155 : decode cX12_dimension 155 = .ok (.iconst 1, 1) := by decide +kernel
theorem dX12_dimension_156 : decode cX12_dimension 156 = .ok (.isub, 1) := by decide +kernel
theorem dX12_dimension_157 : decode cX12_dimension 157 = .ok (.istore 6, 2) := by decide +kernel
theorem dX12_dimension_159 : decode cX12_dimension 159 = .ok (.iconst 0, 1) := by decide +kernel
theorem dX12_dimension_160 : decode cX12_dimension 160 = .ok (.istore 7, 2) := by decide +kernel
theorem dX12_dimension_162 : decode cX12_dimension 162 = .ok (.iload 7, 2) := by decide +kernel
theorem dX12_dimension_164 : decode cX12_dimension 164 = .ok (.iload 6, 2) := by decide +kernel
theorem dX12_dimension_166 : decode cX12_dimension 166 = .ok (.if_icmp .gt 96, 3) := by decide +kernel
theorem dX12_dimension_169 : decode cX12_dimension 169 = .ok (.iload_n 2, 1) := by decide +kernel
theorem dX12_dimension_170 : decode cX12_dimension 170 = .ok (.bipush 32, 2) := by decide +kernel
theorem dX12_dimension_172 : decode cX12_dimension 172 = .ok (.iand, 1) := by decide +kernel
theorem dX12_dimension_173 : decode cX12_dimension 173 = .ok (.ifCond .eq 89, 3) := by decide +kernel
theorem dX12_dimension_176 : decode cX12_dimension 176 = .ok (.aload_n 0, 1) := by decide +kernel
theorem dX12_dimension_177 : decode cX12_dimension 177 = .ok (.aload_n 0, 1) := by decide +kernel
theorem dX12_dimension_178 : decode cX12_dimension 178 = .ok (.getfield 34, 3) := by decide +kernel
theorem dX12_dimension_181 : decode cX12_dimension 181 = .ok (.invokevirtual 215, 3) := by decide +kernel
theorem dX12_dimension_184 : decode cX12_dimension 184 = .ok (.aload_n 0, 1) := by decide +kernel
theorem dX12_dimension_185 : decode cX12_dimension 185 = .ok (.getfield 34, 3) := by decide +kernel
theorem dX12_dimension_188 : decode cX12_dimension 188 = .ok (.iload 7, 2) := by decide +kernel
theorem dX12_dimension_190 : decode cX12_dimension 190 = .ok (.dup2, 1) := by decide +kernel
theorem dX12_dimension_191 : decode cX12_dimension 191 = .ok (.laload, 1) := by decide +kernel
theorem dX12_dimension_192 : decode cX12_dimension 192 = .ok (.lconst 1, 1) := by decide +kernel
theorem dX12_dimension_193 : decode cX12_dimension 193 = .ok (.ladd, 1) := by decide +kernel
theorem dX12_dimension_194 : decode cX12_dimension 194 = .ok (.lastore, 1) := by decide +kernel
theorem dX12_dimension_195 : decode cX12_dimension 195 = .ok (.aload_n 0, 1) := by decide +kernel
theorem dX12_dimension_196 : decode cX12_dimension 196 = .ok (.getfield 34, 3) := by decide +kernel
theorem dX12_dimension_199 : decode cX12_dimension 199 = .ok (.iload 6, 2) := by decide +kernel
theorem dX12_dimension_201 : decode cX12_dimension 201 = .ok (.iload 7, 2) := by decide +kernel
theorem dX12_dimension_203 : decode cX12_dimension 203 = .ok (.isub, 1) := by decide +kernel
theorem dX12_dimension_204 : decode cX12_dimension 204 = .ok (.dup2, 1) := by decide +kernel
theorem dX12_dimension_205 : decode cX12_dimension 205 = .ok (.laload, 1) := by decide +kernel
theorem dX12_dimension_206 : decode cX12_dimension 206 = .ok (.lconst 1, 1) := by decide +kernel
theorem dX12_dimension_207 : decode cX12_dimension 207 = .ok (.ladd, 1) := by decide +kernel
theorem dX12_dimension_208 : decode cX12_dimension 208 = .ok (.lastore, 1) := by decide +kernel
theorem dX12_dimension_209 : decode cX12_dimension 209 = .ok (.iload 7, 2) := by decide +kernel
theorem dX12_dimension_211 : decode cX12_dimension 211 = .ok (.ifCond .ne 36, 3) := by decide +kernel
theorem dX12_dimension_214 : decode cX12_dimension 214 = .ok (.iconst 0, 1) := by decide +kernel
theorem dX12_dimension_215 : decode cX12_dimension 215 = .ok (.istore 8, 2) := by decide +kernel
theorem dX12_dimension_217 : decode cX12_dimension 217 = .ok (.iload 8, 2) := by decide +kernel
theorem dX12_dimension_219 : decode cX12_dimension 219 = .ok (.bipush 36, 2) := by decide +kernel
theorem dX12_dimension_221 : decode cX12_dimension 221 = .ok (.if_icmp .ge 23, 3) := by decide +kernel
theorem dX12_dimension_224 : decode cX12_dimension 224 = .ok (.aload_n 0, 1) := by decide +kernel
theorem dX12_dimension_225 : decode cX12_dimension 225 = .ok (.getfield 38, 3) := by decide +kernel
theorem dX12_dimension_228 : decode cX12_dimension 228 = .ok (.iload 8, 2) := by decide +kernel
theorem dX12_dimension_230 : decode cX12_dimension 230 = .ok (.aload_n 0, 1) := by decide +kernel
theorem dX12_dimension_231 : decode cX12_dimension 231 = .ok (.getfield 34, 3) := by decide +kernel
theorem dX12_dimension_234 : decode cX12_dimension 234 = .ok (.iload 8, 2) := by decide +kernel
theorem dX12_dimension_236 : decode cX12_dimension 236 = .ok (.laload, 1) := by decide +kernel
theorem dX12_dimension_237 : decode cX12_dimension 237 = .ok (.lastore, 1) := by decide +kernel
theorem dX12_dimension_238 : decode cX12_dimension 238 = .ok (.iinc 8 1, 3) := by decide +kernel
theorem dX12_dimension_241 : decode cX12_dimension 241 = .ok (.goto (-24), 3) := by decide +kernel
theorem dX12_dimension_244 : decode cX12_dimension 244 = .ok (.goto 12, 3) := by decide +kernel
theorem dX12_dimension_247 : decode cX12_dimension 247 = .ok (.iload 4, 2) := by decide +kernel
theorem dX12_dimension_249 : decode cX12_dimension 249 = .ok (.aload_n 0, 1) := by decide +kernel
theorem dX12_dimension_250 : decode cX12_dimension 250 = .ok (.invokevirtual 227, 3) := by decide +kernel
theorem dX12_dimension_253 : decode cX12_dimension 253 = .ok (.iadd, 1) := by decide +kernel
theorem dX12_dimension_254 : decode cX12_dimension 254 = .ok (.istore 4, 2) := by decide +kernel
theorem dX12_dimension_256 : decode cX12_dimension 256 = .ok (.iinc 7 1, 3) := by decide +kernel
theorem dX12_dimension_259 : decode cX12_dimension 259 = .ok (.goto (-97), 3) := by decide +kernel
theorem dX12_dimension_262 : decode cX12_dimension 262 = .ok (.iload_n 1, 1) := by decide +kernel
theorem dX12_dimension_263 : decode cX12_dimension 263 = .ok (.iload_n 1, 1) := by decide +kernel
theorem dX12_dimension_264 : decode cX12_dimension 264 = .ok (.imul, 1) := by decide +kernel
theorem dX12_dimension_265 : decode cX12_dimension 265 = .ok (.iload 4, 2) := by decide +kernel
theorem dX12_dimension_267 : decode cX12_dimension 267 = .ok (.isub, 1) := by decide +kernel
theorem dX12_dimension_268 : decode cX12_dimension 268 = .ok (.ireturn, 1) := by decide +kernel
theorem dJ6_bitCount_0f7a4_0 : decode cJ6_bitCount_0f7a4 0 = .ok (.iload_n 0, 1) := by decide +kernel
theorem dJ6_bitCount_0f7a4_1 : decode cJ6_bitCount_0f7a4 1 = .ok (.iload_n 0, 1) := by decide +kernel
theorem dJ6_bitCount_0f7a4_2 : decode cJ6_bitCount_0f7a4 2 = .ok (.iconst 1, 1) := by decide +kernel
theorem dJ6_bitCount_0f7a4_3 : decode cJ6_bitCount_0f7a4 3 = .ok (.iushr, 1) := by decide +kernel
theorem dJ6_bitCount_0f7a4_4 : decode cJ6_bitCount_0f7a4 4 = .ok (.ldc_w 265, 3) := by decide +kernel
theorem dJ6_bitCount_0f7a4_7 : decode cJ6_bitCount_0f7a4 7 = .ok (.iand, 1) := by decide +kernel
theorem dJ6_bitCount_0f7a4_8 : decode cJ6_bitCount_0f7a4 8 = .ok (.isub, 1) := by decide +kernel
theorem dJ6_bitCount_0f7a4_9 : decode cJ6_bitCount_0f7a4 9 = .ok (.istore_n 0, 1) := by decide +kernel
theorem dJ6_bitCount_0f7a4_10 : decode cJ6_bitCount_0f7a4 10 = .ok (.iload_n 0, 1) := by decide +kernel
theorem dJ6_bitCount_0f7a4_11 : decode cJ6_bitCount_0f7a4 11 = .ok (.ldc_w 266, 3) := by decide +kernel
theorem dJ6_bitCount_0f7a4_14 : decode cJ6_bitCount_0f7a4 14 = .ok (.iand, 1) := by decide +kernel
theorem dJ6_bitCount_0f7a4_15 : decode cJ6_bitCount_0f7a4 15 = .ok (.iload_n 0, 1) := by decide +kernel
theorem dJ6_bitCount_0f7a4_16 : decode cJ6_bitCount_0f7a4 16 = .ok (.iconst 2, 1) := by decide +kernel
theorem dJ6_bitCount_0f7a4_17 : decode cJ6_bitCount_0f7a4 17 = .ok (.iushr, 1) := by decide +kernel
theorem dJ6_bitCount_0f7a4_18 : decode cJ6_bitCount_0f7a4 18 = .ok (.ldc_w 266, 3) := by decide +kernel
theorem dJ6_bitCount_0f7a4_21 : decode cJ6_bitCount_0f7a4 21 = .ok (.iand, 1) := by decide +kernel
theorem dJ6_bitCount_0f7a4_22 : decode cJ6_bitCount_0f7a4 22 = .ok (.iadd, 1) := by decide +kernel
theorem dJ6_bitCount_0f7a4_23 : decode cJ6_bitCount_0f7a4 23 = .ok (.istore_n 0, 1) := by decide +kernel
theorem dJ6_bitCount_0f7a4_24 : decode cJ6_bitCount_0f7a4 24 = .ok (.iload_n 0, 1) := by decide +kernel
theorem dJ6_bitCount_0f7a4_25 : decode cJ6_bitCount_0f7a4 25 = .ok (.iload_n 0, 1) := by decide +kernel
theorem dJ6_bitCount_0f7a4_26 : decode cJ6_bitCount_0f7a4 26 = .ok (.iconst 4, 1) := by decide +kernel
theorem dJ6_bitCount_0f7a4_27 : decode cJ6_bitCount_0f7a4 27 = .ok (.iushr, 1) := by decide +kernel
theorem dJ6_bitCount_0f7a4_28 : decode cJ6_bitCount_0f7a4 28 = .ok (.iadd, 1) := by decide +kernel
theorem dJ6_bitCount_0f7a4_29 : decode cJ6_bitCount_0f7a4 29 = .ok (.ldc_w 267, 3) := by decide +kernel
theorem dJ6_bitCount_0f7a4_32 : decode cJ6_bitCount_0f7a4 32 = .ok (.iand, 1) := by decide +kernel
theorem dJ6_bitCount_0f7a4_33 : decode cJ6_bitCount_0f7a4 33 = .ok (.istore_n 0, 1) := by decide +kernel
theorem dJ6_bitCount_0f7a4_34 : decode cJ6_bitCount_0f7a4 34 = .ok (.iload_n 0, 1) := by decide +kernel
theorem dJ6_bitCount_0f7a4_35 : decode cJ6_bitCount_0f7a4 35 = .ok (.iload_n 0, 1) := by decide +kernel
theorem dJ6_bitCount_0f7a4_36 : decode cJ6_bitCount_0f7a4 36 = .ok (.bipush 8, 2) := by decide +kernel
theorem dJ6_bitCount_0f7a4_38 : decode cJ6_bitCount_0f7a4 38 = .ok (.iushr, 1) := by decide +kernel
theorem dJ6_bitCount_0f7a4_39 : decode cJ6_bitCount_0f7a4 39 = .ok (.iadd, 1) := by decide +kernel
theorem dJ6_bitCount_0f7a4_40 : decode cJ6_bitCount_0f7a4 40 = .ok (.istore_n 0, 1) := by decide +kernel
theorem dJ6_bitCount_0f7a4_41 : decode cJ6_bitCount_0f7a4 41 = .ok (.iload_n 0, 1) := by decide +kernel
theorem dJ6_bitCount_0f7a4_42 : decode cJ6_bitCount_0f7a4 42 = .ok (.iload_n 0, 1) := by decide +kernel
theorem dJ6_bitCount_0f7a4_43 : decode cJ6_bitCount_0f7a4 43 = .ok (.bipush 16, 2) := by decide +kernel
theorem dJ6_bitCount_0f7a4_45 : decode cJ6_bitCount_0f7a4 45 = .ok (.iushr, 1) := by decide +kernel
theorem dJ6_bitCount_0f7a4_46 : decode cJ6_bitCount_0f7a4 46 = .ok (.iadd, 1) := by decide +kernel
theorem dJ6_bitCount_0f7a4_47 : decode cJ6_bitCount_0f7a4 47 = .ok (.istore_n 0, 1) := by decide +kernel
theorem dJ6_bitCount_0f7a4_48 : decode cJ6_bitCount_0f7a4 48 = .ok (.iload_n 0, 1) := by decide +kernel
theorem dJ6_bitCount_0f7a4_49 : decode cJ6_bitCount_0f7a4 49 = .ok (.bipush 63, 2) := by decide +kernel
theorem dJ6_bitCount_0f7a4_51 : decode cJ6_bitCount_0f7a4 51 = .ok (.iand, 1) := by decide +kernel
theorem dJ6_bitCount_0f7a4_52 : decode cJ6_bitCount_0f7a4 52 = .ok (.ireturn, 1) := by decide +kernel
theorem dJ9_floorMod_7cf53_0 : decode cJ9_floorMod_7cf53 0 = .ok (.iload_n 0, 1) := by decide +kernel
theorem dJ9_floorMod_7cf53_1 : decode cJ9_floorMod_7cf53 1 = .ok (.iload_n 1, 1) := by decide +kernel
theorem dJ9_floorMod_7cf53_2 : decode cJ9_floorMod_7cf53 2 = .ok (.irem, 1) := by decide +kernel
theorem dJ9_floorMod_7cf53_3 : decode cJ9_floorMod_7cf53 3 = .ok (.istore_n 2, 1) := by decide +kernel
theorem dJ9_floorMod_7cf53_4 : decode cJ9_floorMod_7cf53 4 = .ok (.iload_n 0, 1) := by decide +kernel
theorem dJ9_floorMod_7cf53_5 : decode cJ9_floorMod_7cf53 5 = .ok (.iload_n 1, 1) := by decide +kernel
theorem dJ9_floorMod_7cf53_6 : decode cJ9_floorMod_7cf53 6 = .ok (.ixor, 1) := by decide +kernel
theorem dJ9_floorMod_7cf53_7 : decode cJ9_floorMod_7cf53 7 = .ok (.ifCond .ge 11, 3) := by decide +kernel
theorem dJ9_floorMod_7cf53_10 : decode cJ9_floorMod_7cf53 10 = .ok (.iload_n 2, 1) := by decide +kernel
theorem dJ9_floorMod_7cf53_11 : decode cJ9_floorMod_7cf53 11 = .ok (.ifCond .eq 7, 3) := by decide +kernel
theorem dJ9_floorMod_7cf53_14 : decode cJ9_floorMod_7cf53 14 = .ok (.iload_n 2, 1) := by decide +kernel
theorem dJ9_floorMod_7cf53_15 : decode cJ9_floorMod_7cf53 15 = .ok (.iload_n 1, 1) := by decide +kernel
theorem dJ9_floorMod_7cf53_16 : decode cJ9_floorMod_7cf53 16 = .ok (.iadd, 1) := by decide +kernel
theorem dJ9_floorMod_7cf53_17 : decode cJ9_floorMod_7cf53 17 = .ok (.ireturn, 1) := by decide +kernel
theorem dJ9_floorMod_7cf53_18 : decode cJ9_floorMod_7cf53 18 = .ok (.iload_n 2, 1) := by decide +kernel
theorem dJ9_floorMod_7cf53_19 : decode cJ9_floorMod_7cf53 19 = .ok (.ireturn, 1) := by decide +kernel
theorem dJ9_floorMod_f86c9_0 : decode cJ9_floorMod_f86c9 0 = .ok (.lload_n 0, 1) := by decide +kernel
theorem dJ9_floorMod_f86c9_1 : decode cJ9_floorMod_f86c9 1 = .ok (.lload_n 2, 1) := by decide +kernel
theorem dJ9_floorMod_f86c9_2 : decode cJ9_floorMod_f86c9 2 = .ok (.lrem, 1) := by decide +kernel
theorem dJ9_floorMod_f86c9_3 : decode cJ9_floorMod_f86c9 3 = .ok (.lstore 4, 2) := by decide +kernel
theorem dJ9_floorMod_f86c9_5 : decode cJ9_floorMod_f86c9 5 = .ok (.lload_n 0, 1) := by decide +kernel
theorem dJ9_floorMod_f86c9_6 : decode cJ9_floorMod_f86c9 6 = .ok (.lload_n 2, 1) := by decide +kernel
theorem dJ9_floorMod_f86c9_7 : decode cJ9_floorMod_f86c9 7 = .ok (.lxor, 1) := by decide +kernel
theorem dJ9_floorMod_f86c9_8 : decode cJ9_floorMod_f86c9 8 = .ok (.lconst 0, 1) := by decide +kernel
theorem dJ9_floorMod_f86c9_9 : decode cJ9_floorMod_f86c9 9 = .ok (.lcmp, 1) := by decide +kernel
theorem dJ9_floorMod_f86c9_10 : decode cJ9_floorMod_f86c9 10 = .ok (.ifCond .ge 15, 3) := by decide +kernel
theorem dJ9_floorMod_f86c9_13 : decode cJ9_floorMod_f86c9 13 = .ok (.lload 4, 2) := by decide +kernel
theorem dJ9_floorMod_f86c9_15 : decode cJ9_floorMod_f86c9 15 = .ok (.lconst 0, 1) := by decide +kernel
theorem dJ9_floorMod_f86c9_16 : decode cJ9_floorMod_f86c9 16 = .ok (.lcmp, 1) := by decide +kernel
theorem dJ9_floorMod_f86c9_17 : decode cJ9_floorMod_f86c9 17 = .ok (.ifCond .eq 8, 3) := by decide +kernel
theorem dJ9_floorMod_f86c9_20 : decode cJ9_floorMod_f86c9 20 = .ok (.lload 4, 2) := by decide +kernel
theorem dJ9_floorMod_f86c9_22 : decode cJ9_floorMod_f86c9 22 = .ok (.lload_n 2, 1) := by decide +kernel
theorem dJ9_floorMod_f86c9_23 : decode cJ9_floorMod_f86c9 23 = .ok (.ladd, 1) := by decide +kernel
theorem dJ9_floorMod_f86c9_24 : decode cJ9_floorMod_f86c9 24 = .ok (.lreturn, 1) := by decide +kernel
theorem dJ9_floorMod_f86c9_25 : decode cJ9_floorMod_f86c9 25 = .ok (.lload 4, 2) := by decide +kernel
theorem dJ9_floorMod_f86c9_27 : decode cJ9_floorMod_f86c9 27 = .ok (.lreturn, 1) := by decide +kernel
theorem dJ9_max_7cf53_0 : decode cJ9_max_7cf53 0 = .ok (.iload_n 0, 1) := by decide +kernel
theorem dJ9_max_7cf53_1 : decode cJ9_max_7cf53 1 = .ok (.iload_n 1, 1) := by decide +kernel
theorem dJ9_max_7cf53_2 : decode cJ9_max_7cf53 2 = .ok (.if_icmp .lt 7, 3) := by decide +kernel
theorem dJ9_max_7cf53_5 : decode cJ9_max_7cf53 5 = .ok (.iload_n 0, 1) := by decide +kernel
theorem dJ9_max_7cf53_6 : decode cJ9_max_7cf53 6 = .ok (.goto 4, 3) := by decide +kernel
theorem dJ9_max_7cf53_9 : decode cJ9_max_7cf53 9 = .ok (.iload_n 1, 1) := by decide +kernel
theorem dJ9_max_7cf53_10 : decode cJ9_max_7cf53 10 = .ok (.ireturn, 1) := by decide +kernel
theorem dJ9_min_7cf53_0 : decode cJ9_min_7cf53 0 = .ok (.iload_n 0, 1) := by decide +kernel
theorem dJ9_min_7cf53_1 : decode cJ9_min_7cf53 1 = .ok (.iload_n 1, 1) := by decide +kernel
theorem dJ9_min_7cf53_2 : decode cJ9_min_7cf53 2 = .ok (.if_icmp .gt 7, 3) := by decide +kernel
theorem dJ9_min_7cf53_5 : decode cJ9_min_7cf53 5 = .ok (.iload_n 0, 1) := by decide +kernel
theorem dJ9_min_7cf53_6 : decode cJ9_min_7cf53 6 = .ok (.goto 4, 3) := by decide +kernel
theorem dJ9_min_7cf53_9 : decode cJ9_min_7cf53 9 = .ok (.iload_n 1, 1) := by decide +kernel
theorem dJ9_min_7cf53_10 : decode cJ9_min_7cf53 10 = .ok (.ireturn, 1) := by decide +kernel
theorem dL_square_0 : decode cL_square 0 = .ok (.aload_n 2, 1) := by decide +kernel
theorem dL_square_1 : decode cL_square 1 = .ok (.iconst 0, 1) := by decide +kernel
theorem dL_square_2 : decode cL_square 2 = .ok (.aload_n 0, 1) := by decide +kernel
theorem dL_square_3 : decode cL_square 3 = .ok (.iload_n 1, 1) := by decide +kernel
theorem dL_square_4 : decode cL_square 4 = .ok (.invokevirtual 7, 3) := by decide +kernel
theorem dL_square_7 : decode cL_square 7 = .ok (.i2l, 1) := by decide +kernel
theorem dL_square_8 : decode cL_square 8 = .ok (.lastore, 1) := by decide +kernel
theorem dL_square_9 : decode cL_square 9 = .ok (.goto 9, 3) := by decide +kernel
theorem dL_square_12 : decode cL_square 12 = .ok (.astore_n 3, 1) := by decide +kernel
theorem dL_square_13 : decode cL_square 13 = .ok (.iconst 1, 1) := by decide +kernel
theorem dL_square_14 : decode cL_square 14 = .ok (.ireturn, 1) := by decide +kernel
theorem dL_square_15 : decode cL_square 15 = .ok (.astore_n 3, 1) := by decide +kernel
theorem dL_square_16 : decode cL_square 16 = .ok (.iconst 2, 1) := by decide +kernel
theorem dL_square_17 : decode cL_square 17 = .ok (.ireturn, 1) := by decide +kernel
theorem dL_square_18 : decode cL_square 18 = .ok (.iconst 0, 1) := by decide +kernel
theorem dL_square_19 : decode cL_square 19 = .ok (.ireturn, 1) := by decide +kernel
theorem dL_put_0 : decode cL_put 0 = .ok (.aload 5, 2) := by decide +kernel
theorem dL_put_2 : decode cL_put 2 = .ok (.iconst 0, 1) := by decide +kernel
theorem dL_put_3 : decode cL_put 3 = .ok (.aload_n 0, 1) := by decide +kernel
theorem dL_put_4 : decode cL_put 4 = .ok (.iload_n 1, 1) := by decide +kernel
theorem dL_put_5 : decode cL_put 5 = .ok (.iload_n 2, 1) := by decide +kernel
theorem dL_put_6 : decode cL_put 6 = .ok (.iload_n 3, 1) := by decide +kernel
theorem dL_put_7 : decode cL_put 7 = .ok (.iload 4, 2) := by decide +kernel
theorem dL_put_9 : decode cL_put 9 = .ok (.invokevirtual 17, 3) := by decide +kernel
theorem dL_put_12 : decode cL_put 12 = .ok (.i2l, 1) := by decide +kernel
theorem dL_put_13 : decode cL_put 13 = .ok (.lastore, 1) := by decide +kernel
theorem dL_put_14 : decode cL_put 14 = .ok (.goto 11, 3) := by decide +kernel
theorem dL_put_17 : decode cL_put 17 = .ok (.astore 6, 2) := by decide +kernel
theorem dL_put_19 : decode cL_put 19 = .ok (.iconst 1, 1) := by decide +kernel
theorem dL_put_20 : decode cL_put 20 = .ok (.ireturn, 1) := by decide +kernel
theorem dL_put_21 : decode cL_put 21 = .ok (.astore 6, 2) := by decide +kernel
theorem dL_put_23 : decode cL_put 23 = .ok (.iconst 2, 1) := by decide +kernel
theorem dL_put_24 : decode cL_put 24 = .ok (.ireturn, 1) := by decide +kernel
theorem dL_put_25 : decode cL_put 25 = .ok (.iconst 0, 1) := by decide +kernel
theorem dL_put_26 : decode cL_put 26 = .ok (.ireturn, 1) := by decide +kernel
theorem dL_at_0 : decode cL_at 0 = .ok (.aload 4, 2) := by decide +kernel
theorem dL_at_2 : decode cL_at 2 = .ok (.iconst 0, 1) := by decide +kernel
theorem dL_at_3 : decode cL_at 3 = .ok (.aload_n 0, 1) := by decide +kernel
theorem dL_at_4 : decode cL_at 4 = .ok (.iload_n 1, 1) := by decide +kernel
theorem dL_at_5 : decode cL_at 5 = .ok (.iload_n 2, 1) := by decide +kernel
theorem dL_at_6 : decode cL_at 6 = .ok (.iload_n 3, 1) := by decide +kernel
theorem dL_at_7 : decode cL_at 7 = .ok (.invokevirtual 23, 3) := by decide +kernel
theorem dL_at_10 : decode cL_at 10 = .ok (.i2l, 1) := by decide +kernel
theorem dL_at_11 : decode cL_at 11 = .ok (.lastore, 1) := by decide +kernel
theorem dL_at_12 : decode cL_at 12 = .ok (.goto 7, 3) := by decide +kernel
theorem dL_at_15 : decode cL_at 15 = .ok (.astore 5, 2) := by decide +kernel
theorem dL_at_17 : decode cL_at 17 = .ok (.iconst 1, 1) := by decide +kernel
theorem dL_at_18 : decode cL_at 18 = .ok (.ireturn, 1) := by decide +kernel
theorem dL_at_19 : decode cL_at 19 = .ok (.iconst 0, 1) := by decide +kernel
theorem dL_at_20 : decode cL_at 20 = .ok (.ireturn, 1) := by decide +kernel
theorem dL_make_0 : decode cL_make 0 = .ok (.aload_n 3, 1) := by decide +kernel
theorem dL_make_1 : decode cL_make 1 = .ok (.iconst 0, 1) := by decide +kernel
theorem dL_make_2 : decode cL_make 2 = .ok (.aload_n 0, 1) := by decide +kernel
theorem dL_make_3 : decode cL_make 3 = .ok (.iload_n 1, 1) := by decide +kernel
theorem dL_make_4 : decode cL_make 4 = .ok (.iload_n 2, 1) := by decide +kernel
theorem dL_make_5 : decode cL_make 5 = .ok (.invokevirtual 27, 3) := by decide +kernel
theorem dL_make_8 : decode cL_make 8 = .ok (.i2l, 1) := by decide +kernel
theorem dL_make_9 : decode cL_make 9 = .ok (.lastore, 1) := by decide +kernel
theorem dL_make_10 : decode cL_make 10 = .ok (.goto 11, 3) := by decide +kernel
theorem dL_make_13 : decode cL_make 13 = .ok (.astore 4, 2) := by decide +kernel
theorem dL_make_15 : decode cL_make 15 = .ok (.iconst 1, 1) := by decide +kernel
theorem dL_make_16 : decode cL_make 16 = .ok (.ireturn, 1) := by decide +kernel
theorem dL_make_17 : decode cL_make 17 = .ok (.astore 4, 2) := by decide +kernel
theorem dL_make_19 : decode cL_make 19 = .ok (.iconst 2, 1) := by decide +kernel
theorem dL_make_20 : decode cL_make 20 = .ok (.ireturn, 1) := by decide +kernel
theorem dL_make_21 : decode cL_make 21 = .ok (.iconst 0, 1) := by decide +kernel
theorem dL_make_22 : decode cL_make 22 = .ok (.ireturn, 1) := by decide +kernel
theorem dL_laws_0 : decode cL_laws 0 = .ok (.aload_n 2, 1) := by decide +kernel
theorem dL_laws_1 : decode cL_laws 1 = .ok (.iconst 0, 1) := by decide +kernel
theorem dL_laws_2 : decode cL_laws 2 = .ok (.aload_n 0, 1) := by decide +kernel
theorem dL_laws_3 : decode cL_laws 3 = .ok (.iload_n 1, 1) := by decide +kernel
theorem dL_laws_4 : decode cL_laws 4 = .ok (.invokevirtual 31, 3) := by decide +kernel
theorem dL_laws_7 : decode cL_laws 7 = .ok (.i2l, 1) := by decide +kernel
theorem dL_laws_8 : decode cL_laws 8 = .ok (.lastore, 1) := by decide +kernel
theorem dL_laws_9 : decode cL_laws 9 = .ok (.goto 6, 3) := by decide +kernel
theorem dL_laws_12 : decode cL_laws 12 = .ok (.astore_n 3, 1) := by decide +kernel
theorem dL_laws_13 : decode cL_laws 13 = .ok (.iconst 1, 1) := by decide +kernel
theorem dL_laws_14 : decode cL_laws 14 = .ok (.ireturn, 1) := by decide +kernel
theorem dL_laws_15 : decode cL_laws 15 = .ok (.iconst 0, 1) := by decide +kernel
theorem dL_laws_16 : decode cL_laws 16 = .ok (.ireturn, 1) := by decide +kernel
theorem dL_sum_0 : decode cL_sum 0 = .ok (.aload 4, 2) := by decide +kernel
theorem dL_sum_2 : decode cL_sum 2 = .ok (.iconst 0, 1) := by decide +kernel
theorem dL_sum_3 : decode cL_sum 3 = .ok (.aload_n 0, 1) := by decide +kernel
theorem dL_sum_4 : decode cL_sum 4 = .ok (.iload_n 1, 1) := by decide +kernel
theorem dL_sum_5 : decode cL_sum 5 = .ok (.iload_n 2, 1) := by decide +kernel
theorem dL_sum_6 : decode cL_sum 6 = .ok (.iload_n 3, 1) := by decide +kernel
theorem dL_sum_7 : decode cL_sum 7 = .ok (.invokevirtual 34, 3) := by decide +kernel
theorem dL_sum_10 : decode cL_sum 10 = .ok (.i2l, 1) := by decide +kernel
theorem dL_sum_11 : decode cL_sum 11 = .ok (.lastore, 1) := by decide +kernel
theorem dL_sum_12 : decode cL_sum 12 = .ok (.goto 11, 3) := by decide +kernel
theorem dL_sum_15 : decode cL_sum 15 = .ok (.astore 5, 2) := by decide +kernel
theorem dL_sum_17 : decode cL_sum 17 = .ok (.iconst 1, 1) := by decide +kernel
theorem dL_sum_18 : decode cL_sum 18 = .ok (.ireturn, 1) := by decide +kernel
theorem dL_sum_19 : decode cL_sum 19 = .ok (.astore 5, 2) := by decide +kernel
theorem dL_sum_21 : decode cL_sum 21 = .ok (.iconst 2, 1) := by decide +kernel
theorem dL_sum_22 : decode cL_sum 22 = .ok (.ireturn, 1) := by decide +kernel
theorem dL_sum_23 : decode cL_sum 23 = .ok (.iconst 0, 1) := by decide +kernel
theorem dL_sum_24 : decode cL_sum 24 = .ok (.ireturn, 1) := by decide +kernel
theorem dL_change_0 : decode cL_change 0 = .ok (.aload 4, 2) := by decide +kernel
theorem dL_change_2 : decode cL_change 2 = .ok (.iconst 0, 1) := by decide +kernel
theorem dL_change_3 : decode cL_change 3 = .ok (.aload_n 0, 1) := by decide +kernel
theorem dL_change_4 : decode cL_change 4 = .ok (.iload_n 1, 1) := by decide +kernel
theorem dL_change_5 : decode cL_change 5 = .ok (.iload_n 2, 1) := by decide +kernel
theorem dL_change_6 : decode cL_change 6 = .ok (.iload_n 3, 1) := by decide +kernel
theorem dL_change_7 : decode cL_change 7 = .ok (.invokevirtual 37, 3) := by decide +kernel
theorem dL_change_10 : decode cL_change 10 = .ok (.i2l, 1) := by decide +kernel
theorem dL_change_11 : decode cL_change 11 = .ok (.lastore, 1) := by decide +kernel
theorem dL_change_12 : decode cL_change 12 = .ok (.goto 15, 3) := by decide +kernel
theorem dL_change_15 : decode cL_change 15 = .ok (.astore 5, 2) := by decide +kernel
theorem dL_change_17 : decode cL_change 17 = .ok (.iconst 1, 1) := by decide +kernel
theorem dL_change_18 : decode cL_change 18 = .ok (.ireturn, 1) := by decide +kernel
theorem dL_change_19 : decode cL_change 19 = .ok (.astore 5, 2) := by decide +kernel
theorem dL_change_21 : decode cL_change 21 = .ok (.iconst 2, 1) := by decide +kernel
theorem dL_change_22 : decode cL_change 22 = .ok (.ireturn, 1) := by decide +kernel
theorem dL_change_23 : decode cL_change 23 = .ok (.astore 5, 2) := by decide +kernel
theorem dL_change_25 : decode cL_change 25 = .ok (.iconst 3, 1) := by decide +kernel
theorem dL_change_26 : decode cL_change 26 = .ok (.ireturn, 1) := by decide +kernel
theorem dL_change_27 : decode cL_change 27 = .ok (.iconst 0, 1) := by decide +kernel
theorem dL_change_28 : decode cL_change 28 = .ok (.ireturn, 1) := by decide +kernel
theorem dL_same_0 : decode cL_same 0 = .ok (.aload_n 3, 1) := by decide +kernel
theorem dL_same_1 : decode cL_same 1 = .ok (.iconst 0, 1) := by decide +kernel
theorem dL_same_2 : decode cL_same 2 = .ok (.aload_n 0, 1) := by decide +kernel
theorem dL_same_3 : decode cL_same 3 = .ok (.iload_n 1, 1) := by decide +kernel
theorem dL_same_4 : decode cL_same 4 = .ok (.iload_n 2, 1) := by decide +kernel
theorem dL_same_5 : decode cL_same 5 = .ok (.invokevirtual 40, 3) := by decide +kernel
theorem dL_same_8 : decode cL_same 8 = .ok (.ifCond .eq 7, 3) := by decide +kernel
theorem dL_same_11 : decode cL_same 11 = .ok (.lconst 1, 1) := by decide +kernel
theorem dL_same_12 : decode cL_same 12 = .ok (.goto 4, 3) := by decide +kernel
theorem dL_same_15 : decode cL_same 15 = .ok (.lconst 0, 1) := by decide +kernel
theorem dL_same_16 : decode cL_same 16 = .ok (.lastore, 1) := by decide +kernel
theorem dL_same_17 : decode cL_same 17 = .ok (.goto 7, 3) := by decide +kernel
theorem dL_same_20 : decode cL_same 20 = .ok (.astore 4, 2) := by decide +kernel
theorem dL_same_22 : decode cL_same 22 = .ok (.iconst 1, 1) := by decide +kernel
theorem dL_same_23 : decode cL_same 23 = .ok (.ireturn, 1) := by decide +kernel
theorem dL_same_24 : decode cL_same 24 = .ok (.iconst 0, 1) := by decide +kernel
theorem dL_same_25 : decode cL_same 25 = .ok (.ireturn, 1) := by decide +kernel
theorem dL_least_0 : decode cL_least 0 = .ok (.aload 4, 2) := by decide +kernel
theorem dL_least_2 : decode cL_least 2 = .ok (.iconst 0, 1) := by decide +kernel
theorem dL_least_3 : decode cL_least 3 = .ok (.aload_n 0, 1) := by decide +kernel
theorem dL_least_4 : decode cL_least 4 = .ok (.iload_n 1, 1) := by decide +kernel
theorem dL_least_5 : decode cL_least 5 = .ok (.iload_n 2, 1) := by decide +kernel
theorem dL_least_6 : decode cL_least 6 = .ok (.iload_n 3, 1) := by decide +kernel
theorem dL_least_7 : decode cL_least 7 = .ok (.invokevirtual 44, 3) := by decide +kernel
theorem dL_least_10 : decode cL_least 10 = .ok (.i2l, 1) := by decide +kernel
theorem dL_least_11 : decode cL_least 11 = .ok (.lastore, 1) := by decide +kernel
theorem dL_least_12 : decode cL_least 12 = .ok (.goto 7, 3) := by decide +kernel
theorem dL_least_15 : decode cL_least 15 = .ok (.astore 5, 2) := by decide +kernel
theorem dL_least_17 : decode cL_least 17 = .ok (.iconst 1, 1) := by decide +kernel
theorem dL_least_18 : decode cL_least 18 = .ok (.ireturn, 1) := by decide +kernel
theorem dL_least_19 : decode cL_least 19 = .ok (.iconst 0, 1) := by decide +kernel
theorem dL_least_20 : decode cL_least 20 = .ok (.ireturn, 1) := by decide +kernel
theorem dL_kin_0 : decode cL_kin 0 = .ok (.aload_n 2, 1) := by decide +kernel
theorem dL_kin_1 : decode cL_kin 1 = .ok (.iconst 0, 1) := by decide +kernel
theorem dL_kin_2 : decode cL_kin 2 = .ok (.aload_n 0, 1) := by decide +kernel
theorem dL_kin_3 : decode cL_kin 3 = .ok (.iload_n 1, 1) := by decide +kernel
theorem dL_kin_4 : decode cL_kin 4 = .ok (.invokevirtual 47, 3) := by decide +kernel
theorem dL_kin_7 : decode cL_kin 7 = .ok (.i2l, 1) := by decide +kernel
theorem dL_kin_8 : decode cL_kin 8 = .ok (.lastore, 1) := by decide +kernel
theorem dL_kin_9 : decode cL_kin 9 = .ok (.goto 6, 3) := by decide +kernel
theorem dL_kin_12 : decode cL_kin 12 = .ok (.astore_n 3, 1) := by decide +kernel
theorem dL_kin_13 : decode cL_kin 13 = .ok (.iconst 1, 1) := by decide +kernel
theorem dL_kin_14 : decode cL_kin 14 = .ok (.ireturn, 1) := by decide +kernel
theorem dL_kin_15 : decode cL_kin 15 = .ok (.iconst 0, 1) := by decide +kernel
theorem dL_kin_16 : decode cL_kin 16 = .ok (.ireturn, 1) := by decide +kernel
theorem dL_completions_0 : decode cL_completions 0 = .ok (.aload_n 2, 1) := by decide +kernel
theorem dL_completions_1 : decode cL_completions 1 = .ok (.iconst 0, 1) := by decide +kernel
theorem dL_completions_2 : decode cL_completions 2 = .ok (.aload_n 0, 1) := by decide +kernel
theorem dL_completions_3 : decode cL_completions 3 = .ok (.iload_n 1, 1) := by decide +kernel
theorem dL_completions_4 : decode cL_completions 4 = .ok (.invokevirtual 50, 3) := by decide +kernel
theorem dL_completions_7 : decode cL_completions 7 = .ok (.i2l, 1) := by decide +kernel
theorem dL_completions_8 : decode cL_completions 8 = .ok (.lastore, 1) := by decide +kernel
theorem dL_completions_9 : decode cL_completions 9 = .ok (.goto 9, 3) := by decide +kernel
theorem dL_completions_12 : decode cL_completions 12 = .ok (.astore_n 3, 1) := by decide +kernel
theorem dL_completions_13 : decode cL_completions 13 = .ok (.iconst 1, 1) := by decide +kernel
theorem dL_completions_14 : decode cL_completions 14 = .ok (.ireturn, 1) := by decide +kernel
theorem dL_completions_15 : decode cL_completions 15 = .ok (.astore_n 3, 1) := by decide +kernel
theorem dL_completions_16 : decode cL_completions 16 = .ok (.iconst 2, 1) := by decide +kernel
theorem dL_completions_17 : decode cL_completions 17 = .ok (.ireturn, 1) := by decide +kernel
theorem dL_completions_18 : decode cL_completions 18 = .ok (.iconst 0, 1) := by decide +kernel
theorem dL_completions_19 : decode cL_completions 19 = .ok (.ireturn, 1) := by decide +kernel
theorem dL_completion_0 : decode cL_completion 0 = .ok (.aload 5, 2) := by decide +kernel
theorem dL_completion_2 : decode cL_completion 2 = .ok (.iconst 0, 1) := by decide +kernel
theorem dL_completion_3 : decode cL_completion 3 = .ok (.aload_n 0, 1) := by decide +kernel
theorem dL_completion_4 : decode cL_completion 4 = .ok (.iload_n 1, 1) := by decide +kernel
theorem dL_completion_5 : decode cL_completion 5 = .ok (.iload_n 2, 1) := by decide +kernel
theorem dL_completion_6 : decode cL_completion 6 = .ok (.iload_n 3, 1) := by decide +kernel
theorem dL_completion_7 : decode cL_completion 7 = .ok (.iload 4, 2) := by decide +kernel
theorem dL_completion_9 : decode cL_completion 9 = .ok (.invokevirtual 53, 3) := by decide +kernel
theorem dL_completion_12 : decode cL_completion 12 = .ok (.i2l, 1) := by decide +kernel
theorem dL_completion_13 : decode cL_completion 13 = .ok (.lastore, 1) := by decide +kernel
theorem dL_completion_14 : decode cL_completion 14 = .ok (.goto 15, 3) := by decide +kernel
theorem dL_completion_17 : decode cL_completion 17 = .ok (.astore 6, 2) := by decide +kernel
theorem dL_completion_19 : decode cL_completion 19 = .ok (.iconst 1, 1) := by decide +kernel
theorem dL_completion_20 : decode cL_completion 20 = .ok (.ireturn, 1) := by decide +kernel
theorem dL_completion_21 : decode cL_completion 21 = .ok (.astore 6, 2) := by decide +kernel
theorem dL_completion_23 : decode cL_completion 23 = .ok (.iconst 2, 1) := by decide +kernel
theorem dL_completion_24 : decode cL_completion 24 = .ok (.ireturn, 1) := by decide +kernel
theorem dL_completion_25 : decode cL_completion 25 = .ok (.astore 6, 2) := by decide +kernel
theorem dL_completion_27 : decode cL_completion 27 = .ok (.iconst 3, 1) := by decide +kernel
theorem dL_completion_28 : decode cL_completion 28 = .ok (.ireturn, 1) := by decide +kernel
theorem dL_completion_29 : decode cL_completion 29 = .ok (.iconst 0, 1) := by decide +kernel
theorem dL_completion_30 : decode cL_completion 30 = .ok (.ireturn, 1) := by decide +kernel
theorem dL_estimate_0 : decode cL_estimate 0 = .ok (.aload_n 3, 1) := by decide +kernel
theorem dL_estimate_1 : decode cL_estimate 1 = .ok (.iconst 0, 1) := by decide +kernel
theorem dL_estimate_2 : decode cL_estimate 2 = .ok (.aload_n 0, 1) := by decide +kernel
theorem dL_estimate_3 : decode cL_estimate 3 = .ok (.iload_n 1, 1) := by decide +kernel
theorem dL_estimate_4 : decode cL_estimate 4 = .ok (.iload_n 2, 1) := by decide +kernel
theorem dL_estimate_5 : decode cL_estimate 5 = .ok (.invokevirtual 56, 3) := by decide +kernel
theorem dL_estimate_8 : decode cL_estimate 8 = .ok (.lastore, 1) := by decide +kernel
theorem dL_estimate_9 : decode cL_estimate 9 = .ok (.goto 15, 3) := by decide +kernel
theorem dL_estimate_12 : decode cL_estimate 12 = .ok (.astore 4, 2) := by decide +kernel
theorem dL_estimate_14 : decode cL_estimate 14 = .ok (.iconst 1, 1) := by decide +kernel
theorem dL_estimate_15 : decode cL_estimate 15 = .ok (.ireturn, 1) := by decide +kernel
theorem dL_estimate_16 : decode cL_estimate 16 = .ok (.astore 4, 2) := by decide +kernel
theorem dL_estimate_18 : decode cL_estimate 18 = .ok (.iconst 2, 1) := by decide +kernel
theorem dL_estimate_19 : decode cL_estimate 19 = .ok (.ireturn, 1) := by decide +kernel
theorem dL_estimate_20 : decode cL_estimate 20 = .ok (.astore 4, 2) := by decide +kernel
theorem dL_estimate_22 : decode cL_estimate 22 = .ok (.iconst 3, 1) := by decide +kernel
theorem dL_estimate_23 : decode cL_estimate 23 = .ok (.ireturn, 1) := by decide +kernel
theorem dL_estimate_24 : decode cL_estimate 24 = .ok (.iconst 0, 1) := by decide +kernel
theorem dL_estimate_25 : decode cL_estimate 25 = .ok (.ireturn, 1) := by decide +kernel
theorem dL_givens_0 : decode cL_givens 0 = .ok (.aload_n 3, 1) := by decide +kernel
theorem dL_givens_1 : decode cL_givens 1 = .ok (.iconst 0, 1) := by decide +kernel
theorem dL_givens_2 : decode cL_givens 2 = .ok (.aload_n 0, 1) := by decide +kernel
theorem dL_givens_3 : decode cL_givens 3 = .ok (.iload_n 1, 1) := by decide +kernel
theorem dL_givens_4 : decode cL_givens 4 = .ok (.iload_n 2, 1) := by decide +kernel
theorem dL_givens_5 : decode cL_givens 5 = .ok (.invokevirtual 60, 3) := by decide +kernel
theorem dL_givens_8 : decode cL_givens 8 = .ok (.i2l, 1) := by decide +kernel
theorem dL_givens_9 : decode cL_givens 9 = .ok (.lastore, 1) := by decide +kernel
theorem dL_givens_10 : decode cL_givens 10 = .ok (.goto 11, 3) := by decide +kernel
theorem dL_givens_13 : decode cL_givens 13 = .ok (.astore 4, 2) := by decide +kernel
theorem dL_givens_15 : decode cL_givens 15 = .ok (.iconst 1, 1) := by decide +kernel
theorem dL_givens_16 : decode cL_givens 16 = .ok (.ireturn, 1) := by decide +kernel
theorem dL_givens_17 : decode cL_givens 17 = .ok (.astore 4, 2) := by decide +kernel
theorem dL_givens_19 : decode cL_givens 19 = .ok (.iconst 2, 1) := by decide +kernel
theorem dL_givens_20 : decode cL_givens 20 = .ok (.ireturn, 1) := by decide +kernel
theorem dL_givens_21 : decode cL_givens 21 = .ok (.iconst 0, 1) := by decide +kernel
theorem dL_givens_22 : decode cL_givens 22 = .ok (.ireturn, 1) := by decide +kernel
theorem dL_slip_0 : decode cL_slip 0 = .ok (.aload_n 3, 1) := by decide +kernel
theorem dL_slip_1 : decode cL_slip 1 = .ok (.iconst 0, 1) := by decide +kernel
theorem dL_slip_2 : decode cL_slip 2 = .ok (.aload_n 0, 1) := by decide +kernel
theorem dL_slip_3 : decode cL_slip 3 = .ok (.iload_n 1, 1) := by decide +kernel
theorem dL_slip_4 : decode cL_slip 4 = .ok (.iload_n 2, 1) := by decide +kernel
theorem dL_slip_5 : decode cL_slip 5 = .ok (.invokevirtual 64, 3) := by decide +kernel
theorem dL_slip_8 : decode cL_slip 8 = .ok (.i2l, 1) := by decide +kernel
theorem dL_slip_9 : decode cL_slip 9 = .ok (.lastore, 1) := by decide +kernel
theorem dL_slip_10 : decode cL_slip 10 = .ok (.goto 11, 3) := by decide +kernel
theorem dL_slip_13 : decode cL_slip 13 = .ok (.astore 4, 2) := by decide +kernel
theorem dL_slip_15 : decode cL_slip 15 = .ok (.iconst 1, 1) := by decide +kernel
theorem dL_slip_16 : decode cL_slip 16 = .ok (.ireturn, 1) := by decide +kernel
theorem dL_slip_17 : decode cL_slip 17 = .ok (.astore 4, 2) := by decide +kernel
theorem dL_slip_19 : decode cL_slip 19 = .ok (.iconst 2, 1) := by decide +kernel
theorem dL_slip_20 : decode cL_slip 20 = .ok (.ireturn, 1) := by decide +kernel
theorem dL_slip_21 : decode cL_slip 21 = .ok (.iconst 0, 1) := by decide +kernel
theorem dL_slip_22 : decode cL_slip 22 = .ok (.ireturn, 1) := by decide +kernel
theorem dL_orthogonal_0 : decode cL_orthogonal 0 = .ok (.aload_n 3, 1) := by decide +kernel
theorem dL_orthogonal_1 : decode cL_orthogonal 1 = .ok (.iconst 0, 1) := by decide +kernel
theorem dL_orthogonal_2 : decode cL_orthogonal 2 = .ok (.aload_n 0, 1) := by decide +kernel
theorem dL_orthogonal_3 : decode cL_orthogonal 3 = .ok (.iload_n 1, 1) := by decide +kernel
theorem dL_orthogonal_4 : decode cL_orthogonal 4 = .ok (.iload_n 2, 1) := by decide +kernel
theorem dL_orthogonal_5 : decode cL_orthogonal 5 = .ok (.invokevirtual 67, 3) := by decide +kernel
theorem dL_orthogonal_8 : decode cL_orthogonal 8 = .ok (.ifCond .eq 7, 3) := by decide +kernel
theorem dL_orthogonal_11 : decode cL_orthogonal 11 = .ok (.lconst 1, 1) := by decide +kernel
theorem dL_orthogonal_12 : decode cL_orthogonal 12 = .ok (.goto 4, 3) := by decide +kernel
theorem dL_orthogonal_15 : decode cL_orthogonal 15 = .ok (.lconst 0, 1) := by decide +kernel
theorem dL_orthogonal_16 : decode cL_orthogonal 16 = .ok (.lastore, 1) := by decide +kernel
theorem dL_orthogonal_17 : decode cL_orthogonal 17 = .ok (.goto 11, 3) := by decide +kernel
theorem dL_orthogonal_20 : decode cL_orthogonal 20 = .ok (.astore 4, 2) := by decide +kernel
theorem dL_orthogonal_22 : decode cL_orthogonal 22 = .ok (.iconst 1, 1) := by decide +kernel
theorem dL_orthogonal_23 : decode cL_orthogonal 23 = .ok (.ireturn, 1) := by decide +kernel
theorem dL_orthogonal_24 : decode cL_orthogonal 24 = .ok (.astore 4, 2) := by decide +kernel
theorem dL_orthogonal_26 : decode cL_orthogonal 26 = .ok (.iconst 2, 1) := by decide +kernel
theorem dL_orthogonal_27 : decode cL_orthogonal 27 = .ok (.ireturn, 1) := by decide +kernel
theorem dL_orthogonal_28 : decode cL_orthogonal 28 = .ok (.iconst 0, 1) := by decide +kernel
theorem dL_orthogonal_29 : decode cL_orthogonal 29 = .ok (.ireturn, 1) := by decide +kernel
theorem dL_stack_0 : decode cL_stack 0 = .ok (.aload_n 3, 1) := by decide +kernel
theorem dL_stack_1 : decode cL_stack 1 = .ok (.iconst 0, 1) := by decide +kernel
theorem dL_stack_2 : decode cL_stack 2 = .ok (.aload_n 0, 1) := by decide +kernel
theorem dL_stack_3 : decode cL_stack 3 = .ok (.iload_n 1, 1) := by decide +kernel
theorem dL_stack_4 : decode cL_stack 4 = .ok (.iload_n 2, 1) := by decide +kernel
theorem dL_stack_5 : decode cL_stack 5 = .ok (.invokevirtual 70, 3) := by decide +kernel
theorem dL_stack_8 : decode cL_stack 8 = .ok (.i2l, 1) := by decide +kernel
theorem dL_stack_9 : decode cL_stack 9 = .ok (.lastore, 1) := by decide +kernel
theorem dL_stack_10 : decode cL_stack 10 = .ok (.goto 11, 3) := by decide +kernel
theorem dL_stack_13 : decode cL_stack 13 = .ok (.astore 4, 2) := by decide +kernel
theorem dL_stack_15 : decode cL_stack 15 = .ok (.iconst 1, 1) := by decide +kernel
theorem dL_stack_16 : decode cL_stack 16 = .ok (.ireturn, 1) := by decide +kernel
theorem dL_stack_17 : decode cL_stack 17 = .ok (.astore 4, 2) := by decide +kernel
theorem dL_stack_19 : decode cL_stack 19 = .ok (.iconst 2, 1) := by decide +kernel
theorem dL_stack_20 : decode cL_stack 20 = .ok (.ireturn, 1) := by decide +kernel
theorem dL_stack_21 : decode cL_stack 21 = .ok (.iconst 0, 1) := by decide +kernel
theorem dL_stack_22 : decode cL_stack 22 = .ok (.ireturn, 1) := by decide +kernel
theorem dL_product_0 : decode cL_product 0 = .ok (.aload_n 3, 1) := by decide +kernel
theorem dL_product_1 : decode cL_product 1 = .ok (.iconst 0, 1) := by decide +kernel
theorem dL_product_2 : decode cL_product 2 = .ok (.aload_n 0, 1) := by decide +kernel
theorem dL_product_3 : decode cL_product 3 = .ok (.iload_n 1, 1) := by decide +kernel
theorem dL_product_4 : decode cL_product 4 = .ok (.iload_n 2, 1) := by decide +kernel
theorem dL_product_5 : decode cL_product 5 = .ok (.invokevirtual 73, 3) := by decide +kernel
theorem dL_product_8 : decode cL_product 8 = .ok (.i2l, 1) := by decide +kernel
theorem dL_product_9 : decode cL_product 9 = .ok (.lastore, 1) := by decide +kernel
theorem dL_product_10 : decode cL_product 10 = .ok (.goto 11, 3) := by decide +kernel
theorem dL_product_13 : decode cL_product 13 = .ok (.astore 4, 2) := by decide +kernel
theorem dL_product_15 : decode cL_product 15 = .ok (.iconst 1, 1) := by decide +kernel
theorem dL_product_16 : decode cL_product 16 = .ok (.ireturn, 1) := by decide +kernel
theorem dL_product_17 : decode cL_product 17 = .ok (.astore 4, 2) := by decide +kernel
theorem dL_product_19 : decode cL_product 19 = .ok (.iconst 2, 1) := by decide +kernel
theorem dL_product_20 : decode cL_product 20 = .ok (.ireturn, 1) := by decide +kernel
theorem dL_product_21 : decode cL_product 21 = .ok (.iconst 0, 1) := by decide +kernel
theorem dL_product_22 : decode cL_product 22 = .ok (.ireturn, 1) := by decide +kernel
theorem dL_crossings_0 : decode cL_crossings 0 = .ok (.aload_n 3, 1) := by decide +kernel
theorem dL_crossings_1 : decode cL_crossings 1 = .ok (.iconst 0, 1) := by decide +kernel
theorem dL_crossings_2 : decode cL_crossings 2 = .ok (.aload_n 0, 1) := by decide +kernel
theorem dL_crossings_3 : decode cL_crossings 3 = .ok (.iload_n 1, 1) := by decide +kernel
theorem dL_crossings_4 : decode cL_crossings 4 = .ok (.iload_n 2, 1) := by decide +kernel
theorem dL_crossings_5 : decode cL_crossings 5 = .ok (.invokevirtual 76, 3) := by decide +kernel
theorem dL_crossings_8 : decode cL_crossings 8 = .ok (.i2l, 1) := by decide +kernel
theorem dL_crossings_9 : decode cL_crossings 9 = .ok (.lastore, 1) := by decide +kernel
theorem dL_crossings_10 : decode cL_crossings 10 = .ok (.goto 15, 3) := by decide +kernel
theorem dL_crossings_13 : decode cL_crossings 13 = .ok (.astore 4, 2) := by decide +kernel
theorem dL_crossings_15 : decode cL_crossings 15 = .ok (.iconst 1, 1) := by decide +kernel
theorem dL_crossings_16 : decode cL_crossings 16 = .ok (.ireturn, 1) := by decide +kernel
theorem dL_crossings_17 : decode cL_crossings 17 = .ok (.astore 4, 2) := by decide +kernel
theorem dL_crossings_19 : decode cL_crossings 19 = .ok (.iconst 2, 1) := by decide +kernel
theorem dL_crossings_20 : decode cL_crossings 20 = .ok (.ireturn, 1) := by decide +kernel
theorem dL_crossings_21 : decode cL_crossings 21 = .ok (.astore 4, 2) := by decide +kernel
theorem dL_crossings_23 : decode cL_crossings 23 = .ok (.iconst 3, 1) := by decide +kernel
theorem dL_crossings_24 : decode cL_crossings 24 = .ok (.ireturn, 1) := by decide +kernel
theorem dL_crossings_25 : decode cL_crossings 25 = .ok (.iconst 0, 1) := by decide +kernel
theorem dL_crossings_26 : decode cL_crossings 26 = .ok (.ireturn, 1) := by decide +kernel
theorem dL_dimension_0 : decode cL_dimension 0 = .ok (.aload_n 3, 1) := by decide +kernel
theorem dL_dimension_1 : decode cL_dimension 1 = .ok (.iconst 0, 1) := by decide +kernel
theorem dL_dimension_2 : decode cL_dimension 2 = .ok (.aload_n 0, 1) := by decide +kernel
theorem dL_dimension_3 : decode cL_dimension 3 = .ok (.iload_n 1, 1) := by decide +kernel
theorem dL_dimension_4 : decode cL_dimension 4 = .ok (.iload_n 2, 1) := by decide +kernel
theorem dL_dimension_5 : decode cL_dimension 5 = .ok (.invokevirtual 79, 3) := by decide +kernel
theorem dL_dimension_8 : decode cL_dimension 8 = .ok (.i2l, 1) := by decide +kernel
theorem dL_dimension_9 : decode cL_dimension 9 = .ok (.lastore, 1) := by decide +kernel
theorem dL_dimension_10 : decode cL_dimension 10 = .ok (.goto 7, 3) := by decide +kernel
theorem dL_dimension_13 : decode cL_dimension 13 = .ok (.astore 4, 2) := by decide +kernel
theorem dL_dimension_15 : decode cL_dimension 15 = .ok (.iconst 1, 1) := by decide +kernel
theorem dL_dimension_16 : decode cL_dimension 16 = .ok (.ireturn, 1) := by decide +kernel
theorem dL_dimension_17 : decode cL_dimension 17 = .ok (.iconst 0, 1) := by decide +kernel
theorem dL_dimension_18 : decode cL_dimension 18 = .ok (.ireturn, 1) := by decide +kernel
theorem dL_law_0 : decode cL_law 0 = .ok (.new 8, 3) := by decide +kernel
theorem dL_law_3 : decode cL_law 3 = .ok (.dup, 1) := by decide +kernel
theorem dL_law_4 : decode cL_law 4 = .ok (.invokespecial 82, 3) := by decide +kernel
theorem dL_law_7 : decode cL_law 7 = .ok (.astore_n 1, 1) := by decide +kernel
theorem dL_law_8 : decode cL_law 8 = .ok (.new 83, 3) := by decide +kernel
theorem dL_law_11 : decode cL_law 11 = .ok (.dup, 1) := by decide +kernel
theorem dL_law_12 : decode cL_law 12 = .ok (.invokespecial 85, 3) := by decide +kernel
theorem dL_law_15 : decode cL_law 15 = .ok (.astore_n 2, 1) := by decide +kernel
theorem dL_law_16 : decode cL_law 16 = .ok (.iconst 1, 1) := by decide +kernel
theorem dL_law_17 : decode cL_law 17 = .ok (.newarray .long, 2) := by decide +kernel
theorem dL_law_19 : decode cL_law 19 = .ok (.astore_n 3, 1) := by decide +kernel
theorem dL_law_20 : decode cL_law 20 = .ok (.iconst 0, 1) := by decide +kernel
theorem dL_law_21 : decode cL_law 21 = .ok (.istore 4, 2) := by decide +kernel
theorem dL_law_23 : decode cL_law 23 = .ok (.iload 4, 2) := by decide +kernel
theorem dL_law_25 : decode cL_law 25 = .ok (.aload_n 0, 1) := by decide +kernel
theorem dL_law_26 : decode cL_law 26 = .ok (.arraylength, 1) := by decide +kernel
theorem dL_law_27 : decode cL_law 27 = .ok (.iconst 5, 1) := by decide +kernel
theorem dL_law_28 : decode cL_law 28 = .ok (.isub, 1) := by decide +kernel
theorem dL_law_29 : decode cL_law 29 = .ok (.if_icmp .gt 1563, 3) := by decide +kernel
theorem dL_law_32 : decode cL_law 32 = .ok (.aload_n 0, 1) := by decide +kernel
theorem dL_law_33 : decode cL_law 33 = .ok (.iload 4, 2) := by decide +kernel
theorem dL_law_35 : decode cL_law 35 = .ok (.iaload, 1) := by decide +kernel
theorem dL_law_36 : decode cL_law 36 = .ok (.bipush 31, 2) := by decide +kernel
theorem dL_law_38 : decode cL_law 38 = .ok (.iand, 1) := by decide +kernel
theorem dL_law_39 : decode cL_law 39 = .ok (.tableswitch 1547 0 20 #[97, 153, 245, 325, 393, 449, 529, 609, 684, 764, 820, 833, 889, 981, 1048, 1132, 1200, 1275, 1343, 1411, 1479], 97) := by decide +kernel
theorem dL_law_136 : decode cL_law 136 = .ok (.aload_n 1, 1) := by decide +kernel
theorem dL_law_137 : decode cL_law 137 = .ok (.aload_n 0, 1) := by decide +kernel
theorem dL_law_138 : decode cL_law 138 = .ok (.iload 4, 2) := by decide +kernel
theorem dL_law_140 : decode cL_law 140 = .ok (.iconst 1, 1) := by decide +kernel
theorem dL_law_141 : decode cL_law 141 = .ok (.iadd, 1) := by decide +kernel
theorem dL_law_142 : decode cL_law 142 = .ok (.iaload, 1) := by decide +kernel
theorem dL_law_143 : decode cL_law 143 = .ok (.aload_n 3, 1) := by decide +kernel
theorem dL_law_144 : decode cL_law 144 = .ok (.invokestatic 86, 3) := by decide +kernel
theorem dL_law_147 : decode cL_law 147 = .ok (.istore 5, 2) := by decide +kernel
theorem dL_law_149 : decode cL_law 149 = .ok (.aload_n 2, 1) := by decide +kernel
theorem dL_law_150 : decode cL_law 150 = .ok (.aload_n 0, 1) := by decide +kernel
theorem dL_law_151 : decode cL_law 151 = .ok (.iload 4, 2) := by decide +kernel
theorem dL_law_153 : decode cL_law 153 = .ok (.iconst 1, 1) := by decide +kernel
theorem dL_law_154 : decode cL_law 154 = .ok (.iadd, 1) := by decide +kernel
theorem dL_law_155 : decode cL_law 155 = .ok (.iaload, 1) := by decide +kernel
theorem dL_law_156 : decode cL_law 156 = .ok (.invokevirtual 91, 3) := by decide +kernel
theorem dL_law_159 : decode cL_law 159 = .ok (.istore 6, 2) := by decide +kernel
theorem dL_law_161 : decode cL_law 161 = .ok (.aload_n 2, 1) := by decide +kernel
theorem dL_law_162 : decode cL_law 162 = .ok (.invokevirtual 92, 3) := by decide +kernel
theorem dL_law_165 : decode cL_law 165 = .ok (.iload 5, 2) := by decide +kernel
theorem dL_law_167 : decode cL_law 167 = .ok (.if_icmp .eq 5, 3) := by decide +kernel
theorem dL_law_170 : decode cL_law 170 = .ok (.iconst 0, 1) := by decide +kernel
theorem dL_law_171 : decode cL_law 171 = .ok (.ireturn, 1) := by decide +kernel
theorem dL_law_172 : decode cL_law 172 = .ok (.iload 5, 2) := by decide +kernel
theorem dL_law_174 : decode cL_law 174 = .ok (.ifCond .ne 15, 3) := by decide +kernel
theorem dL_law_177 : decode cL_law 177 = .ok (.aload_n 3, 1) := by decide +kernel
theorem dL_law_178 : decode cL_law 178 = .ok (.iconst 0, 1) := by decide +kernel
theorem dL_law_179 : decode cL_law 179 = .ok (.laload, 1) := by decide +kernel
theorem dL_law_180 : decode cL_law 180 = .ok (.iload 6, 2) := by decide +kernel
theorem dL_law_182 : decode cL_law 182 = .ok (.i2l, 1) := by decide +kernel
theorem dL_law_183 : decode cL_law 183 = .ok (.lcmp, 1) := by decide +kernel
theorem dL_law_184 : decode cL_law 184 = .ok (.ifCond .eq 5, 3) := by decide +kernel
theorem dL_law_187 : decode cL_law 187 = .ok (.iconst 0, 1) := by decide +kernel
theorem dL_law_188 : decode cL_law 188 = .ok (.ireturn, 1) := by decide +kernel
theorem dL_law_189 : decode cL_law 189 = .ok (.goto 1397, 3) := by decide +kernel
theorem dL_law_192 : decode cL_law 192 = .ok (.aload_n 1, 1) := by decide +kernel
theorem dL_law_193 : decode cL_law 193 = .ok (.aload_n 0, 1) := by decide +kernel
theorem dL_law_194 : decode cL_law 194 = .ok (.iload 4, 2) := by decide +kernel
theorem dL_law_196 : decode cL_law 196 = .ok (.iconst 1, 1) := by decide +kernel
theorem dL_law_197 : decode cL_law 197 = .ok (.iadd, 1) := by decide +kernel
theorem dL_law_198 : decode cL_law 198 = .ok (.iaload, 1) := by decide +kernel
theorem dL_law_199 : decode cL_law 199 = .ok (.aload_n 0, 1) := by decide +kernel
theorem dL_law_200 : decode cL_law 200 = .ok (.iload 4, 2) := by decide +kernel
theorem dL_law_202 : decode cL_law 202 = .ok (.iconst 2, 1) := by decide +kernel
theorem dL_law_203 : decode cL_law 203 = .ok (.iadd, 1) := by decide +kernel
theorem dL_law_204 : decode cL_law 204 = .ok (.iaload, 1) := by decide +kernel
theorem dL_law_205 : decode cL_law 205 = .ok (.aload_n 0, 1) := by decide +kernel
theorem dL_law_206 : decode cL_law 206 = .ok (.iload 4, 2) := by decide +kernel
theorem dL_law_208 : decode cL_law 208 = .ok (.iconst 3, 1) := by decide +kernel
theorem dL_law_209 : decode cL_law 209 = .ok (.iadd, 1) := by decide +kernel
theorem dL_law_210 : decode cL_law 210 = .ok (.iaload, 1) := by decide +kernel
theorem dL_law_211 : decode cL_law 211 = .ok (.aload_n 0, 1) := by decide +kernel
theorem dL_law_212 : decode cL_law 212 = .ok (.iload 4, 2) := by decide +kernel
theorem dL_law_214 : decode cL_law 214 = .ok (.iconst 4, 1) := by decide +kernel
theorem dL_law_215 : decode cL_law 215 = .ok (.iadd, 1) := by decide +kernel
theorem dL_law_216 : decode cL_law 216 = .ok (.iaload, 1) := by decide +kernel
theorem dL_law_217 : decode cL_law 217 = .ok (.aload_n 3, 1) := by decide +kernel
theorem dL_law_218 : decode cL_law 218 = .ok (.invokestatic 96, 3) := by decide +kernel
theorem dL_law_221 : decode cL_law 221 = .ok (.istore 5, 2) := by decide +kernel
theorem dL_law_223 : decode cL_law 223 = .ok (.aload_n 2, 1) := by decide +kernel
theorem dL_law_224 : decode cL_law 224 = .ok (.aload_n 0, 1) := by decide +kernel
theorem dL_law_225 : decode cL_law 225 = .ok (.iload 4, 2) := by decide +kernel
theorem dL_law_227 : decode cL_law 227 = .ok (.iconst 1, 1) := by decide +kernel
theorem dL_law_228 : decode cL_law 228 = .ok (.iadd, 1) := by decide +kernel
theorem dL_law_229 : decode cL_law 229 = .ok (.iaload, 1) := by decide +kernel
theorem dL_law_230 : decode cL_law 230 = .ok (.aload_n 0, 1) := by decide +kernel
theorem dL_law_231 : decode cL_law 231 = .ok (.iload 4, 2) := by decide +kernel
theorem dL_law_233 : decode cL_law 233 = .ok (.iconst 2, 1) := by decide +kernel
theorem dL_law_234 : decode cL_law 234 = .ok (.iadd, 1) := by decide +kernel
theorem dL_law_235 : decode cL_law 235 = .ok (.iaload, 1) := by decide +kernel
theorem dL_law_236 : decode cL_law 236 = .ok (.aload_n 0, 1) := by decide +kernel
theorem dL_law_237 : decode cL_law 237 = .ok (.iload 4, 2) := by decide +kernel
theorem dL_law_239 : decode cL_law 239 = .ok (.iconst 3, 1) := by decide +kernel
theorem dL_law_240 : decode cL_law 240 = .ok (.iadd, 1) := by decide +kernel
theorem dL_law_241 : decode cL_law 241 = .ok (.iaload, 1) := by decide +kernel
theorem dL_law_242 : decode cL_law 242 = .ok (.aload_n 0, 1) := by decide +kernel
theorem dL_law_243 : decode cL_law 243 = .ok (.iload 4, 2) := by decide +kernel
theorem dL_law_245 : decode cL_law 245 = .ok (.iconst 4, 1) := by decide +kernel
theorem dL_law_246 : decode cL_law 246 = .ok (.iadd, 1) := by decide +kernel
theorem dL_law_247 : decode cL_law 247 = .ok (.iaload, 1) := by decide +kernel
theorem dL_law_248 : decode cL_law 248 = .ok (.invokevirtual 99, 3) := by decide +kernel
theorem dL_law_251 : decode cL_law 251 = .ok (.istore 6, 2) := by decide +kernel
theorem dL_law_253 : decode cL_law 253 = .ok (.aload_n 2, 1) := by decide +kernel
theorem dL_law_254 : decode cL_law 254 = .ok (.invokevirtual 92, 3) := by decide +kernel
theorem dL_law_257 : decode cL_law 257 = .ok (.iload 5, 2) := by decide +kernel
theorem dL_law_259 : decode cL_law 259 = .ok (.if_icmp .eq 5, 3) := by decide +kernel
theorem dL_law_262 : decode cL_law 262 = .ok (.iconst 0, 1) := by decide +kernel
theorem dL_law_263 : decode cL_law 263 = .ok (.ireturn, 1) := by decide +kernel
theorem dL_law_264 : decode cL_law 264 = .ok (.iload 5, 2) := by decide +kernel
theorem dL_law_266 : decode cL_law 266 = .ok (.ifCond .ne 15, 3) := by decide +kernel
theorem dL_law_269 : decode cL_law 269 = .ok (.aload_n 3, 1) := by decide +kernel
theorem dL_law_270 : decode cL_law 270 = .ok (.iconst 0, 1) := by decide +kernel
theorem dL_law_271 : decode cL_law 271 = .ok (.laload, 1) := by decide +kernel
theorem dL_law_272 : decode cL_law 272 = .ok (.iload 6, 2) := by decide +kernel
theorem dL_law_274 : decode cL_law 274 = .ok (.i2l, 1) := by decide +kernel
theorem dL_law_275 : decode cL_law 275 = .ok (.lcmp, 1) := by decide +kernel
theorem dL_law_276 : decode cL_law 276 = .ok (.ifCond .eq 5, 3) := by decide +kernel
theorem dL_law_279 : decode cL_law 279 = .ok (.iconst 0, 1) := by decide +kernel
theorem dL_law_280 : decode cL_law 280 = .ok (.ireturn, 1) := by decide +kernel
theorem dL_law_281 : decode cL_law 281 = .ok (.goto 1305, 3) := by decide +kernel
theorem dL_law_284 : decode cL_law 284 = .ok (.aload_n 1, 1) := by decide +kernel
theorem dL_law_285 : decode cL_law 285 = .ok (.aload_n 0, 1) := by decide +kernel
theorem dL_law_286 : decode cL_law 286 = .ok (.iload 4, 2) := by decide +kernel
theorem dL_law_288 : decode cL_law 288 = .ok (.iconst 1, 1) := by decide +kernel
theorem dL_law_289 : decode cL_law 289 = .ok (.iadd, 1) := by decide +kernel
theorem dL_law_290 : decode cL_law 290 = .ok (.iaload, 1) := by decide +kernel
theorem dL_law_291 : decode cL_law 291 = .ok (.aload_n 0, 1) := by decide +kernel
theorem dL_law_292 : decode cL_law 292 = .ok (.iload 4, 2) := by decide +kernel
theorem dL_law_294 : decode cL_law 294 = .ok (.iconst 2, 1) := by decide +kernel
theorem dL_law_295 : decode cL_law 295 = .ok (.iadd, 1) := by decide +kernel
theorem dL_law_296 : decode cL_law 296 = .ok (.iaload, 1) := by decide +kernel
theorem dL_law_297 : decode cL_law 297 = .ok (.aload_n 0, 1) := by decide +kernel
theorem dL_law_298 : decode cL_law 298 = .ok (.iload 4, 2) := by decide +kernel
theorem dL_law_300 : decode cL_law 300 = .ok (.iconst 3, 1) := by decide +kernel
theorem dL_law_301 : decode cL_law 301 = .ok (.iadd, 1) := by decide +kernel
theorem dL_law_302 : decode cL_law 302 = .ok (.iaload, 1) := by decide +kernel
theorem dL_law_303 : decode cL_law 303 = .ok (.aload_n 3, 1) := by decide +kernel
theorem dL_law_304 : decode cL_law 304 = .ok (.invokestatic 100, 3) := by decide +kernel
theorem dL_law_307 : decode cL_law 307 = .ok (.istore 5, 2) := by decide +kernel
theorem dL_law_309 : decode cL_law 309 = .ok (.aload_n 2, 1) := by decide +kernel
theorem dL_law_310 : decode cL_law 310 = .ok (.aload_n 0, 1) := by decide +kernel
theorem dL_law_311 : decode cL_law 311 = .ok (.iload 4, 2) := by decide +kernel
theorem dL_law_313 : decode cL_law 313 = .ok (.iconst 1, 1) := by decide +kernel
theorem dL_law_314 : decode cL_law 314 = .ok (.iadd, 1) := by decide +kernel
theorem dL_law_315 : decode cL_law 315 = .ok (.iaload, 1) := by decide +kernel
theorem dL_law_316 : decode cL_law 316 = .ok (.aload_n 0, 1) := by decide +kernel
theorem dL_law_317 : decode cL_law 317 = .ok (.iload 4, 2) := by decide +kernel
theorem dL_law_319 : decode cL_law 319 = .ok (.iconst 2, 1) := by decide +kernel
theorem dL_law_320 : decode cL_law 320 = .ok (.iadd, 1) := by decide +kernel
theorem dL_law_321 : decode cL_law 321 = .ok (.iaload, 1) := by decide +kernel
theorem dL_law_322 : decode cL_law 322 = .ok (.aload_n 0, 1) := by decide +kernel
theorem dL_law_323 : decode cL_law 323 = .ok (.iload 4, 2) := by decide +kernel
theorem dL_law_325 : decode cL_law 325 = .ok (.iconst 3, 1) := by decide +kernel
theorem dL_law_326 : decode cL_law 326 = .ok (.iadd, 1) := by decide +kernel
theorem dL_law_327 : decode cL_law 327 = .ok (.iaload, 1) := by decide +kernel
theorem dL_law_328 : decode cL_law 328 = .ok (.invokevirtual 103, 3) := by decide +kernel
theorem dL_law_331 : decode cL_law 331 = .ok (.istore 6, 2) := by decide +kernel
theorem dL_law_333 : decode cL_law 333 = .ok (.aload_n 2, 1) := by decide +kernel
theorem dL_law_334 : decode cL_law 334 = .ok (.invokevirtual 92, 3) := by decide +kernel
theorem dL_law_337 : decode cL_law 337 = .ok (.iload 5, 2) := by decide +kernel
theorem dL_law_339 : decode cL_law 339 = .ok (.if_icmp .eq 5, 3) := by decide +kernel
theorem dL_law_342 : decode cL_law 342 = .ok (.iconst 0, 1) := by decide +kernel
theorem dL_law_343 : decode cL_law 343 = .ok (.ireturn, 1) := by decide +kernel
theorem dL_law_344 : decode cL_law 344 = .ok (.iload 5, 2) := by decide +kernel
theorem dL_law_346 : decode cL_law 346 = .ok (.ifCond .ne 15, 3) := by decide +kernel
theorem dL_law_349 : decode cL_law 349 = .ok (.aload_n 3, 1) := by decide +kernel
theorem dL_law_350 : decode cL_law 350 = .ok (.iconst 0, 1) := by decide +kernel
theorem dL_law_351 : decode cL_law 351 = .ok (.laload, 1) := by decide +kernel
theorem dL_law_352 : decode cL_law 352 = .ok (.iload 6, 2) := by decide +kernel
theorem dL_law_354 : decode cL_law 354 = .ok (.i2l, 1) := by decide +kernel
theorem dL_law_355 : decode cL_law 355 = .ok (.lcmp, 1) := by decide +kernel
theorem dL_law_356 : decode cL_law 356 = .ok (.ifCond .eq 5, 3) := by decide +kernel
theorem dL_law_359 : decode cL_law 359 = .ok (.iconst 0, 1) := by decide +kernel
theorem dL_law_360 : decode cL_law 360 = .ok (.ireturn, 1) := by decide +kernel
theorem dL_law_361 : decode cL_law 361 = .ok (.goto 1225, 3) := by decide +kernel
theorem dL_law_364 : decode cL_law 364 = .ok (.aload_n 1, 1) := by decide +kernel
theorem dL_law_365 : decode cL_law 365 = .ok (.aload_n 0, 1) := by decide +kernel
theorem dL_law_366 : decode cL_law 366 = .ok (.iload 4, 2) := by decide +kernel
theorem dL_law_368 : decode cL_law 368 = .ok (.iconst 1, 1) := by decide +kernel
theorem dL_law_369 : decode cL_law 369 = .ok (.iadd, 1) := by decide +kernel
theorem dL_law_370 : decode cL_law 370 = .ok (.iaload, 1) := by decide +kernel
theorem dL_law_371 : decode cL_law 371 = .ok (.aload_n 0, 1) := by decide +kernel
theorem dL_law_372 : decode cL_law 372 = .ok (.iload 4, 2) := by decide +kernel
theorem dL_law_374 : decode cL_law 374 = .ok (.iconst 2, 1) := by decide +kernel
theorem dL_law_375 : decode cL_law 375 = .ok (.iadd, 1) := by decide +kernel
theorem dL_law_376 : decode cL_law 376 = .ok (.iaload, 1) := by decide +kernel
theorem dL_law_377 : decode cL_law 377 = .ok (.aload_n 3, 1) := by decide +kernel
theorem dL_law_378 : decode cL_law 378 = .ok (.invokestatic 104, 3) := by decide +kernel
theorem dL_law_381 : decode cL_law 381 = .ok (.istore 5, 2) := by decide +kernel
theorem dL_law_383 : decode cL_law 383 = .ok (.aload_n 2, 1) := by decide +kernel
theorem dL_law_384 : decode cL_law 384 = .ok (.aload_n 0, 1) := by decide +kernel
theorem dL_law_385 : decode cL_law 385 = .ok (.iload 4, 2) := by decide +kernel
theorem dL_law_387 : decode cL_law 387 = .ok (.iconst 1, 1) := by decide +kernel
theorem dL_law_388 : decode cL_law 388 = .ok (.iadd, 1) := by decide +kernel
theorem dL_law_389 : decode cL_law 389 = .ok (.iaload, 1) := by decide +kernel
theorem dL_law_390 : decode cL_law 390 = .ok (.aload_n 0, 1) := by decide +kernel
theorem dL_law_391 : decode cL_law 391 = .ok (.iload 4, 2) := by decide +kernel
theorem dL_law_393 : decode cL_law 393 = .ok (.iconst 2, 1) := by decide +kernel
theorem dL_law_394 : decode cL_law 394 = .ok (.iadd, 1) := by decide +kernel
theorem dL_law_395 : decode cL_law 395 = .ok (.iaload, 1) := by decide +kernel
theorem dL_law_396 : decode cL_law 396 = .ok (.invokevirtual 107, 3) := by decide +kernel
theorem dL_law_399 : decode cL_law 399 = .ok (.istore 6, 2) := by decide +kernel
theorem dL_law_401 : decode cL_law 401 = .ok (.aload_n 2, 1) := by decide +kernel
theorem dL_law_402 : decode cL_law 402 = .ok (.invokevirtual 92, 3) := by decide +kernel
theorem dL_law_405 : decode cL_law 405 = .ok (.iload 5, 2) := by decide +kernel
theorem dL_law_407 : decode cL_law 407 = .ok (.if_icmp .eq 5, 3) := by decide +kernel
theorem dL_law_410 : decode cL_law 410 = .ok (.iconst 0, 1) := by decide +kernel
theorem dL_law_411 : decode cL_law 411 = .ok (.ireturn, 1) := by decide +kernel
theorem dL_law_412 : decode cL_law 412 = .ok (.iload 5, 2) := by decide +kernel
theorem dL_law_414 : decode cL_law 414 = .ok (.ifCond .ne 15, 3) := by decide +kernel
theorem dL_law_417 : decode cL_law 417 = .ok (.aload_n 3, 1) := by decide +kernel
theorem dL_law_418 : decode cL_law 418 = .ok (.iconst 0, 1) := by decide +kernel
theorem dL_law_419 : decode cL_law 419 = .ok (.laload, 1) := by decide +kernel
theorem dL_law_420 : decode cL_law 420 = .ok (.iload 6, 2) := by decide +kernel
theorem dL_law_422 : decode cL_law 422 = .ok (.i2l, 1) := by decide +kernel
theorem dL_law_423 : decode cL_law 423 = .ok (.lcmp, 1) := by decide +kernel
theorem dL_law_424 : decode cL_law 424 = .ok (.ifCond .eq 5, 3) := by decide +kernel
theorem dL_law_427 : decode cL_law 427 = .ok (.iconst 0, 1) := by decide +kernel
theorem dL_law_428 : decode cL_law 428 = .ok (.ireturn, 1) := by decide +kernel
theorem dL_law_429 : decode cL_law 429 = .ok (.goto 1157, 3) := by decide +kernel
theorem dL_law_432 : decode cL_law 432 = .ok (.aload_n 1, 1) := by decide +kernel
theorem dL_law_433 : decode cL_law 433 = .ok (.aload_n 0, 1) := by decide +kernel
theorem dL_law_434 : decode cL_law 434 = .ok (.iload 4, 2) := by decide +kernel
theorem dL_law_436 : decode cL_law 436 = .ok (.iconst 1, 1) := by decide +kernel
theorem dL_law_437 : decode cL_law 437 = .ok (.iadd, 1) := by decide +kernel
theorem dL_law_438 : decode cL_law 438 = .ok (.iaload, 1) := by decide +kernel
theorem dL_law_439 : decode cL_law 439 = .ok (.aload_n 3, 1) := by decide +kernel
theorem dL_law_440 : decode cL_law 440 = .ok (.invokestatic 108, 3) := by decide +kernel
theorem dL_law_443 : decode cL_law 443 = .ok (.istore 5, 2) := by decide +kernel
theorem dL_law_445 : decode cL_law 445 = .ok (.aload_n 2, 1) := by decide +kernel
theorem dL_law_446 : decode cL_law 446 = .ok (.aload_n 0, 1) := by decide +kernel
theorem dL_law_447 : decode cL_law 447 = .ok (.iload 4, 2) := by decide +kernel
theorem dL_law_449 : decode cL_law 449 = .ok (.iconst 1, 1) := by decide +kernel
theorem dL_law_450 : decode cL_law 450 = .ok (.iadd, 1) := by decide +kernel
theorem dL_law_451 : decode cL_law 451 = .ok (.iaload, 1) := by decide +kernel
theorem dL_law_452 : decode cL_law 452 = .ok (.invokevirtual 110, 3) := by decide +kernel
theorem dL_law_455 : decode cL_law 455 = .ok (.istore 6, 2) := by decide +kernel
theorem dL_law_457 : decode cL_law 457 = .ok (.aload_n 2, 1) := by decide +kernel
theorem dL_law_458 : decode cL_law 458 = .ok (.invokevirtual 92, 3) := by decide +kernel
theorem dL_law_461 : decode cL_law 461 = .ok (.iload 5, 2) := by decide +kernel
theorem dL_law_463 : decode cL_law 463 = .ok (.if_icmp .eq 5, 3) := by decide +kernel
theorem dL_law_466 : decode cL_law 466 = .ok (.iconst 0, 1) := by decide +kernel
theorem dL_law_467 : decode cL_law 467 = .ok (.ireturn, 1) := by decide +kernel
theorem dL_law_468 : decode cL_law 468 = .ok (.iload 5, 2) := by decide +kernel
theorem dL_law_470 : decode cL_law 470 = .ok (.ifCond .ne 15, 3) := by decide +kernel
theorem dL_law_473 : decode cL_law 473 = .ok (.aload_n 3, 1) := by decide +kernel
theorem dL_law_474 : decode cL_law 474 = .ok (.iconst 0, 1) := by decide +kernel
theorem dL_law_475 : decode cL_law 475 = .ok (.laload, 1) := by decide +kernel
theorem dL_law_476 : decode cL_law 476 = .ok (.iload 6, 2) := by decide +kernel
theorem dL_law_478 : decode cL_law 478 = .ok (.i2l, 1) := by decide +kernel
theorem dL_law_479 : decode cL_law 479 = .ok (.lcmp, 1) := by decide +kernel
theorem dL_law_480 : decode cL_law 480 = .ok (.ifCond .eq 5, 3) := by decide +kernel
theorem dL_law_483 : decode cL_law 483 = .ok (.iconst 0, 1) := by decide +kernel
theorem dL_law_484 : decode cL_law 484 = .ok (.ireturn, 1) := by decide +kernel
theorem dL_law_485 : decode cL_law 485 = .ok (.goto 1101, 3) := by decide +kernel
theorem dL_law_488 : decode cL_law 488 = .ok (.aload_n 1, 1) := by decide +kernel
theorem dL_law_489 : decode cL_law 489 = .ok (.aload_n 0, 1) := by decide +kernel
theorem dL_law_490 : decode cL_law 490 = .ok (.iload 4, 2) := by decide +kernel
theorem dL_law_492 : decode cL_law 492 = .ok (.iconst 1, 1) := by decide +kernel
theorem dL_law_493 : decode cL_law 493 = .ok (.iadd, 1) := by decide +kernel
theorem dL_law_494 : decode cL_law 494 = .ok (.iaload, 1) := by decide +kernel
theorem dL_law_495 : decode cL_law 495 = .ok (.aload_n 0, 1) := by decide +kernel
theorem dL_law_496 : decode cL_law 496 = .ok (.iload 4, 2) := by decide +kernel
theorem dL_law_498 : decode cL_law 498 = .ok (.iconst 2, 1) := by decide +kernel
theorem dL_law_499 : decode cL_law 499 = .ok (.iadd, 1) := by decide +kernel
theorem dL_law_500 : decode cL_law 500 = .ok (.iaload, 1) := by decide +kernel
theorem dL_law_501 : decode cL_law 501 = .ok (.aload_n 0, 1) := by decide +kernel
theorem dL_law_502 : decode cL_law 502 = .ok (.iload 4, 2) := by decide +kernel
theorem dL_law_504 : decode cL_law 504 = .ok (.iconst 3, 1) := by decide +kernel
theorem dL_law_505 : decode cL_law 505 = .ok (.iadd, 1) := by decide +kernel
theorem dL_law_506 : decode cL_law 506 = .ok (.iaload, 1) := by decide +kernel
theorem dL_law_507 : decode cL_law 507 = .ok (.aload_n 3, 1) := by decide +kernel
theorem dL_law_508 : decode cL_law 508 = .ok (.invokestatic 111, 3) := by decide +kernel
theorem dL_law_511 : decode cL_law 511 = .ok (.istore 5, 2) := by decide +kernel
theorem dL_law_513 : decode cL_law 513 = .ok (.aload_n 2, 1) := by decide +kernel
theorem dL_law_514 : decode cL_law 514 = .ok (.aload_n 0, 1) := by decide +kernel
theorem dL_law_515 : decode cL_law 515 = .ok (.iload 4, 2) := by decide +kernel
theorem dL_law_517 : decode cL_law 517 = .ok (.iconst 1, 1) := by decide +kernel
theorem dL_law_518 : decode cL_law 518 = .ok (.iadd, 1) := by decide +kernel
theorem dL_law_519 : decode cL_law 519 = .ok (.iaload, 1) := by decide +kernel
theorem dL_law_520 : decode cL_law 520 = .ok (.aload_n 0, 1) := by decide +kernel
theorem dL_law_521 : decode cL_law 521 = .ok (.iload 4, 2) := by decide +kernel
theorem dL_law_523 : decode cL_law 523 = .ok (.iconst 2, 1) := by decide +kernel
theorem dL_law_524 : decode cL_law 524 = .ok (.iadd, 1) := by decide +kernel
theorem dL_law_525 : decode cL_law 525 = .ok (.iaload, 1) := by decide +kernel
theorem dL_law_526 : decode cL_law 526 = .ok (.aload_n 0, 1) := by decide +kernel
theorem dL_law_527 : decode cL_law 527 = .ok (.iload 4, 2) := by decide +kernel
theorem dL_law_529 : decode cL_law 529 = .ok (.iconst 3, 1) := by decide +kernel
theorem dL_law_530 : decode cL_law 530 = .ok (.iadd, 1) := by decide +kernel
theorem dL_law_531 : decode cL_law 531 = .ok (.iaload, 1) := by decide +kernel
theorem dL_law_532 : decode cL_law 532 = .ok (.invokevirtual 113, 3) := by decide +kernel
theorem dL_law_535 : decode cL_law 535 = .ok (.istore 6, 2) := by decide +kernel
theorem dL_law_537 : decode cL_law 537 = .ok (.aload_n 2, 1) := by decide +kernel
theorem dL_law_538 : decode cL_law 538 = .ok (.invokevirtual 92, 3) := by decide +kernel
theorem dL_law_541 : decode cL_law 541 = .ok (.iload 5, 2) := by decide +kernel
theorem dL_law_543 : decode cL_law 543 = .ok (.if_icmp .eq 5, 3) := by decide +kernel
theorem dL_law_546 : decode cL_law 546 = .ok (.iconst 0, 1) := by decide +kernel
theorem dL_law_547 : decode cL_law 547 = .ok (.ireturn, 1) := by decide +kernel
theorem dL_law_548 : decode cL_law 548 = .ok (.iload 5, 2) := by decide +kernel
theorem dL_law_550 : decode cL_law 550 = .ok (.ifCond .ne 15, 3) := by decide +kernel
theorem dL_law_553 : decode cL_law 553 = .ok (.aload_n 3, 1) := by decide +kernel
theorem dL_law_554 : decode cL_law 554 = .ok (.iconst 0, 1) := by decide +kernel
theorem dL_law_555 : decode cL_law 555 = .ok (.laload, 1) := by decide +kernel
theorem dL_law_556 : decode cL_law 556 = .ok (.iload 6, 2) := by decide +kernel
theorem dL_law_558 : decode cL_law 558 = .ok (.i2l, 1) := by decide +kernel
theorem dL_law_559 : decode cL_law 559 = .ok (.lcmp, 1) := by decide +kernel
theorem dL_law_560 : decode cL_law 560 = .ok (.ifCond .eq 5, 3) := by decide +kernel
theorem dL_law_563 : decode cL_law 563 = .ok (.iconst 0, 1) := by decide +kernel
theorem dL_law_564 : decode cL_law 564 = .ok (.ireturn, 1) := by decide +kernel
theorem dL_law_565 : decode cL_law 565 = .ok (.goto 1021, 3) := by decide +kernel
theorem dL_law_568 : decode cL_law 568 = .ok (.aload_n 1, 1) := by decide +kernel
theorem dL_law_569 : decode cL_law 569 = .ok (.aload_n 0, 1) := by decide +kernel
theorem dL_law_570 : decode cL_law 570 = .ok (.iload 4, 2) := by decide +kernel
theorem dL_law_572 : decode cL_law 572 = .ok (.iconst 1, 1) := by decide +kernel
theorem dL_law_573 : decode cL_law 573 = .ok (.iadd, 1) := by decide +kernel
theorem dL_law_574 : decode cL_law 574 = .ok (.iaload, 1) := by decide +kernel
theorem dL_law_575 : decode cL_law 575 = .ok (.aload_n 0, 1) := by decide +kernel
theorem dL_law_576 : decode cL_law 576 = .ok (.iload 4, 2) := by decide +kernel
theorem dL_law_578 : decode cL_law 578 = .ok (.iconst 2, 1) := by decide +kernel
theorem dL_law_579 : decode cL_law 579 = .ok (.iadd, 1) := by decide +kernel
theorem dL_law_580 : decode cL_law 580 = .ok (.iaload, 1) := by decide +kernel
theorem dL_law_581 : decode cL_law 581 = .ok (.aload_n 0, 1) := by decide +kernel
theorem dL_law_582 : decode cL_law 582 = .ok (.iload 4, 2) := by decide +kernel
theorem dL_law_584 : decode cL_law 584 = .ok (.iconst 3, 1) := by decide +kernel
theorem dL_law_585 : decode cL_law 585 = .ok (.iadd, 1) := by decide +kernel
theorem dL_law_586 : decode cL_law 586 = .ok (.iaload, 1) := by decide +kernel
theorem dL_law_587 : decode cL_law 587 = .ok (.aload_n 3, 1) := by decide +kernel
theorem dL_law_588 : decode cL_law 588 = .ok (.invokestatic 114, 3) := by decide +kernel
theorem dL_law_591 : decode cL_law 591 = .ok (.istore 5, 2) := by decide +kernel
theorem dL_law_593 : decode cL_law 593 = .ok (.aload_n 2, 1) := by decide +kernel
theorem dL_law_594 : decode cL_law 594 = .ok (.aload_n 0, 1) := by decide +kernel
theorem dL_law_595 : decode cL_law 595 = .ok (.iload 4, 2) := by decide +kernel
theorem dL_law_597 : decode cL_law 597 = .ok (.iconst 1, 1) := by decide +kernel
theorem dL_law_598 : decode cL_law 598 = .ok (.iadd, 1) := by decide +kernel
theorem dL_law_599 : decode cL_law 599 = .ok (.iaload, 1) := by decide +kernel
theorem dL_law_600 : decode cL_law 600 = .ok (.aload_n 0, 1) := by decide +kernel
theorem dL_law_601 : decode cL_law 601 = .ok (.iload 4, 2) := by decide +kernel
theorem dL_law_603 : decode cL_law 603 = .ok (.iconst 2, 1) := by decide +kernel
theorem dL_law_604 : decode cL_law 604 = .ok (.iadd, 1) := by decide +kernel
theorem dL_law_605 : decode cL_law 605 = .ok (.iaload, 1) := by decide +kernel
theorem dL_law_606 : decode cL_law 606 = .ok (.aload_n 0, 1) := by decide +kernel
theorem dL_law_607 : decode cL_law 607 = .ok (.iload 4, 2) := by decide +kernel
theorem dL_law_609 : decode cL_law 609 = .ok (.iconst 3, 1) := by decide +kernel
theorem dL_law_610 : decode cL_law 610 = .ok (.iadd, 1) := by decide +kernel
theorem dL_law_611 : decode cL_law 611 = .ok (.iaload, 1) := by decide +kernel
theorem dL_law_612 : decode cL_law 612 = .ok (.invokevirtual 116, 3) := by decide +kernel
theorem dL_law_615 : decode cL_law 615 = .ok (.istore 6, 2) := by decide +kernel
theorem dL_law_617 : decode cL_law 617 = .ok (.aload_n 2, 1) := by decide +kernel
theorem dL_law_618 : decode cL_law 618 = .ok (.invokevirtual 92, 3) := by decide +kernel
theorem dL_law_621 : decode cL_law 621 = .ok (.iload 5, 2) := by decide +kernel
theorem dL_law_623 : decode cL_law 623 = .ok (.if_icmp .eq 5, 3) := by decide +kernel
theorem dL_law_626 : decode cL_law 626 = .ok (.iconst 0, 1) := by decide +kernel
theorem dL_law_627 : decode cL_law 627 = .ok (.ireturn, 1) := by decide +kernel
theorem dL_law_628 : decode cL_law 628 = .ok (.iload 5, 2) := by decide +kernel
theorem dL_law_630 : decode cL_law 630 = .ok (.ifCond .ne 15, 3) := by decide +kernel
theorem dL_law_633 : decode cL_law 633 = .ok (.aload_n 3, 1) := by decide +kernel
theorem dL_law_634 : decode cL_law 634 = .ok (.iconst 0, 1) := by decide +kernel
theorem dL_law_635 : decode cL_law 635 = .ok (.laload, 1) := by decide +kernel
theorem dL_law_636 : decode cL_law 636 = .ok (.iload 6, 2) := by decide +kernel
theorem dL_law_638 : decode cL_law 638 = .ok (.i2l, 1) := by decide +kernel
theorem dL_law_639 : decode cL_law 639 = .ok (.lcmp, 1) := by decide +kernel
theorem dL_law_640 : decode cL_law 640 = .ok (.ifCond .eq 5, 3) := by decide +kernel
theorem dL_law_643 : decode cL_law 643 = .ok (.iconst 0, 1) := by decide +kernel
theorem dL_law_644 : decode cL_law 644 = .ok (.ireturn, 1) := by decide +kernel
theorem dL_law_645 : decode cL_law 645 = .ok (.goto 941, 3) := by decide +kernel
theorem dL_law_648 : decode cL_law 648 = .ok (.aload_n 1, 1) := by decide +kernel
theorem dL_law_649 : decode cL_law 649 = .ok (.aload_n 0, 1) := by decide +kernel
theorem dL_law_650 : decode cL_law 650 = .ok (.iload 4, 2) := by decide +kernel
theorem dL_law_652 : decode cL_law 652 = .ok (.iconst 1, 1) := by decide +kernel
theorem dL_law_653 : decode cL_law 653 = .ok (.iadd, 1) := by decide +kernel
theorem dL_law_654 : decode cL_law 654 = .ok (.iaload, 1) := by decide +kernel
theorem dL_law_655 : decode cL_law 655 = .ok (.aload_n 0, 1) := by decide +kernel
theorem dL_law_656 : decode cL_law 656 = .ok (.iload 4, 2) := by decide +kernel
theorem dL_law_658 : decode cL_law 658 = .ok (.iconst 2, 1) := by decide +kernel
theorem dL_law_659 : decode cL_law 659 = .ok (.iadd, 1) := by decide +kernel
theorem dL_law_660 : decode cL_law 660 = .ok (.iaload, 1) := by decide +kernel
theorem dL_law_661 : decode cL_law 661 = .ok (.aload_n 3, 1) := by decide +kernel
theorem dL_law_662 : decode cL_law 662 = .ok (.invokestatic 117, 3) := by decide +kernel
theorem dL_law_665 : decode cL_law 665 = .ok (.istore 5, 2) := by decide +kernel
theorem dL_law_667 : decode cL_law 667 = .ok (.aload_n 2, 1) := by decide +kernel
theorem dL_law_668 : decode cL_law 668 = .ok (.aload_n 0, 1) := by decide +kernel
theorem dL_law_669 : decode cL_law 669 = .ok (.iload 4, 2) := by decide +kernel
theorem dL_law_671 : decode cL_law 671 = .ok (.iconst 1, 1) := by decide +kernel
theorem dL_law_672 : decode cL_law 672 = .ok (.iadd, 1) := by decide +kernel
theorem dL_law_673 : decode cL_law 673 = .ok (.iaload, 1) := by decide +kernel
theorem dL_law_674 : decode cL_law 674 = .ok (.aload_n 0, 1) := by decide +kernel
theorem dL_law_675 : decode cL_law 675 = .ok (.iload 4, 2) := by decide +kernel
theorem dL_law_677 : decode cL_law 677 = .ok (.iconst 2, 1) := by decide +kernel
theorem dL_law_678 : decode cL_law 678 = .ok (.iadd, 1) := by decide +kernel
theorem dL_law_679 : decode cL_law 679 = .ok (.iaload, 1) := by decide +kernel
theorem dL_law_680 : decode cL_law 680 = .ok (.invokevirtual 119, 3) := by decide +kernel
theorem dL_law_683 : decode cL_law 683 = .ok (.istore 6, 2) := by decide +kernel
theorem dL_law_685 : decode cL_law 685 = .ok (.aload_n 2, 1) := by decide +kernel
theorem dL_law_686 : decode cL_law 686 = .ok (.invokevirtual 92, 3) := by decide +kernel
theorem dL_law_689 : decode cL_law 689 = .ok (.iload 5, 2) := by decide +kernel
theorem dL_law_691 : decode cL_law 691 = .ok (.if_icmp .eq 5, 3) := by decide +kernel
theorem dL_law_694 : decode cL_law 694 = .ok (.iconst 0, 1) := by decide +kernel
theorem dL_law_695 : decode cL_law 695 = .ok (.ireturn, 1) := by decide +kernel
theorem dL_law_696 : decode cL_law 696 = .ok (.iload 5, 2) := by decide +kernel
theorem dL_law_698 : decode cL_law 698 = .ok (.ifCond .ne 22, 3) := by decide +kernel
theorem dL_law_701 : decode cL_law 701 = .ok (.aload_n 3, 1) := by decide +kernel
theorem dL_law_702 : decode cL_law 702 = .ok (.iconst 0, 1) := by decide +kernel
theorem dL_law_703 : decode cL_law 703 = .ok (.laload, 1) := by decide +kernel
theorem dL_law_704 : decode cL_law 704 = .ok (.iload 6, 2) := by decide +kernel
theorem dL_law_706 : decode cL_law 706 = .ok (.ifCond .eq 7, 3) := by decide +kernel
theorem dL_law_709 : decode cL_law 709 = .ok (.lconst 1, 1) := by decide +kernel
theorem dL_law_710 : decode cL_law 710 = .ok (.goto 4, 3) := by decide +kernel
theorem dL_law_713 : decode cL_law 713 = .ok (.lconst 0, 1) := by decide +kernel
theorem dL_law_714 : decode cL_law 714 = .ok (.lcmp, 1) := by decide +kernel
theorem dL_law_715 : decode cL_law 715 = .ok (.ifCond .eq 5, 3) := by decide +kernel
theorem dL_law_718 : decode cL_law 718 = .ok (.iconst 0, 1) := by decide +kernel
theorem dL_law_719 : decode cL_law 719 = .ok (.ireturn, 1) := by decide +kernel
theorem dL_law_720 : decode cL_law 720 = .ok (.goto 866, 3) := by decide +kernel
theorem dL_law_723 : decode cL_law 723 = .ok (.aload_n 1, 1) := by decide +kernel
theorem dL_law_724 : decode cL_law 724 = .ok (.aload_n 0, 1) := by decide +kernel
theorem dL_law_725 : decode cL_law 725 = .ok (.iload 4, 2) := by decide +kernel
theorem dL_law_727 : decode cL_law 727 = .ok (.iconst 1, 1) := by decide +kernel
theorem dL_law_728 : decode cL_law 728 = .ok (.iadd, 1) := by decide +kernel
theorem dL_law_729 : decode cL_law 729 = .ok (.iaload, 1) := by decide +kernel
theorem dL_law_730 : decode cL_law 730 = .ok (.aload_n 0, 1) := by decide +kernel
theorem dL_law_731 : decode cL_law 731 = .ok (.iload 4, 2) := by decide +kernel
theorem dL_law_733 : decode cL_law 733 = .ok (.iconst 2, 1) := by decide +kernel
theorem dL_law_734 : decode cL_law 734 = .ok (.iadd, 1) := by decide +kernel
theorem dL_law_735 : decode cL_law 735 = .ok (.iaload, 1) := by decide +kernel
theorem dL_law_736 : decode cL_law 736 = .ok (.aload_n 0, 1) := by decide +kernel
theorem dL_law_737 : decode cL_law 737 = .ok (.iload 4, 2) := by decide +kernel
theorem dL_law_739 : decode cL_law 739 = .ok (.iconst 3, 1) := by decide +kernel
theorem dL_law_740 : decode cL_law 740 = .ok (.iadd, 1) := by decide +kernel
theorem dL_law_741 : decode cL_law 741 = .ok (.iaload, 1) := by decide +kernel
theorem dL_law_742 : decode cL_law 742 = .ok (.aload_n 3, 1) := by decide +kernel
theorem dL_law_743 : decode cL_law 743 = .ok (.invokestatic 120, 3) := by decide +kernel
theorem dL_law_746 : decode cL_law 746 = .ok (.istore 5, 2) := by decide +kernel
theorem dL_law_748 : decode cL_law 748 = .ok (.aload_n 2, 1) := by decide +kernel
theorem dL_law_749 : decode cL_law 749 = .ok (.aload_n 0, 1) := by decide +kernel
theorem dL_law_750 : decode cL_law 750 = .ok (.iload 4, 2) := by decide +kernel
theorem dL_law_752 : decode cL_law 752 = .ok (.iconst 1, 1) := by decide +kernel
theorem dL_law_753 : decode cL_law 753 = .ok (.iadd, 1) := by decide +kernel
theorem dL_law_754 : decode cL_law 754 = .ok (.iaload, 1) := by decide +kernel
theorem dL_law_755 : decode cL_law 755 = .ok (.aload_n 0, 1) := by decide +kernel
theorem dL_law_756 : decode cL_law 756 = .ok (.iload 4, 2) := by decide +kernel
theorem dL_law_758 : decode cL_law 758 = .ok (.iconst 2, 1) := by decide +kernel
theorem dL_law_759 : decode cL_law 759 = .ok (.iadd, 1) := by decide +kernel
theorem dL_law_760 : decode cL_law 760 = .ok (.iaload, 1) := by decide +kernel
theorem dL_law_761 : decode cL_law 761 = .ok (.aload_n 0, 1) := by decide +kernel
theorem dL_law_762 : decode cL_law 762 = .ok (.iload 4, 2) := by decide +kernel
theorem dL_law_764 : decode cL_law 764 = .ok (.iconst 3, 1) := by decide +kernel
theorem dL_law_765 : decode cL_law 765 = .ok (.iadd, 1) := by decide +kernel
theorem dL_law_766 : decode cL_law 766 = .ok (.iaload, 1) := by decide +kernel
theorem dL_law_767 : decode cL_law 767 = .ok (.invokevirtual 122, 3) := by decide +kernel
theorem dL_law_770 : decode cL_law 770 = .ok (.istore 6, 2) := by decide +kernel
theorem dL_law_772 : decode cL_law 772 = .ok (.aload_n 2, 1) := by decide +kernel
theorem dL_law_773 : decode cL_law 773 = .ok (.invokevirtual 92, 3) := by decide +kernel
theorem dL_law_776 : decode cL_law 776 = .ok (.iload 5, 2) := by decide +kernel
theorem dL_law_778 : decode cL_law 778 = .ok (.if_icmp .eq 5, 3) := by decide +kernel
theorem dL_law_781 : decode cL_law 781 = .ok (.iconst 0, 1) := by decide +kernel
theorem dL_law_782 : decode cL_law 782 = .ok (.ireturn, 1) := by decide +kernel
theorem dL_law_783 : decode cL_law 783 = .ok (.iload 5, 2) := by decide +kernel
theorem dL_law_785 : decode cL_law 785 = .ok (.ifCond .ne 15, 3) := by decide +kernel
theorem dL_law_788 : decode cL_law 788 = .ok (.aload_n 3, 1) := by decide +kernel
theorem dL_law_789 : decode cL_law 789 = .ok (.iconst 0, 1) := by decide +kernel
theorem dL_law_790 : decode cL_law 790 = .ok (.laload, 1) := by decide +kernel
theorem dL_law_791 : decode cL_law 791 = .ok (.iload 6, 2) := by decide +kernel
theorem dL_law_793 : decode cL_law 793 = .ok (.i2l, 1) := by decide +kernel
theorem dL_law_794 : decode cL_law 794 = .ok (.lcmp, 1) := by decide +kernel
theorem dL_law_795 : decode cL_law 795 = .ok (.ifCond .eq 5, 3) := by decide +kernel
theorem dL_law_798 : decode cL_law 798 = .ok (.iconst 0, 1) := by decide +kernel
theorem dL_law_799 : decode cL_law 799 = .ok (.ireturn, 1) := by decide +kernel
theorem dL_law_800 : decode cL_law 800 = .ok (.goto 786, 3) := by decide +kernel
theorem dL_law_803 : decode cL_law 803 = .ok (.aload_n 1, 1) := by decide +kernel
theorem dL_law_804 : decode cL_law 804 = .ok (.aload_n 0, 1) := by decide +kernel
theorem dL_law_805 : decode cL_law 805 = .ok (.iload 4, 2) := by decide +kernel
theorem dL_law_807 : decode cL_law 807 = .ok (.iconst 1, 1) := by decide +kernel
theorem dL_law_808 : decode cL_law 808 = .ok (.iadd, 1) := by decide +kernel
theorem dL_law_809 : decode cL_law 809 = .ok (.iaload, 1) := by decide +kernel
theorem dL_law_810 : decode cL_law 810 = .ok (.aload_n 3, 1) := by decide +kernel
theorem dL_law_811 : decode cL_law 811 = .ok (.invokestatic 123, 3) := by decide +kernel
theorem dL_law_814 : decode cL_law 814 = .ok (.istore 5, 2) := by decide +kernel
theorem dL_law_816 : decode cL_law 816 = .ok (.aload_n 2, 1) := by decide +kernel
theorem dL_law_817 : decode cL_law 817 = .ok (.aload_n 0, 1) := by decide +kernel
theorem dL_law_818 : decode cL_law 818 = .ok (.iload 4, 2) := by decide +kernel
theorem dL_law_820 : decode cL_law 820 = .ok (.iconst 1, 1) := by decide +kernel
theorem dL_law_821 : decode cL_law 821 = .ok (.iadd, 1) := by decide +kernel
theorem dL_law_822 : decode cL_law 822 = .ok (.iaload, 1) := by decide +kernel
theorem dL_law_823 : decode cL_law 823 = .ok (.invokevirtual 125, 3) := by decide +kernel
theorem dL_law_826 : decode cL_law 826 = .ok (.istore 6, 2) := by decide +kernel
theorem dL_law_828 : decode cL_law 828 = .ok (.aload_n 2, 1) := by decide +kernel
theorem dL_law_829 : decode cL_law 829 = .ok (.invokevirtual 92, 3) := by decide +kernel
theorem dL_law_832 : decode cL_law 832 = .ok (.iload 5, 2) := by decide +kernel
theorem dL_law_834 : decode cL_law 834 = .ok (.if_icmp .eq 5, 3) := by decide +kernel
theorem dL_law_837 : decode cL_law 837 = .ok (.iconst 0, 1) := by decide +kernel
theorem dL_law_838 : decode cL_law 838 = .ok (.ireturn, 1) := by decide +kernel
theorem dL_law_839 : decode cL_law 839 = .ok (.iload 5, 2) := by decide +kernel
theorem dL_law_841 : decode cL_law 841 = .ok (.ifCond .ne 15, 3) := by decide +kernel
theorem dL_law_844 : decode cL_law 844 = .ok (.aload_n 3, 1) := by decide +kernel
theorem dL_law_845 : decode cL_law 845 = .ok (.iconst 0, 1) := by decide +kernel
theorem dL_law_846 : decode cL_law 846 = .ok (.laload, 1) := by decide +kernel
theorem dL_law_847 : decode cL_law 847 = .ok (.iload 6, 2) := by decide +kernel
theorem dL_law_849 : decode cL_law 849 = .ok (.i2l, 1) := by decide +kernel
theorem dL_law_850 : decode cL_law 850 = .ok (.lcmp, 1) := by decide +kernel
theorem dL_law_851 : decode cL_law 851 = .ok (.ifCond .eq 5, 3) := by decide +kernel
theorem dL_law_854 : decode cL_law 854 = .ok (.iconst 0, 1) := by decide +kernel
theorem dL_law_855 : decode cL_law 855 = .ok (.ireturn, 1) := by decide +kernel
theorem dL_law_856 : decode cL_law 856 = .ok (.goto 730, 3) := by decide +kernel
theorem dL_law_859 : decode cL_law 859 = .ok (.aload_n 1, 1) := by decide +kernel
theorem dL_law_860 : decode cL_law 860 = .ok (.invokevirtual 126, 3) := by decide +kernel
theorem dL_law_863 : decode cL_law 863 = .ok (.aload_n 2, 1) := by decide +kernel
theorem dL_law_864 : decode cL_law 864 = .ok (.invokevirtual 129, 3) := by decide +kernel
theorem dL_law_867 : decode cL_law 867 = .ok (.if_icmp .eq 719, 3) := by decide +kernel
theorem dL_law_870 : decode cL_law 870 = .ok (.iconst 0, 1) := by decide +kernel
theorem dL_law_871 : decode cL_law 871 = .ok (.ireturn, 1) := by decide +kernel
theorem dL_law_872 : decode cL_law 872 = .ok (.aload_n 1, 1) := by decide +kernel
theorem dL_law_873 : decode cL_law 873 = .ok (.aload_n 0, 1) := by decide +kernel
theorem dL_law_874 : decode cL_law 874 = .ok (.iload 4, 2) := by decide +kernel
theorem dL_law_876 : decode cL_law 876 = .ok (.iconst 1, 1) := by decide +kernel
theorem dL_law_877 : decode cL_law 877 = .ok (.iadd, 1) := by decide +kernel
theorem dL_law_878 : decode cL_law 878 = .ok (.iaload, 1) := by decide +kernel
theorem dL_law_879 : decode cL_law 879 = .ok (.aload_n 3, 1) := by decide +kernel
theorem dL_law_880 : decode cL_law 880 = .ok (.invokestatic 130, 3) := by decide +kernel
theorem dL_law_883 : decode cL_law 883 = .ok (.istore 5, 2) := by decide +kernel
theorem dL_law_885 : decode cL_law 885 = .ok (.aload_n 2, 1) := by decide +kernel
theorem dL_law_886 : decode cL_law 886 = .ok (.aload_n 0, 1) := by decide +kernel
theorem dL_law_887 : decode cL_law 887 = .ok (.iload 4, 2) := by decide +kernel
theorem dL_law_889 : decode cL_law 889 = .ok (.iconst 1, 1) := by decide +kernel
theorem dL_law_890 : decode cL_law 890 = .ok (.iadd, 1) := by decide +kernel
theorem dL_law_891 : decode cL_law 891 = .ok (.iaload, 1) := by decide +kernel
theorem dL_law_892 : decode cL_law 892 = .ok (.invokevirtual 132, 3) := by decide +kernel
theorem dL_law_895 : decode cL_law 895 = .ok (.istore 6, 2) := by decide +kernel
theorem dL_law_897 : decode cL_law 897 = .ok (.aload_n 2, 1) := by decide +kernel
theorem dL_law_898 : decode cL_law 898 = .ok (.invokevirtual 92, 3) := by decide +kernel
theorem dL_law_901 : decode cL_law 901 = .ok (.iload 5, 2) := by decide +kernel
theorem dL_law_903 : decode cL_law 903 = .ok (.if_icmp .eq 5, 3) := by decide +kernel
theorem dL_law_906 : decode cL_law 906 = .ok (.iconst 0, 1) := by decide +kernel
theorem dL_law_907 : decode cL_law 907 = .ok (.ireturn, 1) := by decide +kernel
theorem dL_law_908 : decode cL_law 908 = .ok (.iload 5, 2) := by decide +kernel
theorem dL_law_910 : decode cL_law 910 = .ok (.ifCond .ne 15, 3) := by decide +kernel
theorem dL_law_913 : decode cL_law 913 = .ok (.aload_n 3, 1) := by decide +kernel
theorem dL_law_914 : decode cL_law 914 = .ok (.iconst 0, 1) := by decide +kernel
theorem dL_law_915 : decode cL_law 915 = .ok (.laload, 1) := by decide +kernel
theorem dL_law_916 : decode cL_law 916 = .ok (.iload 6, 2) := by decide +kernel
theorem dL_law_918 : decode cL_law 918 = .ok (.i2l, 1) := by decide +kernel
theorem dL_law_919 : decode cL_law 919 = .ok (.lcmp, 1) := by decide +kernel
theorem dL_law_920 : decode cL_law 920 = .ok (.ifCond .eq 5, 3) := by decide +kernel
theorem dL_law_923 : decode cL_law 923 = .ok (.iconst 0, 1) := by decide +kernel
theorem dL_law_924 : decode cL_law 924 = .ok (.ireturn, 1) := by decide +kernel
theorem dL_law_925 : decode cL_law 925 = .ok (.goto 661, 3) := by decide +kernel
theorem dL_law_928 : decode cL_law 928 = .ok (.aload_n 1, 1) := by decide +kernel
theorem dL_law_929 : decode cL_law 929 = .ok (.aload_n 0, 1) := by decide +kernel
theorem dL_law_930 : decode cL_law 930 = .ok (.iload 4, 2) := by decide +kernel
theorem dL_law_932 : decode cL_law 932 = .ok (.iconst 1, 1) := by decide +kernel
theorem dL_law_933 : decode cL_law 933 = .ok (.iadd, 1) := by decide +kernel
theorem dL_law_934 : decode cL_law 934 = .ok (.iaload, 1) := by decide +kernel
theorem dL_law_935 : decode cL_law 935 = .ok (.aload_n 0, 1) := by decide +kernel
theorem dL_law_936 : decode cL_law 936 = .ok (.iload 4, 2) := by decide +kernel
theorem dL_law_938 : decode cL_law 938 = .ok (.iconst 2, 1) := by decide +kernel
theorem dL_law_939 : decode cL_law 939 = .ok (.iadd, 1) := by decide +kernel
theorem dL_law_940 : decode cL_law 940 = .ok (.iaload, 1) := by decide +kernel
theorem dL_law_941 : decode cL_law 941 = .ok (.aload_n 0, 1) := by decide +kernel
theorem dL_law_942 : decode cL_law 942 = .ok (.iload 4, 2) := by decide +kernel
theorem dL_law_944 : decode cL_law 944 = .ok (.iconst 3, 1) := by decide +kernel
theorem dL_law_945 : decode cL_law 945 = .ok (.iadd, 1) := by decide +kernel
theorem dL_law_946 : decode cL_law 946 = .ok (.iaload, 1) := by decide +kernel
theorem dL_law_947 : decode cL_law 947 = .ok (.aload_n 0, 1) := by decide +kernel
theorem dL_law_948 : decode cL_law 948 = .ok (.iload 4, 2) := by decide +kernel
theorem dL_law_950 : decode cL_law 950 = .ok (.iconst 4, 1) := by decide +kernel
theorem dL_law_951 : decode cL_law 951 = .ok (.iadd, 1) := by decide +kernel
theorem dL_law_952 : decode cL_law 952 = .ok (.iaload, 1) := by decide +kernel
theorem dL_law_953 : decode cL_law 953 = .ok (.aload_n 3, 1) := by decide +kernel
theorem dL_law_954 : decode cL_law 954 = .ok (.invokestatic 133, 3) := by decide +kernel
theorem dL_law_957 : decode cL_law 957 = .ok (.istore 5, 2) := by decide +kernel
theorem dL_law_959 : decode cL_law 959 = .ok (.aload_n 2, 1) := by decide +kernel
theorem dL_law_960 : decode cL_law 960 = .ok (.aload_n 0, 1) := by decide +kernel
theorem dL_law_961 : decode cL_law 961 = .ok (.iload 4, 2) := by decide +kernel
theorem dL_law_963 : decode cL_law 963 = .ok (.iconst 1, 1) := by decide +kernel
theorem dL_law_964 : decode cL_law 964 = .ok (.iadd, 1) := by decide +kernel
theorem dL_law_965 : decode cL_law 965 = .ok (.iaload, 1) := by decide +kernel
theorem dL_law_966 : decode cL_law 966 = .ok (.aload_n 0, 1) := by decide +kernel
theorem dL_law_967 : decode cL_law 967 = .ok (.iload 4, 2) := by decide +kernel
theorem dL_law_969 : decode cL_law 969 = .ok (.iconst 2, 1) := by decide +kernel
theorem dL_law_970 : decode cL_law 970 = .ok (.iadd, 1) := by decide +kernel
theorem dL_law_971 : decode cL_law 971 = .ok (.iaload, 1) := by decide +kernel
theorem dL_law_972 : decode cL_law 972 = .ok (.aload_n 0, 1) := by decide +kernel
theorem dL_law_973 : decode cL_law 973 = .ok (.iload 4, 2) := by decide +kernel
theorem dL_law_975 : decode cL_law 975 = .ok (.iconst 3, 1) := by decide +kernel
theorem dL_law_976 : decode cL_law 976 = .ok (.iadd, 1) := by decide +kernel
theorem dL_law_977 : decode cL_law 977 = .ok (.iaload, 1) := by decide +kernel
theorem dL_law_978 : decode cL_law 978 = .ok (.aload_n 0, 1) := by decide +kernel
theorem dL_law_979 : decode cL_law 979 = .ok (.iload 4, 2) := by decide +kernel
theorem dL_law_981 : decode cL_law 981 = .ok (.iconst 4, 1) := by decide +kernel
theorem dL_law_982 : decode cL_law 982 = .ok (.iadd, 1) := by decide +kernel
theorem dL_law_983 : decode cL_law 983 = .ok (.iaload, 1) := by decide +kernel
theorem dL_law_984 : decode cL_law 984 = .ok (.invokevirtual 135, 3) := by decide +kernel
theorem dL_law_987 : decode cL_law 987 = .ok (.istore 6, 2) := by decide +kernel
theorem dL_law_989 : decode cL_law 989 = .ok (.aload_n 2, 1) := by decide +kernel
theorem dL_law_990 : decode cL_law 990 = .ok (.invokevirtual 92, 3) := by decide +kernel
theorem dL_law_993 : decode cL_law 993 = .ok (.iload 5, 2) := by decide +kernel
theorem dL_law_995 : decode cL_law 995 = .ok (.if_icmp .eq 5, 3) := by decide +kernel
theorem dL_law_998 : decode cL_law 998 = .ok (.iconst 0, 1) := by decide +kernel
theorem dL_law_999 : decode cL_law 999 = .ok (.ireturn, 1) := by decide +kernel
theorem dL_law_1000 : decode cL_law 1000 = .ok (.iload 5, 2) := by decide +kernel
theorem dL_law_1002 : decode cL_law 1002 = .ok (.ifCond .ne 15, 3) := by decide +kernel
theorem dL_law_1005 : decode cL_law 1005 = .ok (.aload_n 3, 1) := by decide +kernel
theorem dL_law_1006 : decode cL_law 1006 = .ok (.iconst 0, 1) := by decide +kernel
theorem dL_law_1007 : decode cL_law 1007 = .ok (.laload, 1) := by decide +kernel
theorem dL_law_1008 : decode cL_law 1008 = .ok (.iload 6, 2) := by decide +kernel
theorem dL_law_1010 : decode cL_law 1010 = .ok (.i2l, 1) := by decide +kernel
theorem dL_law_1011 : decode cL_law 1011 = .ok (.lcmp, 1) := by decide +kernel
theorem dL_law_1012 : decode cL_law 1012 = .ok (.ifCond .eq 5, 3) := by decide +kernel
theorem dL_law_1015 : decode cL_law 1015 = .ok (.iconst 0, 1) := by decide +kernel
theorem dL_law_1016 : decode cL_law 1016 = .ok (.ireturn, 1) := by decide +kernel
theorem dL_law_1017 : decode cL_law 1017 = .ok (.goto 569, 3) := by decide +kernel
theorem dL_law_1020 : decode cL_law 1020 = .ok (.aload_n 1, 1) := by decide +kernel
theorem dL_law_1021 : decode cL_law 1021 = .ok (.aload_n 0, 1) := by decide +kernel
theorem dL_law_1022 : decode cL_law 1022 = .ok (.iload 4, 2) := by decide +kernel
theorem dL_law_1024 : decode cL_law 1024 = .ok (.iconst 1, 1) := by decide +kernel
theorem dL_law_1025 : decode cL_law 1025 = .ok (.iadd, 1) := by decide +kernel
theorem dL_law_1026 : decode cL_law 1026 = .ok (.iaload, 1) := by decide +kernel
theorem dL_law_1027 : decode cL_law 1027 = .ok (.aload_n 0, 1) := by decide +kernel
theorem dL_law_1028 : decode cL_law 1028 = .ok (.iload 4, 2) := by decide +kernel
theorem dL_law_1030 : decode cL_law 1030 = .ok (.iconst 2, 1) := by decide +kernel
theorem dL_law_1031 : decode cL_law 1031 = .ok (.iadd, 1) := by decide +kernel
theorem dL_law_1032 : decode cL_law 1032 = .ok (.iaload, 1) := by decide +kernel
theorem dL_law_1033 : decode cL_law 1033 = .ok (.aload_n 3, 1) := by decide +kernel
theorem dL_law_1034 : decode cL_law 1034 = .ok (.invokestatic 136, 3) := by decide +kernel
theorem dL_law_1037 : decode cL_law 1037 = .ok (.istore 5, 2) := by decide +kernel
theorem dL_law_1039 : decode cL_law 1039 = .ok (.aload_n 2, 1) := by decide +kernel
theorem dL_law_1040 : decode cL_law 1040 = .ok (.aload_n 0, 1) := by decide +kernel
theorem dL_law_1041 : decode cL_law 1041 = .ok (.iload 4, 2) := by decide +kernel
theorem dL_law_1043 : decode cL_law 1043 = .ok (.iconst 1, 1) := by decide +kernel
theorem dL_law_1044 : decode cL_law 1044 = .ok (.iadd, 1) := by decide +kernel
theorem dL_law_1045 : decode cL_law 1045 = .ok (.iaload, 1) := by decide +kernel
theorem dL_law_1046 : decode cL_law 1046 = .ok (.aload_n 0, 1) := by decide +kernel
theorem dL_law_1047 : decode cL_law 1047 = .ok (.iload 4, 2) := by decide +kernel
theorem dL_law_1049 : decode cL_law 1049 = .ok (.iconst 2, 1) := by decide +kernel
theorem dL_law_1050 : decode cL_law 1050 = .ok (.iadd, 1) := by decide +kernel
theorem dL_law_1051 : decode cL_law 1051 = .ok (.iaload, 1) := by decide +kernel
theorem dL_law_1052 : decode cL_law 1052 = .ok (.invokevirtual 138, 3) := by decide +kernel
theorem dL_law_1055 : decode cL_law 1055 = .ok (.lstore 6, 2) := by decide +kernel
theorem dL_law_1057 : decode cL_law 1057 = .ok (.aload_n 2, 1) := by decide +kernel
theorem dL_law_1058 : decode cL_law 1058 = .ok (.invokevirtual 92, 3) := by decide +kernel
theorem dL_law_1061 : decode cL_law 1061 = .ok (.iload 5, 2) := by decide +kernel
theorem dL_law_1063 : decode cL_law 1063 = .ok (.if_icmp .eq 5, 3) := by decide +kernel
theorem dL_law_1066 : decode cL_law 1066 = .ok (.iconst 0, 1) := by decide +kernel
theorem dL_law_1067 : decode cL_law 1067 = .ok (.ireturn, 1) := by decide +kernel
theorem dL_law_1068 : decode cL_law 1068 = .ok (.iload 5, 2) := by decide +kernel
theorem dL_law_1070 : decode cL_law 1070 = .ok (.ifCond .ne 14, 3) := by decide +kernel
theorem dL_law_1073 : decode cL_law 1073 = .ok (.aload_n 3, 1) := by decide +kernel
theorem dL_law_1074 : decode cL_law 1074 = .ok (.iconst 0, 1) := by decide +kernel
theorem dL_law_1075 : decode cL_law 1075 = .ok (.laload, 1) := by decide +kernel
theorem dL_law_1076 : decode cL_law 1076 = .ok (.lload 6, 2) := by decide +kernel
theorem dL_law_1078 : decode cL_law 1078 = .ok (.lcmp, 1) := by decide +kernel
theorem dL_law_1079 : decode cL_law 1079 = .ok (.ifCond .eq 5, 3) := by decide +kernel
theorem dL_law_1082 : decode cL_law 1082 = .ok (.iconst 0, 1) := by decide +kernel
theorem dL_law_1083 : decode cL_law 1083 = .ok (.ireturn, 1) := by decide +kernel
theorem dL_law_1084 : decode cL_law 1084 = .ok (.goto 502, 3) := by decide +kernel
theorem dL_law_1087 : decode cL_law 1087 = .ok (.aload_n 1, 1) := by decide +kernel
theorem dL_law_1088 : decode cL_law 1088 = .ok (.aload_n 0, 1) := by decide +kernel
theorem dL_law_1089 : decode cL_law 1089 = .ok (.iload 4, 2) := by decide +kernel
theorem dL_law_1091 : decode cL_law 1091 = .ok (.iconst 1, 1) := by decide +kernel
theorem dL_law_1092 : decode cL_law 1092 = .ok (.iadd, 1) := by decide +kernel
theorem dL_law_1093 : decode cL_law 1093 = .ok (.iaload, 1) := by decide +kernel
theorem dL_law_1094 : decode cL_law 1094 = .ok (.aload_n 0, 1) := by decide +kernel
theorem dL_law_1095 : decode cL_law 1095 = .ok (.iload 4, 2) := by decide +kernel
theorem dL_law_1097 : decode cL_law 1097 = .ok (.iconst 2, 1) := by decide +kernel
theorem dL_law_1098 : decode cL_law 1098 = .ok (.iadd, 1) := by decide +kernel
theorem dL_law_1099 : decode cL_law 1099 = .ok (.iaload, 1) := by decide +kernel
theorem dL_law_1100 : decode cL_law 1100 = .ok (.ifCond .eq 7, 3) := by decide +kernel
theorem dL_law_1103 : decode cL_law 1103 = .ok (.iconst 1, 1) := by decide +kernel
theorem dL_law_1104 : decode cL_law 1104 = .ok (.goto 4, 3) := by decide +kernel
theorem dL_law_1107 : decode cL_law 1107 = .ok (.iconst 0, 1) := by decide +kernel
theorem dL_law_1108 : decode cL_law 1108 = .ok (.aload_n 3, 1) := by decide +kernel
theorem dL_law_1109 : decode cL_law 1109 = .ok (.invokestatic 139, 3) := by decide +kernel
theorem dL_law_1112 : decode cL_law 1112 = .ok (.istore 5, 2) := by decide +kernel
theorem dL_law_1114 : decode cL_law 1114 = .ok (.aload_n 2, 1) := by decide +kernel
theorem dL_law_1115 : decode cL_law 1115 = .ok (.aload_n 0, 1) := by decide +kernel
theorem dL_law_1116 : decode cL_law 1116 = .ok (.iload 4, 2) := by decide +kernel
theorem dL_law_1118 : decode cL_law 1118 = .ok (.iconst 1, 1) := by decide +kernel
theorem dL_law_1119 : decode cL_law 1119 = .ok (.iadd, 1) := by decide +kernel
theorem dL_law_1120 : decode cL_law 1120 = .ok (.iaload, 1) := by decide +kernel
theorem dL_law_1121 : decode cL_law 1121 = .ok (.aload_n 0, 1) := by decide +kernel
theorem dL_law_1122 : decode cL_law 1122 = .ok (.iload 4, 2) := by decide +kernel
theorem dL_law_1124 : decode cL_law 1124 = .ok (.iconst 2, 1) := by decide +kernel
theorem dL_law_1125 : decode cL_law 1125 = .ok (.iadd, 1) := by decide +kernel
theorem dL_law_1126 : decode cL_law 1126 = .ok (.iaload, 1) := by decide +kernel
theorem dL_law_1127 : decode cL_law 1127 = .ok (.ifCond .eq 7, 3) := by decide +kernel
theorem dL_law_1130 : decode cL_law 1130 = .ok (.iconst 1, 1) := by decide +kernel
theorem dL_law_1131 : decode cL_law 1131 = .ok (.goto 4, 3) := by decide +kernel
theorem dL_law_1134 : decode cL_law 1134 = .ok (.iconst 0, 1) := by decide +kernel
theorem dL_law_1135 : decode cL_law 1135 = .ok (.invokevirtual 142, 3) := by decide +kernel
theorem dL_law_1138 : decode cL_law 1138 = .ok (.istore 6, 2) := by decide +kernel
theorem dL_law_1140 : decode cL_law 1140 = .ok (.aload_n 2, 1) := by decide +kernel
theorem dL_law_1141 : decode cL_law 1141 = .ok (.invokevirtual 92, 3) := by decide +kernel
theorem dL_law_1144 : decode cL_law 1144 = .ok (.iload 5, 2) := by decide +kernel
theorem dL_law_1146 : decode cL_law 1146 = .ok (.if_icmp .eq 5, 3) := by decide +kernel
theorem dL_law_1149 : decode cL_law 1149 = .ok (.iconst 0, 1) := by decide +kernel
theorem dL_law_1150 : decode cL_law 1150 = .ok (.ireturn, 1) := by decide +kernel
theorem dL_law_1151 : decode cL_law 1151 = .ok (.iload 5, 2) := by decide +kernel
theorem dL_law_1153 : decode cL_law 1153 = .ok (.ifCond .ne 15, 3) := by decide +kernel
theorem dL_law_1156 : decode cL_law 1156 = .ok (.aload_n 3, 1) := by decide +kernel
theorem dL_law_1157 : decode cL_law 1157 = .ok (.iconst 0, 1) := by decide +kernel
theorem dL_law_1158 : decode cL_law 1158 = .ok (.laload, 1) := by decide +kernel
theorem dL_law_1159 : decode cL_law 1159 = .ok (.iload 6, 2) := by decide +kernel
theorem dL_law_1161 : decode cL_law 1161 = .ok (.i2l, 1) := by decide +kernel
theorem dL_law_1162 : decode cL_law 1162 = .ok (.lcmp, 1) := by decide +kernel
theorem dL_law_1163 : decode cL_law 1163 = .ok (.ifCond .eq 5, 3) := by decide +kernel
theorem dL_law_1166 : decode cL_law 1166 = .ok (.iconst 0, 1) := by decide +kernel
theorem dL_law_1167 : decode cL_law 1167 = .ok (.ireturn, 1) := by decide +kernel
theorem dL_law_1168 : decode cL_law 1168 = .ok (.goto 418, 3) := by decide +kernel
theorem dL_law_1171 : decode cL_law 1171 = .ok (.aload_n 1, 1) := by decide +kernel
theorem dL_law_1172 : decode cL_law 1172 = .ok (.aload_n 0, 1) := by decide +kernel
theorem dL_law_1173 : decode cL_law 1173 = .ok (.iload 4, 2) := by decide +kernel
theorem dL_law_1175 : decode cL_law 1175 = .ok (.iconst 1, 1) := by decide +kernel
theorem dL_law_1176 : decode cL_law 1176 = .ok (.iadd, 1) := by decide +kernel
theorem dL_law_1177 : decode cL_law 1177 = .ok (.iaload, 1) := by decide +kernel
theorem dL_law_1178 : decode cL_law 1178 = .ok (.aload_n 0, 1) := by decide +kernel
theorem dL_law_1179 : decode cL_law 1179 = .ok (.iload 4, 2) := by decide +kernel
theorem dL_law_1181 : decode cL_law 1181 = .ok (.iconst 2, 1) := by decide +kernel
theorem dL_law_1182 : decode cL_law 1182 = .ok (.iadd, 1) := by decide +kernel
theorem dL_law_1183 : decode cL_law 1183 = .ok (.iaload, 1) := by decide +kernel
theorem dL_law_1184 : decode cL_law 1184 = .ok (.aload_n 3, 1) := by decide +kernel
theorem dL_law_1185 : decode cL_law 1185 = .ok (.invokestatic 143, 3) := by decide +kernel
theorem dL_law_1188 : decode cL_law 1188 = .ok (.istore 5, 2) := by decide +kernel
theorem dL_law_1190 : decode cL_law 1190 = .ok (.aload_n 2, 1) := by decide +kernel
theorem dL_law_1191 : decode cL_law 1191 = .ok (.aload_n 0, 1) := by decide +kernel
theorem dL_law_1192 : decode cL_law 1192 = .ok (.iload 4, 2) := by decide +kernel
theorem dL_law_1194 : decode cL_law 1194 = .ok (.iconst 1, 1) := by decide +kernel
theorem dL_law_1195 : decode cL_law 1195 = .ok (.iadd, 1) := by decide +kernel
theorem dL_law_1196 : decode cL_law 1196 = .ok (.iaload, 1) := by decide +kernel
theorem dL_law_1197 : decode cL_law 1197 = .ok (.aload_n 0, 1) := by decide +kernel
theorem dL_law_1198 : decode cL_law 1198 = .ok (.iload 4, 2) := by decide +kernel
theorem dL_law_1200 : decode cL_law 1200 = .ok (.iconst 2, 1) := by decide +kernel
theorem dL_law_1201 : decode cL_law 1201 = .ok (.iadd, 1) := by decide +kernel
theorem dL_law_1202 : decode cL_law 1202 = .ok (.iaload, 1) := by decide +kernel
theorem dL_law_1203 : decode cL_law 1203 = .ok (.invokevirtual 145, 3) := by decide +kernel
theorem dL_law_1206 : decode cL_law 1206 = .ok (.istore 6, 2) := by decide +kernel
theorem dL_law_1208 : decode cL_law 1208 = .ok (.aload_n 2, 1) := by decide +kernel
theorem dL_law_1209 : decode cL_law 1209 = .ok (.invokevirtual 92, 3) := by decide +kernel
theorem dL_law_1212 : decode cL_law 1212 = .ok (.iload 5, 2) := by decide +kernel
theorem dL_law_1214 : decode cL_law 1214 = .ok (.if_icmp .eq 5, 3) := by decide +kernel
theorem dL_law_1217 : decode cL_law 1217 = .ok (.iconst 0, 1) := by decide +kernel
theorem dL_law_1218 : decode cL_law 1218 = .ok (.ireturn, 1) := by decide +kernel
theorem dL_law_1219 : decode cL_law 1219 = .ok (.iload 5, 2) := by decide +kernel
theorem dL_law_1221 : decode cL_law 1221 = .ok (.ifCond .ne 15, 3) := by decide +kernel
theorem dL_law_1224 : decode cL_law 1224 = .ok (.aload_n 3, 1) := by decide +kernel
theorem dL_law_1225 : decode cL_law 1225 = .ok (.iconst 0, 1) := by decide +kernel
theorem dL_law_1226 : decode cL_law 1226 = .ok (.laload, 1) := by decide +kernel
theorem dL_law_1227 : decode cL_law 1227 = .ok (.iload 6, 2) := by decide +kernel
theorem dL_law_1229 : decode cL_law 1229 = .ok (.i2l, 1) := by decide +kernel
theorem dL_law_1230 : decode cL_law 1230 = .ok (.lcmp, 1) := by decide +kernel
theorem dL_law_1231 : decode cL_law 1231 = .ok (.ifCond .eq 5, 3) := by decide +kernel
theorem dL_law_1234 : decode cL_law 1234 = .ok (.iconst 0, 1) := by decide +kernel
theorem dL_law_1235 : decode cL_law 1235 = .ok (.ireturn, 1) := by decide +kernel
theorem dL_law_1236 : decode cL_law 1236 = .ok (.goto 350, 3) := by decide +kernel
theorem dL_law_1239 : decode cL_law 1239 = .ok (.aload_n 1, 1) := by decide +kernel
theorem dL_law_1240 : decode cL_law 1240 = .ok (.aload_n 0, 1) := by decide +kernel
theorem dL_law_1241 : decode cL_law 1241 = .ok (.iload 4, 2) := by decide +kernel
theorem dL_law_1243 : decode cL_law 1243 = .ok (.iconst 1, 1) := by decide +kernel
theorem dL_law_1244 : decode cL_law 1244 = .ok (.iadd, 1) := by decide +kernel
theorem dL_law_1245 : decode cL_law 1245 = .ok (.iaload, 1) := by decide +kernel
theorem dL_law_1246 : decode cL_law 1246 = .ok (.aload_n 0, 1) := by decide +kernel
theorem dL_law_1247 : decode cL_law 1247 = .ok (.iload 4, 2) := by decide +kernel
theorem dL_law_1249 : decode cL_law 1249 = .ok (.iconst 2, 1) := by decide +kernel
theorem dL_law_1250 : decode cL_law 1250 = .ok (.iadd, 1) := by decide +kernel
theorem dL_law_1251 : decode cL_law 1251 = .ok (.iaload, 1) := by decide +kernel
theorem dL_law_1252 : decode cL_law 1252 = .ok (.aload_n 3, 1) := by decide +kernel
theorem dL_law_1253 : decode cL_law 1253 = .ok (.invokestatic 146, 3) := by decide +kernel
theorem dL_law_1256 : decode cL_law 1256 = .ok (.istore 5, 2) := by decide +kernel
theorem dL_law_1258 : decode cL_law 1258 = .ok (.aload_n 2, 1) := by decide +kernel
theorem dL_law_1259 : decode cL_law 1259 = .ok (.aload_n 0, 1) := by decide +kernel
theorem dL_law_1260 : decode cL_law 1260 = .ok (.iload 4, 2) := by decide +kernel
theorem dL_law_1262 : decode cL_law 1262 = .ok (.iconst 1, 1) := by decide +kernel
theorem dL_law_1263 : decode cL_law 1263 = .ok (.iadd, 1) := by decide +kernel
theorem dL_law_1264 : decode cL_law 1264 = .ok (.iaload, 1) := by decide +kernel
theorem dL_law_1265 : decode cL_law 1265 = .ok (.aload_n 0, 1) := by decide +kernel
theorem dL_law_1266 : decode cL_law 1266 = .ok (.iload 4, 2) := by decide +kernel
theorem dL_law_1268 : decode cL_law 1268 = .ok (.iconst 2, 1) := by decide +kernel
theorem dL_law_1269 : decode cL_law 1269 = .ok (.iadd, 1) := by decide +kernel
theorem dL_law_1270 : decode cL_law 1270 = .ok (.iaload, 1) := by decide +kernel
theorem dL_law_1271 : decode cL_law 1271 = .ok (.invokevirtual 148, 3) := by decide +kernel
theorem dL_law_1274 : decode cL_law 1274 = .ok (.istore 6, 2) := by decide +kernel
theorem dL_law_1276 : decode cL_law 1276 = .ok (.aload_n 2, 1) := by decide +kernel
theorem dL_law_1277 : decode cL_law 1277 = .ok (.invokevirtual 92, 3) := by decide +kernel
theorem dL_law_1280 : decode cL_law 1280 = .ok (.iload 5, 2) := by decide +kernel
theorem dL_law_1282 : decode cL_law 1282 = .ok (.if_icmp .eq 5, 3) := by decide +kernel
theorem dL_law_1285 : decode cL_law 1285 = .ok (.iconst 0, 1) := by decide +kernel
theorem dL_law_1286 : decode cL_law 1286 = .ok (.ireturn, 1) := by decide +kernel
theorem dL_law_1287 : decode cL_law 1287 = .ok (.iload 5, 2) := by decide +kernel
theorem dL_law_1289 : decode cL_law 1289 = .ok (.ifCond .ne 22, 3) := by decide +kernel
theorem dL_law_1292 : decode cL_law 1292 = .ok (.aload_n 3, 1) := by decide +kernel
theorem dL_law_1293 : decode cL_law 1293 = .ok (.iconst 0, 1) := by decide +kernel
theorem dL_law_1294 : decode cL_law 1294 = .ok (.laload, 1) := by decide +kernel
theorem dL_law_1295 : decode cL_law 1295 = .ok (.iload 6, 2) := by decide +kernel
theorem dL_law_1297 : decode cL_law 1297 = .ok (.ifCond .eq 7, 3) := by decide +kernel
theorem dL_law_1300 : decode cL_law 1300 = .ok (.lconst 1, 1) := by decide +kernel
theorem dL_law_1301 : decode cL_law 1301 = .ok (.goto 4, 3) := by decide +kernel
theorem dL_law_1304 : decode cL_law 1304 = .ok (.lconst 0, 1) := by decide +kernel
theorem dL_law_1305 : decode cL_law 1305 = .ok (.lcmp, 1) := by decide +kernel
theorem dL_law_1306 : decode cL_law 1306 = .ok (.ifCond .eq 5, 3) := by decide +kernel
theorem dL_law_1309 : decode cL_law 1309 = .ok (.iconst 0, 1) := by decide +kernel
theorem dL_law_1310 : decode cL_law 1310 = .ok (.ireturn, 1) := by decide +kernel
theorem dL_law_1311 : decode cL_law 1311 = .ok (.goto 275, 3) := by decide +kernel
theorem dL_law_1314 : decode cL_law 1314 = .ok (.aload_n 1, 1) := by decide +kernel
theorem dL_law_1315 : decode cL_law 1315 = .ok (.aload_n 0, 1) := by decide +kernel
theorem dL_law_1316 : decode cL_law 1316 = .ok (.iload 4, 2) := by decide +kernel
theorem dL_law_1318 : decode cL_law 1318 = .ok (.iconst 1, 1) := by decide +kernel
theorem dL_law_1319 : decode cL_law 1319 = .ok (.iadd, 1) := by decide +kernel
theorem dL_law_1320 : decode cL_law 1320 = .ok (.iaload, 1) := by decide +kernel
theorem dL_law_1321 : decode cL_law 1321 = .ok (.aload_n 0, 1) := by decide +kernel
theorem dL_law_1322 : decode cL_law 1322 = .ok (.iload 4, 2) := by decide +kernel
theorem dL_law_1324 : decode cL_law 1324 = .ok (.iconst 2, 1) := by decide +kernel
theorem dL_law_1325 : decode cL_law 1325 = .ok (.iadd, 1) := by decide +kernel
theorem dL_law_1326 : decode cL_law 1326 = .ok (.iaload, 1) := by decide +kernel
theorem dL_law_1327 : decode cL_law 1327 = .ok (.aload_n 3, 1) := by decide +kernel
theorem dL_law_1328 : decode cL_law 1328 = .ok (.invokestatic 149, 3) := by decide +kernel
theorem dL_law_1331 : decode cL_law 1331 = .ok (.istore 5, 2) := by decide +kernel
theorem dL_law_1333 : decode cL_law 1333 = .ok (.aload_n 2, 1) := by decide +kernel
theorem dL_law_1334 : decode cL_law 1334 = .ok (.aload_n 0, 1) := by decide +kernel
theorem dL_law_1335 : decode cL_law 1335 = .ok (.iload 4, 2) := by decide +kernel
theorem dL_law_1337 : decode cL_law 1337 = .ok (.iconst 1, 1) := by decide +kernel
theorem dL_law_1338 : decode cL_law 1338 = .ok (.iadd, 1) := by decide +kernel
theorem dL_law_1339 : decode cL_law 1339 = .ok (.iaload, 1) := by decide +kernel
theorem dL_law_1340 : decode cL_law 1340 = .ok (.aload_n 0, 1) := by decide +kernel
theorem dL_law_1341 : decode cL_law 1341 = .ok (.iload 4, 2) := by decide +kernel
theorem dL_law_1343 : decode cL_law 1343 = .ok (.iconst 2, 1) := by decide +kernel
theorem dL_law_1344 : decode cL_law 1344 = .ok (.iadd, 1) := by decide +kernel
theorem dL_law_1345 : decode cL_law 1345 = .ok (.iaload, 1) := by decide +kernel
theorem dL_law_1346 : decode cL_law 1346 = .ok (.invokevirtual 151, 3) := by decide +kernel
theorem dL_law_1349 : decode cL_law 1349 = .ok (.istore 6, 2) := by decide +kernel
theorem dL_law_1351 : decode cL_law 1351 = .ok (.aload_n 2, 1) := by decide +kernel
theorem dL_law_1352 : decode cL_law 1352 = .ok (.invokevirtual 92, 3) := by decide +kernel
theorem dL_law_1355 : decode cL_law 1355 = .ok (.iload 5, 2) := by decide +kernel
theorem dL_law_1357 : decode cL_law 1357 = .ok (.if_icmp .eq 5, 3) := by decide +kernel
theorem dL_law_1360 : decode cL_law 1360 = .ok (.iconst 0, 1) := by decide +kernel
theorem dL_law_1361 : decode cL_law 1361 = .ok (.ireturn, 1) := by decide +kernel
theorem dL_law_1362 : decode cL_law 1362 = .ok (.iload 5, 2) := by decide +kernel
theorem dL_law_1364 : decode cL_law 1364 = .ok (.ifCond .ne 15, 3) := by decide +kernel
theorem dL_law_1367 : decode cL_law 1367 = .ok (.aload_n 3, 1) := by decide +kernel
theorem dL_law_1368 : decode cL_law 1368 = .ok (.iconst 0, 1) := by decide +kernel
theorem dL_law_1369 : decode cL_law 1369 = .ok (.laload, 1) := by decide +kernel
theorem dL_law_1370 : decode cL_law 1370 = .ok (.iload 6, 2) := by decide +kernel
theorem dL_law_1372 : decode cL_law 1372 = .ok (.i2l, 1) := by decide +kernel
theorem dL_law_1373 : decode cL_law 1373 = .ok (.lcmp, 1) := by decide +kernel
theorem dL_law_1374 : decode cL_law 1374 = .ok (.ifCond .eq 5, 3) := by decide +kernel
theorem dL_law_1377 : decode cL_law 1377 = .ok (.iconst 0, 1) := by decide +kernel
theorem dL_law_1378 : decode cL_law 1378 = .ok (.ireturn, 1) := by decide +kernel
theorem dL_law_1379 : decode cL_law 1379 = .ok (.goto 207, 3) := by decide +kernel
theorem dL_law_1382 : decode cL_law 1382 = .ok (.aload_n 1, 1) := by decide +kernel
theorem dL_law_1383 : decode cL_law 1383 = .ok (.aload_n 0, 1) := by decide +kernel
theorem dL_law_1384 : decode cL_law 1384 = .ok (.iload 4, 2) := by decide +kernel
theorem dL_law_1386 : decode cL_law 1386 = .ok (.iconst 1, 1) := by decide +kernel
theorem dL_law_1387 : decode cL_law 1387 = .ok (.iadd, 1) := by decide +kernel
theorem dL_law_1388 : decode cL_law 1388 = .ok (.iaload, 1) := by decide +kernel
theorem dL_law_1389 : decode cL_law 1389 = .ok (.aload_n 0, 1) := by decide +kernel
theorem dL_law_1390 : decode cL_law 1390 = .ok (.iload 4, 2) := by decide +kernel
theorem dL_law_1392 : decode cL_law 1392 = .ok (.iconst 2, 1) := by decide +kernel
theorem dL_law_1393 : decode cL_law 1393 = .ok (.iadd, 1) := by decide +kernel
theorem dL_law_1394 : decode cL_law 1394 = .ok (.iaload, 1) := by decide +kernel
theorem dL_law_1395 : decode cL_law 1395 = .ok (.aload_n 3, 1) := by decide +kernel
theorem dL_law_1396 : decode cL_law 1396 = .ok (.invokestatic 152, 3) := by decide +kernel
theorem dL_law_1399 : decode cL_law 1399 = .ok (.istore 5, 2) := by decide +kernel
theorem dL_law_1401 : decode cL_law 1401 = .ok (.aload_n 2, 1) := by decide +kernel
theorem dL_law_1402 : decode cL_law 1402 = .ok (.aload_n 0, 1) := by decide +kernel
theorem dL_law_1403 : decode cL_law 1403 = .ok (.iload 4, 2) := by decide +kernel
theorem dL_law_1405 : decode cL_law 1405 = .ok (.iconst 1, 1) := by decide +kernel
theorem dL_law_1406 : decode cL_law 1406 = .ok (.iadd, 1) := by decide +kernel
theorem dL_law_1407 : decode cL_law 1407 = .ok (.iaload, 1) := by decide +kernel
theorem dL_law_1408 : decode cL_law 1408 = .ok (.aload_n 0, 1) := by decide +kernel
theorem dL_law_1409 : decode cL_law 1409 = .ok (.iload 4, 2) := by decide +kernel
theorem dL_law_1411 : decode cL_law 1411 = .ok (.iconst 2, 1) := by decide +kernel
theorem dL_law_1412 : decode cL_law 1412 = .ok (.iadd, 1) := by decide +kernel
theorem dL_law_1413 : decode cL_law 1413 = .ok (.iaload, 1) := by decide +kernel
theorem dL_law_1414 : decode cL_law 1414 = .ok (.invokevirtual 154, 3) := by decide +kernel
theorem dL_law_1417 : decode cL_law 1417 = .ok (.istore 6, 2) := by decide +kernel
theorem dL_law_1419 : decode cL_law 1419 = .ok (.aload_n 2, 1) := by decide +kernel
theorem dL_law_1420 : decode cL_law 1420 = .ok (.invokevirtual 92, 3) := by decide +kernel
theorem dL_law_1423 : decode cL_law 1423 = .ok (.iload 5, 2) := by decide +kernel
theorem dL_law_1425 : decode cL_law 1425 = .ok (.if_icmp .eq 5, 3) := by decide +kernel
theorem dL_law_1428 : decode cL_law 1428 = .ok (.iconst 0, 1) := by decide +kernel
theorem dL_law_1429 : decode cL_law 1429 = .ok (.ireturn, 1) := by decide +kernel
theorem dL_law_1430 : decode cL_law 1430 = .ok (.iload 5, 2) := by decide +kernel
theorem dL_law_1432 : decode cL_law 1432 = .ok (.ifCond .ne 15, 3) := by decide +kernel
theorem dL_law_1435 : decode cL_law 1435 = .ok (.aload_n 3, 1) := by decide +kernel
theorem dL_law_1436 : decode cL_law 1436 = .ok (.iconst 0, 1) := by decide +kernel
theorem dL_law_1437 : decode cL_law 1437 = .ok (.laload, 1) := by decide +kernel
theorem dL_law_1438 : decode cL_law 1438 = .ok (.iload 6, 2) := by decide +kernel
theorem dL_law_1440 : decode cL_law 1440 = .ok (.i2l, 1) := by decide +kernel
theorem dL_law_1441 : decode cL_law 1441 = .ok (.lcmp, 1) := by decide +kernel
theorem dL_law_1442 : decode cL_law 1442 = .ok (.ifCond .eq 5, 3) := by decide +kernel
theorem dL_law_1445 : decode cL_law 1445 = .ok (.iconst 0, 1) := by decide +kernel
theorem dL_law_1446 : decode cL_law 1446 = .ok (.ireturn, 1) := by decide +kernel
theorem dL_law_1447 : decode cL_law 1447 = .ok (.goto 139, 3) := by decide +kernel
theorem dL_law_1450 : decode cL_law 1450 = .ok (.aload_n 1, 1) := by decide +kernel
theorem dL_law_1451 : decode cL_law 1451 = .ok (.aload_n 0, 1) := by decide +kernel
theorem dL_law_1452 : decode cL_law 1452 = .ok (.iload 4, 2) := by decide +kernel
theorem dL_law_1454 : decode cL_law 1454 = .ok (.iconst 1, 1) := by decide +kernel
theorem dL_law_1455 : decode cL_law 1455 = .ok (.iadd, 1) := by decide +kernel
theorem dL_law_1456 : decode cL_law 1456 = .ok (.iaload, 1) := by decide +kernel
theorem dL_law_1457 : decode cL_law 1457 = .ok (.aload_n 0, 1) := by decide +kernel
theorem dL_law_1458 : decode cL_law 1458 = .ok (.iload 4, 2) := by decide +kernel
theorem dL_law_1460 : decode cL_law 1460 = .ok (.iconst 2, 1) := by decide +kernel
theorem dL_law_1461 : decode cL_law 1461 = .ok (.iadd, 1) := by decide +kernel
theorem dL_law_1462 : decode cL_law 1462 = .ok (.iaload, 1) := by decide +kernel
theorem dL_law_1463 : decode cL_law 1463 = .ok (.aload_n 3, 1) := by decide +kernel
theorem dL_law_1464 : decode cL_law 1464 = .ok (.invokestatic 155, 3) := by decide +kernel
theorem dL_law_1467 : decode cL_law 1467 = .ok (.istore 5, 2) := by decide +kernel
theorem dL_law_1469 : decode cL_law 1469 = .ok (.aload_n 2, 1) := by decide +kernel
theorem dL_law_1470 : decode cL_law 1470 = .ok (.aload_n 0, 1) := by decide +kernel
theorem dL_law_1471 : decode cL_law 1471 = .ok (.iload 4, 2) := by decide +kernel
theorem dL_law_1473 : decode cL_law 1473 = .ok (.iconst 1, 1) := by decide +kernel
theorem dL_law_1474 : decode cL_law 1474 = .ok (.iadd, 1) := by decide +kernel
theorem dL_law_1475 : decode cL_law 1475 = .ok (.iaload, 1) := by decide +kernel
theorem dL_law_1476 : decode cL_law 1476 = .ok (.aload_n 0, 1) := by decide +kernel
theorem dL_law_1477 : decode cL_law 1477 = .ok (.iload 4, 2) := by decide +kernel
theorem dL_law_1479 : decode cL_law 1479 = .ok (.iconst 2, 1) := by decide +kernel
theorem dL_law_1480 : decode cL_law 1480 = .ok (.iadd, 1) := by decide +kernel
theorem dL_law_1481 : decode cL_law 1481 = .ok (.iaload, 1) := by decide +kernel
theorem dL_law_1482 : decode cL_law 1482 = .ok (.invokevirtual 157, 3) := by decide +kernel
theorem dL_law_1485 : decode cL_law 1485 = .ok (.istore 6, 2) := by decide +kernel
theorem dL_law_1487 : decode cL_law 1487 = .ok (.aload_n 2, 1) := by decide +kernel
theorem dL_law_1488 : decode cL_law 1488 = .ok (.invokevirtual 92, 3) := by decide +kernel
theorem dL_law_1491 : decode cL_law 1491 = .ok (.iload 5, 2) := by decide +kernel
theorem dL_law_1493 : decode cL_law 1493 = .ok (.if_icmp .eq 5, 3) := by decide +kernel
theorem dL_law_1496 : decode cL_law 1496 = .ok (.iconst 0, 1) := by decide +kernel
theorem dL_law_1497 : decode cL_law 1497 = .ok (.ireturn, 1) := by decide +kernel
theorem dL_law_1498 : decode cL_law 1498 = .ok (.iload 5, 2) := by decide +kernel
theorem dL_law_1500 : decode cL_law 1500 = .ok (.ifCond .ne 15, 3) := by decide +kernel
theorem dL_law_1503 : decode cL_law 1503 = .ok (.aload_n 3, 1) := by decide +kernel
theorem dL_law_1504 : decode cL_law 1504 = .ok (.iconst 0, 1) := by decide +kernel
theorem dL_law_1505 : decode cL_law 1505 = .ok (.laload, 1) := by decide +kernel
theorem dL_law_1506 : decode cL_law 1506 = .ok (.iload 6, 2) := by decide +kernel
theorem dL_law_1508 : decode cL_law 1508 = .ok (.i2l, 1) := by decide +kernel
theorem dL_law_1509 : decode cL_law 1509 = .ok (.lcmp, 1) := by decide +kernel
theorem dL_law_1510 : decode cL_law 1510 = .ok (.ifCond .eq 5, 3) := by decide +kernel
theorem dL_law_1513 : decode cL_law 1513 = .ok (.iconst 0, 1) := by decide +kernel
theorem dL_law_1514 : decode cL_law 1514 = .ok (.ireturn, 1) := by decide +kernel
theorem dL_law_1515 : decode cL_law 1515 = .ok (.goto 71, 3) := by decide +kernel
theorem dL_law_1518 : decode cL_law 1518 = .ok (.aload_n 1, 1) := by decide +kernel
theorem dL_law_1519 : decode cL_law 1519 = .ok (.aload_n 0, 1) := by decide +kernel
theorem dL_law_1520 : decode cL_law 1520 = .ok (.iload 4, 2) := by decide +kernel
theorem dL_law_1522 : decode cL_law 1522 = .ok (.iconst 1, 1) := by decide +kernel
theorem dL_law_1523 : decode cL_law 1523 = .ok (.iadd, 1) := by decide +kernel
theorem dL_law_1524 : decode cL_law 1524 = .ok (.iaload, 1) := by decide +kernel
theorem dL_law_1525 : decode cL_law 1525 = .ok (.aload_n 0, 1) := by decide +kernel
theorem dL_law_1526 : decode cL_law 1526 = .ok (.iload 4, 2) := by decide +kernel
theorem dL_law_1528 : decode cL_law 1528 = .ok (.iconst 2, 1) := by decide +kernel
theorem dL_law_1529 : decode cL_law 1529 = .ok (.iadd, 1) := by decide +kernel
theorem dL_law_1530 : decode cL_law 1530 = .ok (.iaload, 1) := by decide +kernel
theorem dL_law_1531 : decode cL_law 1531 = .ok (.aload_n 3, 1) := by decide +kernel
theorem dL_law_1532 : decode cL_law 1532 = .ok (.invokestatic 158, 3) := by decide +kernel
theorem dL_law_1535 : decode cL_law 1535 = .ok (.istore 5, 2) := by decide +kernel
theorem dL_law_1537 : decode cL_law 1537 = .ok (.aload_n 2, 1) := by decide +kernel
theorem dL_law_1538 : decode cL_law 1538 = .ok (.aload_n 0, 1) := by decide +kernel
theorem dL_law_1539 : decode cL_law 1539 = .ok (.iload 4, 2) := by decide +kernel
theorem dL_law_1541 : decode cL_law 1541 = .ok (.iconst 1, 1) := by decide +kernel
theorem dL_law_1542 : decode cL_law 1542 = .ok (.iadd, 1) := by decide +kernel
theorem dL_law_1543 : decode cL_law 1543 = .ok (.iaload, 1) := by decide +kernel
theorem dL_law_1544 : decode cL_law 1544 = .ok (.aload_n 0, 1) := by decide +kernel
theorem dL_law_1545 : decode cL_law 1545 = .ok (.iload 4, 2) := by decide +kernel
theorem dL_law_1547 : decode cL_law 1547 = .ok (.iconst 2, 1) := by decide +kernel
theorem dL_law_1548 : decode cL_law 1548 = .ok (.iadd, 1) := by decide +kernel
theorem dL_law_1549 : decode cL_law 1549 = .ok (.iaload, 1) := by decide +kernel
theorem dL_law_1550 : decode cL_law 1550 = .ok (.invokevirtual 160, 3) := by decide +kernel
theorem dL_law_1553 : decode cL_law 1553 = .ok (.istore 6, 2) := by decide +kernel
theorem dL_law_1555 : decode cL_law 1555 = .ok (.aload_n 2, 1) := by decide +kernel
theorem dL_law_1556 : decode cL_law 1556 = .ok (.invokevirtual 92, 3) := by decide +kernel
theorem dL_law_1559 : decode cL_law 1559 = .ok (.iload 5, 2) := by decide +kernel
theorem dL_law_1561 : decode cL_law 1561 = .ok (.if_icmp .eq 5, 3) := by decide +kernel
theorem dL_law_1564 : decode cL_law 1564 = .ok (.iconst 0, 1) := by decide +kernel
theorem dL_law_1565 : decode cL_law 1565 = .ok (.ireturn, 1) := by decide +kernel
theorem dL_law_1566 : decode cL_law 1566 = .ok (.iload 5, 2) := by decide +kernel
theorem dL_law_1568 : decode cL_law 1568 = .ok (.ifCond .ne 15, 3) := by decide +kernel
theorem dL_law_1571 : decode cL_law 1571 = .ok (.aload_n 3, 1) := by decide +kernel
theorem dL_law_1572 : decode cL_law 1572 = .ok (.iconst 0, 1) := by decide +kernel
theorem dL_law_1573 : decode cL_law 1573 = .ok (.laload, 1) := by decide +kernel
theorem dL_law_1574 : decode cL_law 1574 = .ok (.iload 6, 2) := by decide +kernel
theorem dL_law_1576 : decode cL_law 1576 = .ok (.i2l, 1) := by decide +kernel
theorem dL_law_1577 : decode cL_law 1577 = .ok (.lcmp, 1) := by decide +kernel
theorem dL_law_1578 : decode cL_law 1578 = .ok (.ifCond .eq 5, 3) := by decide +kernel
theorem dL_law_1581 : decode cL_law 1581 = .ok (.iconst 0, 1) := by decide +kernel
theorem dL_law_1582 : decode cL_law 1582 = .ok (.ireturn, 1) := by decide +kernel
theorem dL_law_1583 : decode cL_law 1583 = .ok (.goto 3, 3) := by decide +kernel
theorem dL_law_1586 : decode cL_law 1586 = .ok (.iinc 4 5, 3) := by decide +kernel
theorem dL_law_1589 : decode cL_law 1589 = .ok (.goto (-1566), 3) := by decide +kernel
theorem dL_law_1592 : decode cL_law 1592 = .ok (.iconst 1, 1) := by decide +kernel
theorem dL_law_1593 : decode cL_law 1593 = .ok (.ireturn, 1) := by decide +kernel
end
section
/-! ===== BEGIN words of one list among another's, by their places ===== -/
theorem goodIn_r {big : List Cond} (ws : List Cond) (ps : List Nat) (hp : ws = ps.filterMap (fun i => big[i]?)) (h : ws.all goodWord = true) : GoodIn big ws := by
  intro w hw
  have h1 := List.all_eq_true.mp h w hw
  rw [hp] at hw
  obtain ⟨i, -, hi⟩ := List.mem_filterMap.mp hw
  have hm : w ∈ big := by first | exact List.mem_of_getElem? hi | exact List.getElem?_mem hi
  exact ⟨hm, good_of_word h1⟩
theorem goodIn_app {big a b : List Cond} (ha : GoodIn big a) (hb : GoodIn big b) : GoodIn big (a ++ b) := fun w h => (List.mem_append.mp h).elim (ha w) (hb w)
theorem goodIn_ca {big a b : List Cond} {c : Cond} (ha : GoodIn big (c :: a)) (hb : GoodIn big b) : GoodIn big (c :: (a ++ b)) := fun w h => (List.mem_cons.mp h).elim (fun e => ha w (List.mem_cons.mpr (Or.inl e))) (fun h => (List.mem_append.mp h).elim (fun h => ha w (List.mem_cons.mpr (Or.inr h))) (hb w))
theorem goodIn_sub {big ws : List Cond} (hm : ∀ w ∈ ws, w ∈ big) (h : ws.all goodWord = true) : GoodIn big ws := fun w hw => ⟨hm w hw, good_of_word (List.all_eq_true.mp h w hw)⟩
/-! ===== END ===== -/
/-! ===== BEGIN exceptions that leave a method, and their catching by the caller (launches without stack traces) ===== -/
section VXA
/-! The laws vx_back, vx_callV, vx_callS, vx_callSW, vx_throw0, vx_throwS follow proofs of the library, with one case more: JvmDerived/Free/Laws.lean (Back.of_free), Shelf42/LK1.lean (callV, callS), Shelf/KitTraced.lean (throwNew0V, throwNewS). -/
/-- where a method has thrown q: the class by its name, the cell, what was written, the world -/
def vx_T (XC : String → State → State → Prop) (st : State) (q : Addr) (t : State) (mc ms : Nat) (free : Addr → Prop) : Prop :=
  ∃ (E : String) (ce : Cell) (L : List Loc), XC E st t ∧ t.heap[q]? = some ce ∧ ce.vm = .none ∧ st.vm.findClass E = some ce.cls ∧ st.WarmedH t.vm ∧ st.sameButNew ({ t with vm := st.vm } : State) L mc ms ∧ ∀ z ∈ L, free z.base
def vx_Q (Qc : Array Value → State → Outcome → State → Prop) (XC : String → State → State → Prop) (mc ms : Nat) (free : Addr → Prop) : Array Value → State → Outcome → State → Prop := fun a st o t =>
  (Qc a st o t ∧ ∃ L, FrameEnd st o t L mc ms ∧ ∀ q ∈ L, free q.base) ∨ ∃ q, o = .threw q ∧ vx_T XC st q t mc ms free
/-- a callee that returns or throws -/
def vx_Met (l : Launch) (y : MethodName) (ws : List Cond) (rm : Room) (Pc : Array Value → State → Prop) (Qc : Array Value → State → Outcome → State → Prop) (XC : String → State → State → Prop) (mc ms : Nat) (free : Addr → Prop) : Prop :=
  MetFree l y (headSpec ws rm) Pc (fun _ _ _ _ _ => True) (vx_Q Qc XC mc ms free)
def vx_Post (XC : String → State → State → Prop) (mc ms : Nat) (free : Addr → Prop) : Pt → Array Value → Addr → Pt → Prop := fun A a q B =>
  ∃ (g : JFrame) (mk : MethodId) (t : State) (L : List Loc) (E : String) (ce : Cell), B.U.heap = t.heap ∧ B.U.vm = t.vm ∧ XC E (A.U.calling g mk a) t ∧ t.heap[q]? = some ce ∧ ce.vm = .none ∧ A.U.vm.findClass E = some ce.cls ∧ B.locs = A.locs ++ L ∧ (∀ z ∈ L, free z.base) ∧ B.cells = A.cells + mc ∧ B.slots = A.slots + ms
def vx_Back (l : Launch) (R : Room) (p : Program) (e : Env) (below : List Frame) (s : State) (sargs : Array Value) (y : MethodName) (len W9 : Nat)
    (Pre : Pt → Array Value → Prop) (Post : Pt → Array Value → Option Value → Pt → Prop) (PostX : Pt → Array Value → Addr → Pt → Prop) : Prop :=
  ∀ (m : MethodId) (meth : Method) (c : Code) (A : Pt) (g : JFrame) (ig : Instr) (mk : MethodId) (a : Array Value),
    Stand p l e R s m sargs below meth c A.U A.locs A.cells A.slots → g.method = m → g.locals.size = c.maxLocals → decode c.code g.pc = .ok (ig, len) →
    2 * g.monitorRoom + (g.stack.map fun v => v.category).sum ≤ W9 → A.U.methodNamed? y = some mk → Pre A a →
    (∃ (v : Option Value) (B : Pt), Stand p l e R s m sargs below meth c B.U B.locs B.cells B.slots ∧ Post A a v B ∧
      Steps p.tables e below (doInvoke e (A.U.setTop g) [] mk a).1 (B.U.setTop { g with pc := g.pc + len, stack := v.toList ++ g.stack })) ∨
    (∃ (q : Addr) (B : Pt), Stand p l e R s m sargs below meth c B.U B.locs B.cells B.slots ∧ PostX A a q B ∧
      Steps p.tables e below (doInvoke e (A.U.setTop g) [] mk a).1 ((B.U.setTop g).pushFrame (.throwing q)))
section Payer
variable {l : Launch} {R : Room} {p : Program} {e : Env} {below : List Frame} {s : State} {sargs : Array Value} {y : MethodName} {len W9 : Nat}
theorem vx_back {ws : List Cond} {rm : Room} {Pc : Array Value → State → Prop} {Qc : Array Value → State → Outcome → State → Prop} {XC : String → State → State → Prop} {mc ms : Nat} {free : Addr → Prop} {bytes : ByteArray} {maxL : Nat} {ret : Option FieldType}
    (hM : vx_Met l y ws rm Pc Qc XC mc ms free) (hblind : FrameBlind Pc) (hrc : rm.cells = mc) (hrs : rm.slots = ms)
    (hframes : rm.frames + 1 ≤ R.frames) (hlocals : W9 + (maxL + 11) + rm.locals ≤ R.locals)
    (hws : ∀ w ∈ ws, ∀ a' U, s.WarmedH U.vm → w.before a' U = true) (hcode : Cond.code y bytes maxL ret ∈ ws) (hinit : ∀ a' U, s.WarmedH U.vm → (Cond.initialized y.cls).before a' U = true) :
    vx_Back l R p e below s sargs y len W9 (PreOf R mc ms Pc) (PostOf Qc mc ms free) (vx_Post XC mc ms free) := by
  intro m meth c A g ig mk a X hg hsize hdg hW hn hp
  have h1 : (headSpec ws rm).pre.before a A.U = true := atoms_intro fun w hw => hws w hw _ _ X.warmed
  have h2 : (Cond.code y bytes maxL ret).before a A.U = true := hws _ hcode _ _ X.warmed
  have h3 : (Cond.initialized y.cls).before a A.U = true := hinit _ _ X.warmed
  have h4 : A.cells + (headSpec ws rm).room.cells ≤ R.cells := by rw [show (headSpec ws rm).room.cells = mc from hrc]; exact hp.1
  have h5 : A.slots + (headSpec ws rm).room.slots ≤ R.slots := by rw [show (headSpec ws rm).room.slots = ms from hrs]; exact hp.2.1
  have hPc : Pc a (A.U.calling g mk a) := hblind _ _ _ _ hp.2.2
  obtain ⟨U, Ls, c0, s0⟩ := A
  dsimp only [Pt.U, Pt.locs, Pt.cells, Pt.slots] at h1 h2 h3 h4 h5 X hn hPc ⊢
  obtain ⟨methY, cY, hmY, hcY, -, hlY, -, -, -, -⟩ := Cond.code_spec hn h2
  obtain ⟨kY, hkY, -⟩ := className_of_methodNamed hn
  have hinitY : kY.init = .initialized := Cond.initialized_spec (findClass_of_methodNamed hn) hkY h3
  have h : At U g.method c below := by rw [hg]; exact X.here
  have hlocals9 : W9 + (maxL + 11) + (headSpec ws rm).room.locals ≤ R.locals := hlocals
  have happ : (headSpec ws rm).appliesLoose y e.platform (U.calling g mk a) = true :=
    Spec.appliesLoose_calling (g := g) h hdg hn hkY hinitY
      (X.room_calling (g := g) (R' := (headSpec ws rm).room) hsize hmY hcY hframes (by rw [hlY]; omega) h4 h5) h1
  obtain ⟨mid, hmid⟩ := h.above
  have hfr : (U.setTop g).frames = (.java g :: mid) ++ below := by rw [State.frames_setTop' g h.top, hmid]; rfl
  obtain ⟨o, s₂, hsteps, -, hend, hq⟩ := Steps.callFree hM p X.admits X.cas X.clock (acts := []) hfr happ hPc trivial
  have hq' : vx_Q Qc XC mc ms free a (U.calling g mk a) o s₂ := hq
  rw [State.frames_setTop' g h.top] at hend
  obtain ⟨g₀, hg0⟩ := Option.isSome_iff_exists.mp h.top
  obtain ⟨r, hr⟩ := State.topJava?_eq_some.mp hg0
  have hr' : (({ U with heap := s₂.heap, slotsUsed := s₂.slotsUsed } : State).setVm s₂.vm).frames = .java g₀ :: r := hr
  rcases hq' with ⟨hqc, L, hfe, hL⟩ | ⟨q, rfl, E, ce, L, hx, hce, hcv, hcl, hW₂, hsm, hL⟩
  · obtain ⟨⟨v, rfl⟩, hW₂, e2, q2, q3, q4, q5, q6⟩ := id hfe
    have e3 : s₂ = ({ (U.calling g mk a).setFrames s₂.frames with heap := s₂.heap, slotsUsed := s₂.slotsUsed } : State).setVm s₂.vm := by
      have : s₂ = ({ s₂ with vm := (U.calling g mk a).vm } : State).setVm s₂.vm := rfl
      rw [e2] at this
      exact this
    obtain ⟨c₂, i₂, len₂, hc₂, hd₂, hf₂⟩ := hend
    have hW' : U.WarmedH s₂.vm := hW₂
    have hcc : c₂ = c := by
      have h1 : s₂.code? g.method = U.code? g.method := by
        rw [State.code?_eq, State.code?_eq, hW'.alike.method?]
      exact Option.some.inj (hc₂.symm.trans (h1.trans h.code))
    subst hcc
    have hlen : len₂ = len := by rw [hdg] at hd₂; cases hd₂; rfl
    subst hlen
    have hs₂ : s₂ = (({ U with heap := s₂.heap, slotsUsed := s₂.slotsUsed } : State).setVm s₂.vm).setTop { g with pc := g.pc + len₂, stack := v.toList ++ g.stack } := by
      refine e3.trans ?_
      rw [hf₂, State.calling_eq h.top, State.setFrames_setFrames, State.setTop_of_frames _ hr', hr]
      rfl
    have hsame : U.sameButNew ({ U with heap := s₂.heap, slotsUsed := s₂.slotsUsed } : State) L mc ms := by
      refine ⟨?_, q2, q3, q4, q5, q6⟩
      obtain ⟨t, ht, -⟩ := State.frames_cons hr
      show ({ U with heap := s₂.heap, slotsUsed := s₂.slotsUsed } : State) = { U.setFrames U.frames with heap := s₂.heap, slotsUsed := s₂.slotsUsed }
      rw [State.setFrames_self ht]
    subst hg
    refine Or.inl ⟨v, ⟨(({ U with heap := s₂.heap, slotsUsed := s₂.slotsUsed } : State).setVm s₂.vm), Ls ++ L, c0 + mc, s0 + ms⟩,
      ⟨X.admits, X.cas, X.clock, X.frames, X.room, X.hears, X.method, X.code, (X.here.setHeapUsed s₂.heap s₂.slotsUsed).setVm hW'.alike, X.tail, State.WarmedH.trans X.warmed hW', X.limits, X.bytes, X.same.trans (hsame.setVm s.vm)⟩,
      ⟨g, mk, s₂, L, rfl, rfl, hqc, rfl, hL, rfl, rfl⟩, ?_⟩
    show Steps p.tables e below _ ((({ U with heap := s₂.heap, slotsUsed := s₂.slotsUsed } : State).setVm s₂.vm).setTop { g with pc := g.pc + len₂, stack := v.toList ++ g.stack })
    rw [← hs₂]
    exact hsteps
  · obtain ⟨e2, q2, q3, q4, q5, q6⟩ := id hsm
    have e3 : s₂ = ({ (U.calling g mk a).setFrames s₂.frames with heap := s₂.heap, slotsUsed := s₂.slotsUsed } : State).setVm s₂.vm := by
      have : s₂ = ({ s₂ with vm := (U.calling g mk a).vm } : State).setVm s₂.vm := rfl
      rw [e2] at this
      exact this
    have hf₂ : s₂.frames = .throwing q :: .java g :: U.frames.tail := hend
    have hW' : U.WarmedH s₂.vm := hW₂
    have hs₂ : s₂ = ((({ U with heap := s₂.heap, slotsUsed := s₂.slotsUsed } : State).setVm s₂.vm).setTop g).pushFrame (.throwing q) := by
      refine e3.trans ?_
      rw [hf₂, State.calling_eq h.top, State.setFrames_setFrames, State.pushFrame, State.frames_setTop _ hr', State.setTop_of_frames _ hr', State.setFrames_setFrames, hr]
      rfl
    have hsame : U.sameButNew ({ U with heap := s₂.heap, slotsUsed := s₂.slotsUsed } : State) L mc ms := by
      refine ⟨?_, q2, q3, q4, q5, q6⟩
      obtain ⟨t, ht, -⟩ := State.frames_cons hr
      show ({ U with heap := s₂.heap, slotsUsed := s₂.slotsUsed } : State) = { U.setFrames U.frames with heap := s₂.heap, slotsUsed := s₂.slotsUsed }
      rw [State.setFrames_self ht]
    subst hg
    refine Or.inr ⟨q, ⟨(({ U with heap := s₂.heap, slotsUsed := s₂.slotsUsed } : State).setVm s₂.vm), Ls ++ L, c0 + mc, s0 + ms⟩,
      ⟨X.admits, X.cas, X.clock, X.frames, X.room, X.hears, X.method, X.code, (X.here.setHeapUsed s₂.heap s₂.slotsUsed).setVm hW'.alike, X.tail, State.WarmedH.trans X.warmed hW', X.limits, X.bytes, X.same.trans (hsame.setVm s.vm)⟩,
      ⟨g, mk, s₂, L, E, ce, rfl, rfl, hx, hce, hcv, hcl, rfl, hL, rfl, rfl⟩, ?_⟩
    show Steps p.tables e below _ (((({ U with heap := s₂.heap, slotsUsed := s₂.slotsUsed } : State).setVm s₂.vm).setTop g).pushFrame (.throwing q))
    rw [← hs₂]
    exact hsteps
end Payer
section Calls
variable {p : Program} {l : Launch} {e : Env} {R : Room} {s : State} {m : MethodId} {args : Array Value} {below : List Frame} {meth : Method} {c : Code} {T : State} {locs : List Loc} {cells slots : Nat}
theorem vx_callV (X : Stand p l e R s m args below meth c T locs cells slots) (hexec : p.tables.exec = Jvm.exec) {own C : String} {index : Nat} {y : MethodName} {bytes : ByteArray} {maxL : Nat} {ret : Option FieldType}
    (hown : s.vm.findClass own = some m.cls) (hlink : (Cond.methodLink own index y).before args s = true) (hinst : (Cond.instanceMethod y).before args s = true) (hsel : (Cond.selects C y y).before args s = true)
    (hcode : (Cond.code y bytes maxL ret).before args s = true) (hy : y.cls ≠ "java/lang/invoke/MethodHandle" ∧ y.cls ≠ "java/lang/invoke/VarHandle")
    {W9 : Nat} {Pre : Pt → Array Value → Prop} {Post : Pt → Array Value → Option Value → Pt → Prop} {PostX : Pt → Array Value → Addr → Pt → Prop} (hK : vx_Back l R p e below s args y 3 W9 Pre Post PostX)
    {b : Addr} {cellB : Cell} (hcell : T.heap[b]? = some cellB) (hobj : cellB.vm.isStatics = false) (hcls : s.vm.findClass C = some cellB.cls)
    {g : JFrame} (hg : g.method = m) (hsize : g.locals.size = c.maxLocals) {argsL rest : List Value} (hlen : ∀ sig, parseMethodDescriptor y.desc = some sig → argsL.length = sig.parameters.length)
    (hstack : g.stack = argsL.reverse ++ .ref b :: rest) (hW : 2 * g.monitorRoom + (rest.map fun v => v.category).sum ≤ W9) (hdg : decode c.code g.pc = .ok (.invokevirtual index, 3))
    (hpre : ∀ vm₁, s.WarmedH vm₁ → Pre ⟨T.setVm vm₁, locs, cells, slots⟩ (Value.ref b :: argsL).toArray) :
    (∃ (v : Option Value) (vm₁ : Vm) (B : Pt), s.WarmedH vm₁ ∧ Stand p l e R s m args below meth c B.U B.locs B.cells B.slots ∧ Post ⟨T.setVm vm₁, locs, cells, slots⟩ (Value.ref b :: argsL).toArray v B ∧
      ∀ target, Steps p.tables e below (B.U.setTop { g with pc := g.pc + 3, stack := v.toList ++ rest }) target → Steps p.tables e below (T.setTop g) target) ∨
    (∃ (q : Addr) (vm₁ : Vm) (B : Pt), s.WarmedH vm₁ ∧ Stand p l e R s m args below meth c B.U B.locs B.cells B.slots ∧ PostX ⟨T.setVm vm₁, locs, cells, slots⟩ (Value.ref b :: argsL).toArray q B ∧
      Steps p.tables e below (T.setTop g) ((B.U.setTop { g with stack := rest }).pushFrame (.throwing q))) := by
  obtain ⟨mk, methM, hnamed, hmethM, hstM, habM⟩ := Cond.instanceMethod_spec hinst
  obtain ⟨methM', cM, hmethM', -, -, -, -, -, -, hsigM⟩ := Cond.code_spec hnamed hcode
  cases hmethM.symm.trans hmethM'
  obtain ⟨c2, r2, m2, q1, q2, q3, q4, kP, hkP, hkPi⟩ := Cond.selects_spec hsel
  cases hcls.symm.trans q1
  cases (State.methodFound?_of_named hnamed hy).symm.trans q2
  cases hnamed.symm.trans q3
  have hselP : selectMethod e.platform s.vm cellB.cls mk = .method mk := by rw [Launch.admits_selectMethod X.admits]; exact q4
  obtain ⟨vm₁, X₁, hstep₁⟩ := X.invokevirtual hexec hown hlink hnamed hmethM hstM hkP hkPi hy (a := b) (cell := cellB) hcell
    (fun z h => by rw [h] at hobj; cases hobj) hselP hmethM habM hkP hkPi (g := g) hg (argsL := argsL) (rest := rest) (hlen _ hsigM) hstack hdg
  rcases hK m meth c ⟨T.setVm vm₁, locs, cells, slots⟩ { g with stack := rest } (.invokevirtual index) mk (Value.ref b :: argsL).toArray X₁ hg hsize hdg hW (X₁.named hnamed) (hpre vm₁ X₁.warmed) with ⟨v, B, X', hpost, hsteps⟩ | ⟨q, B, X', hpost, hsteps⟩
  · exact Or.inl ⟨v, vm₁, B, X₁.warmed, X', hpost, fun target h => hstep₁ _ fun acts => by rw [doInvoke_state]; exact hsteps.trans h⟩
  · exact Or.inr ⟨q, vm₁, B, X₁.warmed, X', hpost, hstep₁ _ fun acts => by rw [doInvoke_state]; exact hsteps⟩
theorem vx_callS (X : Stand p l e R s m args below meth c T locs cells slots) (hexec : p.tables.exec = Jvm.exec) {own : String} {index : Nat} {y : MethodName} {bytes : ByteArray} {maxL : Nat} {ret : Option FieldType}
    (hown : s.vm.findClass own = some m.cls) (hlink : (Cond.methodLink own index y).before args s = true) (hstat : (Cond.static y).before args s = true) (hinit : (Cond.initialized y.cls).before args s = true)
    (hcode : (Cond.code y bytes maxL ret).before args s = true) (hy : y.cls ≠ "java/lang/invoke/MethodHandle" ∧ y.cls ≠ "java/lang/invoke/VarHandle")
    {W9 : Nat} {Pre : Pt → Array Value → Prop} {Post : Pt → Array Value → Option Value → Pt → Prop} {PostX : Pt → Array Value → Addr → Pt → Prop} (hK : vx_Back l R p e below s args y 3 W9 Pre Post PostX)
    {g : JFrame} (hg : g.method = m) (hsize : g.locals.size = c.maxLocals) {argsL rest : List Value} (hlen : ∀ sig, parseMethodDescriptor y.desc = some sig → argsL.length = sig.parameters.length)
    (hstack : g.stack = argsL.reverse ++ rest) (hW : 2 * g.monitorRoom + (rest.map fun v => v.category).sum ≤ W9) (hdg : decode c.code g.pc = .ok (.invokestatic index, 3))
    (hpre : ∀ vm₁, s.WarmedH vm₁ → Pre ⟨T.setVm vm₁, locs, cells, slots⟩ argsL.toArray) :
    (∃ (v : Option Value) (vm₁ : Vm) (B : Pt), s.WarmedH vm₁ ∧ Stand p l e R s m args below meth c B.U B.locs B.cells B.slots ∧ Post ⟨T.setVm vm₁, locs, cells, slots⟩ argsL.toArray v B ∧
      ∀ target, Steps p.tables e below (B.U.setTop { g with pc := g.pc + 3, stack := v.toList ++ rest }) target → Steps p.tables e below (T.setTop g) target) ∨
    (∃ (q : Addr) (vm₁ : Vm) (B : Pt), s.WarmedH vm₁ ∧ Stand p l e R s m args below meth c B.U B.locs B.cells B.slots ∧ PostX ⟨T.setVm vm₁, locs, cells, slots⟩ argsL.toArray q B ∧
      Steps p.tables e below (T.setTop g) ((B.U.setTop { g with stack := rest }).pushFrame (.throwing q))) := by
  obtain ⟨mk, hnamed⟩ := Cond.code_named hcode
  obtain ⟨methM, cM, hmethM, -, -, -, -, -, -, hsigM⟩ := Cond.code_spec hnamed hcode
  have hstatic : methM.isStatic = true := Cond.static_spec hnamed hmethM hstat
  obtain ⟨kP, hkP, -⟩ := className_of_methodNamed hnamed
  have hinitP : kP.init = .initialized := Cond.initialized_spec (findClass_of_methodNamed hnamed) hkP hinit
  obtain ⟨vm₁, X₁, hstep₁⟩ := X.invokestatic hexec hown hlink hnamed hmethM hstatic hkP hinitP hy (g := g) hg (argsL := argsL) (rest := rest) (hlen _ hsigM) hstack hdg
  rcases hK m meth c ⟨T.setVm vm₁, locs, cells, slots⟩ { g with stack := rest } (.invokestatic index) mk argsL.toArray X₁ hg hsize hdg hW (X₁.named hnamed) (hpre vm₁ X₁.warmed) with ⟨v, B, X', hpost, hsteps⟩ | ⟨q, B, X', hpost, hsteps⟩
  · exact Or.inl ⟨v, vm₁, B, X₁.warmed, X', hpost, fun target h => hstep₁ _ fun acts => by rw [doInvoke_state]; exact hsteps.trans h⟩
  · exact Or.inr ⟨q, vm₁, B, X₁.warmed, X', hpost, hstep₁ _ fun acts => by rw [doInvoke_state]; exact hsteps⟩
end Calls
theorem vx_cls {s : State} {T : State} {vm₁ : Vm} {E : String} {k : ClassId} (hW : s.WarmedH vm₁) (h : (T.setVm vm₁).vm.findClass E = some k) : s.vm.findClass E = some k := by
  have h1 : vm₁.findClass E = some k := h
  rw [hW.alike.findClass] at h1
  exact h1
/-- the method's frame g, with q thrown over it -/
def vx_W (p : Program) (l : Launch) (e : Env) (R : Room) (s : State) (m : MethodId) (args : Array Value) (below : List Frame) (meth : Method) (c : Code) (H : Heap) (locs : List Loc) (cells slots : Nat) (Q : State → Prop) (g : JFrame) (q : Addr) : Prop :=
  ∀ T : State, T.heap = H → Stand p l e R s m args below meth c T locs cells slots → ∃ t, Steps p.tables e below ((T.setTop g).pushFrame (.throwing q)) t ∧ Q t
def vx_Run (p : Program) (l : Launch) (e : Env) (R : Room) (s : State) (m : MethodId) (args : Array Value) (below : List Frame) (meth : Method) (c : Code) (H : Heap) (locs : List Loc) (cells slots mc ms : Nat) (g : JFrame) (rest : List Value) (Qa : State → Outcome → State → Prop) (XC : String → State → State → Prop) (free : Addr → Prop) : Prop :=
  ∀ T : State, T.heap = H → Stand p l e R s m args below meth c T locs cells slots →
    (∃ (v : Option Value) (st₀ t T' : State) (L : List Loc), st₀.heap = H ∧ Stand p l e R s m args below meth c T' (locs ++ L) (cells + mc) (slots + ms) ∧ (∀ q ∈ L, free q.base) ∧ T'.heap = t.heap ∧ T'.vm = t.vm ∧ Qa st₀ (.returned v) t ∧
      Goes p e below T g T' { g with pc := g.pc + 3, stack := v.toList ++ rest }) ∨
    (∃ (q : Addr) (st₀ t T' : State) (L : List Loc) (E : String) (ce : Cell), st₀.heap = H ∧ Stand p l e R s m args below meth c T' (locs ++ L) (cells + mc) (slots + ms) ∧ (∀ z ∈ L, free z.base) ∧ T'.heap = t.heap ∧ T'.vm = t.vm ∧ XC E st₀ t ∧ t.heap[q]? = some ce ∧ ce.vm = .none ∧ s.vm.findClass E = some ce.cls ∧
      Steps p.tables e below (T.setTop g) ((T'.setTop { g with stack := rest }).pushFrame (.throwing q)))
def vx_X {S : Type} (px : S → Prop) (B : String → S → State → Prop) (A : Nat → Prop) : String → State → State → Prop := fun E st t => ∃ u : S, px u ∧ B E u t ∧ va_F A st t
section Runs
variable {p : Program} {l : Launch} {e : Env} {R : Room} {s : State} {m : MethodId} {args : Array Value} {below : List Frame} {meth : Method} {c : Code} {H : Heap} {locs : List Loc} {cells slots : Nat}
variable {y : MethodName} {bytes cc : ByteArray} {maxL nL mc ms n index : Nat} {ret : Option FieldType} {ws : List Cond} {rm : Room} {Pc : Array Value → State → Prop} {Qc : Array Value → State → Outcome → State → Prop} {XC : String → State → State → Prop} {free : Addr → Prop} {Ts : List Cond} {own C : String} {b : Addr} {As rest : List Value} {g : JFrame}
theorem vx_callBack (cb : CallB R s args own index y bytes maxL ret ws rm mc ms n) (hM : vx_Met l y ws rm Pc Qc XC mc ms free) (hbl : FrameBlind Pc) : vx_Back l R p e below s args y 3 8 (PreOf R mc ms Pc) (PostOf Qc mc ms free) (vx_Post XC mc ms free) := by
  obtain ⟨hrc, hrs, hfr, hlo, hws, hcw, -, hini, -⟩ := cb
  exact vx_back (bytes := bytes) (maxL := maxL) (ret := ret) hM hbl hrc hrs hfr hlo hws hcw (fun a' U hW => word_at hW (Or.inl (by first | rfl | simp [Cond.onTables, Cond.keeps, Cond.steady])) hini)
theorem vx_runV (S : CallFix p m c cc nL s args Ts own) (hM : vx_Met l y ws rm Pc Qc XC mc ms free) (cw : CallW R s args own C index y bytes maxL ret ws rm mc ms n) (hp : PreV s H C b Pc As)
    (hg : g.method = m) (hn : As.length = n) (hsize : g.locals.size = nL) (hstack : g.stack = As.reverse ++ .ref b :: rest) (hW : 2 * g.monitorRoom + (rest.map fun v => v.category).sum ≤ 8) (hdg : decode cc g.pc = .ok (.invokevirtual index, 3)) (hf : cells + mc ≤ R.cells ∧ slots + ms ≤ R.slots) :
    vx_Run p l e R s m args below meth c H locs cells slots mc ms g rest (Qc (Value.ref b :: As).toArray) XC free := by
  have hK : vx_Back l R p e below s args y 3 8 (PreOf R mc ms Pc) (PostOf Qc mc ms free) (vx_Post XC mc ms free) := vx_callBack cw.1 hM hp.1
  obtain ⟨⟨-, -, -, -, -, -, hcode, -, hy, hlen, hl⟩, hin, hse⟩ := cw
  obtain ⟨hx, hb, hml, ho, -⟩ := S
  obtain ⟨-, ⟨cellB, hcB, hoB, hclB⟩, hPc⟩ := hp
  intro T hT X
  rcases vx_callV X hx (C := C) (bytes := bytes) (maxL := maxL) (ret := ret) ho hl hin hse hcode hy hK (by rw [hT]; exact hcB) hoB hclB hg (hsize.trans hml.symm) (argsL := As) (rest := rest) (fun sig h => hn.trans (hlen sig h)) hstack hW (by rw [hb]; exact hdg)
    (fun vm₁ hW₁ => ⟨hf.1, hf.2, hPc (T.setVm vm₁) hT hW₁⟩) with ⟨v, vm₁, ⟨U', l2, c2, s2⟩, hW₁, X', ⟨g', mk, t, L, e1, e2, hq, h1, hL, h2, h3⟩, st⟩ | ⟨q, vm₁, ⟨U', l2, c2, s2⟩, hW₁, X', ⟨g', mk, t, L, E, ce, e1, e2, hq, hce, hcv, hcl, h1, hL, h2, h3⟩, st⟩
  · dsimp only [Pt.U, Pt.locs, Pt.cells, Pt.slots] at X' e1 e2 h1 h2 h3 st
    subst h1; subst h2; subst h3
    exact Or.inl ⟨v, (T.setVm vm₁).calling g' mk (Value.ref b :: As).toArray, t, U', L, hT, X', hL, e1, e2, hq, st⟩
  · dsimp only [Pt.U, Pt.locs, Pt.cells, Pt.slots] at X' e1 e2 h1 h2 h3 st hcl
    subst h1; subst h2; subst h3
    exact Or.inr ⟨q, (T.setVm vm₁).calling g' mk (Value.ref b :: As).toArray, t, U', L, E, ce, hT, X', hL, e1, e2, hq, hce, hcv, vx_cls hW₁ hcl, st⟩
theorem vx_runS (S : CallFix p m c cc nL s args Ts own) (hM : vx_Met l y ws rm Pc Qc XC mc ms free) (cw : CallB R s args own index y bytes maxL ret ws rm mc ms n ∧ (Cond.static y).before args s = true) (hp : PreS s H Pc As)
    (hg : g.method = m) (hn : As.length = n) (hsize : g.locals.size = nL) (hstack : g.stack = As.reverse ++ rest) (hW : 2 * g.monitorRoom + (rest.map fun v => v.category).sum ≤ 8) (hdg : decode cc g.pc = .ok (.invokestatic index, 3)) (hf : cells + mc ≤ R.cells ∧ slots + ms ≤ R.slots) :
    vx_Run p l e R s m args below meth c H locs cells slots mc ms g rest (Qc As.toArray) XC free := by
  have hK : vx_Back l R p e below s args y 3 8 (PreOf R mc ms Pc) (PostOf Qc mc ms free) (vx_Post XC mc ms free) := vx_callBack cw.1 hM hp.1
  obtain ⟨⟨-, -, -, -, -, -, hcode, hini, hy, hlen, hl⟩, hstt⟩ := cw
  obtain ⟨hx, hb, hml, ho, -⟩ := S
  intro T hT X
  rcases vx_callS X hx (bytes := bytes) (maxL := maxL) (ret := ret) ho hl hstt hini hcode hy hK hg (hsize.trans hml.symm) (argsL := As) (rest := rest) (fun sig h => hn.trans (hlen sig h)) hstack hW (by rw [hb]; exact hdg)
    (fun vm₁ hW₁ => ⟨hf.1, hf.2, hp.2 (T.setVm vm₁) hT hW₁⟩) with ⟨v, vm₁, ⟨U', l2, c2, s2⟩, hW₁, X', ⟨g', mk, t, L, e1, e2, hq, h1, hL, h2, h3⟩, st⟩ | ⟨q, vm₁, ⟨U', l2, c2, s2⟩, hW₁, X', ⟨g', mk, t, L, E, ce, e1, e2, hq, hce, hcv, hcl, h1, hL, h2, h3⟩, st⟩
  · dsimp only [Pt.U, Pt.locs, Pt.cells, Pt.slots] at X' e1 e2 h1 h2 h3 st
    subst h1; subst h2; subst h3
    exact Or.inl ⟨v, (T.setVm vm₁).calling g' mk As.toArray, t, U', L, hT, X', hL, e1, e2, hq, st⟩
  · dsimp only [Pt.U, Pt.locs, Pt.cells, Pt.slots] at X' e1 e2 h1 h2 h3 st hcl
    subst h1; subst h2; subst h3
    exact Or.inr ⟨q, (T.setVm vm₁).calling g' mk As.toArray, t, U', L, E, ce, hT, X', hL, e1, e2, hq, hce, hcv, vx_cls hW₁ hcl, st⟩
end Runs
section Rows
variable {p : Program} {l : Launch} {e : Env} {R : Room} {s : State} {m : MethodId} {args : Array Value} {below : List Frame} {meth : Method} {c : Code} {H : Heap} {locs : List Loc} {cells slots : Nat} {Q : State → Prop}
variable {mc ms : Nat} {free : Addr → Prop} {A0 A1 : Nat → Prop} {H0 : Heap} {a : Array Value} {pc : Nat} {ls : Array Slot} {st0 rest : List Value}
theorem vx_keep {st₀ t T' : State} {L : List Loc} (h0 : st₀.heap = H) (e1 : T'.heap = t.heap) (hS : va_S A0 H0 H locs) (hA : ∀ q, q < H.size → A1 q → A0 q) (hf : ∀ q, free q → A0 q) (hL : ∀ q ∈ L, free q.base) (hF : va_F A1 st₀ t) :
    H.size ≤ T'.heap.size ∧ (∀ q : Nat, q < H.size → ¬ A1 q → T'.heap[q]? = H[q]?) ∧ va_S A0 H0 T'.heap (locs ++ L) := by
  obtain ⟨hz, hk⟩ := hF
  rw [h0] at hz hk
  exact ⟨by rw [e1]; exact hz, fun q h1 h2 => by rw [e1]; exact hk q h1 h2,
    ⟨Nat.le_trans hS.1 (by rw [e1]; exact hz), fun q h1 h2 => by rw [e1, hk q (Nat.lt_of_lt_of_le h1 hS.1) (fun z => h2 (hA q (Nat.lt_of_lt_of_le h1 hS.1) z))]; exact hS.2.1 q h1 h2, fun q hq => by
      rcases List.mem_append.mp hq with h | h
      · exact hS.2.2 q h
      · exact hf _ (hL q h)⟩⟩
theorem vx_calli {S SX : Type} {post : Int32 → S → Prop} {px : SX → Prop} {B : S → State → Prop} {BX : String → SX → State → Prop} {AX : Nat → Prop} (hr : vx_Run p l e R s m args below meth c H locs cells slots mc ms (F0 m pc ls st0) rest (va_Qi post B A1 a) (vx_X px BX AX) free) (hS : va_S A0 H0 H locs) (hA : ∀ q, q < H.size → A1 q → A0 q) (hf : ∀ q, free q → A0 q) (hAX : ∀ q, q < H.size → AX q → A0 q)
    (kx : ∀ (E : String) (ce : Cell) (q9 : Addr) (u : SX) (t : State) (H1 : Heap) (locs1 : List Loc), t.heap = H1 → s.vm.Alike t.vm → px u → BX E u t → H.size ≤ H1.size → (∀ q : Nat, q < H.size → ¬ AX q → H1[q]? = H[q]?) → va_S A0 H0 H1 locs1 → H1[q9]? = some ce → ce.vm = .none → s.vm.findClass E = some ce.cls → vx_W p l e R s m args below meth c H1 locs1 (cells + mc) (slots + ms) Q (F0 m pc ls rest) q9)
    (kk : ∀ (r : Int32) (u : S) (t : State) (H1 : Heap) (locs1 : List Loc), t.heap = H1 → s.vm.Alike t.vm → post r u → B u t → H.size ≤ H1.size → (∀ q : Nat, q < H.size → ¬ A1 q → H1[q]? = H[q]?) → va_S A0 H0 H1 locs1 → W p l e R s m args below meth c H1 locs1 (cells + mc) (slots + ms) Q (F0 m (pc + 3) ls (.int r :: rest))) : W p l e R s m args below meth c H locs cells slots Q (F0 m pc ls st0) := by
  intro T hT X
  rcases hr T hT X with ⟨v, st₀, t, T', L, h0, X', hL, e1, e2, ⟨⟨r, u, hv, hp, hb⟩, hF⟩, st⟩ | ⟨q, st₀, t, T', L, E, ce, h0, X', hL, e1, e2, ⟨u, hp, hb, hF⟩, hce, hcv, hcl, st⟩
  · cases hv
    obtain ⟨k1, k2, k3⟩ := vx_keep h0 e1 hS hA hf hL hF
    obtain ⟨t2, a1, b1⟩ := kk r u t T'.heap (locs ++ L) e1.symm (by rw [← e2]; exact X'.warmed.alike) hp hb k1 k2 k3 T' rfl X'
    exact ⟨t2, st t2 a1, b1⟩
  · obtain ⟨k1, k2, k3⟩ := vx_keep h0 e1 hS hAX hf hL hF
    obtain ⟨t2, a1, b1⟩ := kx E ce q u t T'.heap (locs ++ L) e1.symm (by rw [← e2]; exact X'.warmed.alike) hp hb k1 k2 k3 (by rw [e1]; exact hce) hcv hcl T' rfl X'
    exact ⟨t2, st.trans a1, b1⟩
theorem vx_calll {S SX : Type} {post : Int64 → S → Prop} {px : SX → Prop} {B : S → State → Prop} {BX : String → SX → State → Prop} {AX : Nat → Prop} (hr : vx_Run p l e R s m args below meth c H locs cells slots mc ms (F0 m pc ls st0) rest (va_Ql post B A1 a) (vx_X px BX AX) free) (hS : va_S A0 H0 H locs) (hA : ∀ q, q < H.size → A1 q → A0 q) (hf : ∀ q, free q → A0 q) (hAX : ∀ q, q < H.size → AX q → A0 q)
    (kx : ∀ (E : String) (ce : Cell) (q9 : Addr) (u : SX) (t : State) (H1 : Heap) (locs1 : List Loc), t.heap = H1 → s.vm.Alike t.vm → px u → BX E u t → H.size ≤ H1.size → (∀ q : Nat, q < H.size → ¬ AX q → H1[q]? = H[q]?) → va_S A0 H0 H1 locs1 → H1[q9]? = some ce → ce.vm = .none → s.vm.findClass E = some ce.cls → vx_W p l e R s m args below meth c H1 locs1 (cells + mc) (slots + ms) Q (F0 m pc ls rest) q9)
    (kk : ∀ (r : Int64) (u : S) (t : State) (H1 : Heap) (locs1 : List Loc), t.heap = H1 → s.vm.Alike t.vm → post r u → B u t → H.size ≤ H1.size → (∀ q : Nat, q < H.size → ¬ A1 q → H1[q]? = H[q]?) → va_S A0 H0 H1 locs1 → W p l e R s m args below meth c H1 locs1 (cells + mc) (slots + ms) Q (F0 m (pc + 3) ls (.long r :: rest))) : W p l e R s m args below meth c H locs cells slots Q (F0 m pc ls st0) := by
  intro T hT X
  rcases hr T hT X with ⟨v, st₀, t, T', L, h0, X', hL, e1, e2, ⟨⟨r, u, hv, hp, hb⟩, hF⟩, st⟩ | ⟨q, st₀, t, T', L, E, ce, h0, X', hL, e1, e2, ⟨u, hp, hb, hF⟩, hce, hcv, hcl, st⟩
  · cases hv
    obtain ⟨k1, k2, k3⟩ := vx_keep h0 e1 hS hA hf hL hF
    obtain ⟨t2, a1, b1⟩ := kk r u t T'.heap (locs ++ L) e1.symm (by rw [← e2]; exact X'.warmed.alike) hp hb k1 k2 k3 T' rfl X'
    exact ⟨t2, st t2 a1, b1⟩
  · obtain ⟨k1, k2, k3⟩ := vx_keep h0 e1 hS hAX hf hL hF
    obtain ⟨t2, a1, b1⟩ := kx E ce q u t T'.heap (locs ++ L) e1.symm (by rw [← e2]; exact X'.warmed.alike) hp hb k1 k2 k3 (by rw [e1]; exact hce) hcv hcl T' rfl X'
    exact ⟨t2, st.trans a1, b1⟩
theorem vx_callf {S SX : Type} {post : UInt32 → S → Prop} {px : SX → Prop} {B : S → State → Prop} {BX : String → SX → State → Prop} {AX : Nat → Prop} (hr : vx_Run p l e R s m args below meth c H locs cells slots mc ms (F0 m pc ls st0) rest (va_Qf post B A1 a) (vx_X px BX AX) free) (hS : va_S A0 H0 H locs) (hA : ∀ q, q < H.size → A1 q → A0 q) (hf : ∀ q, free q → A0 q) (hAX : ∀ q, q < H.size → AX q → A0 q)
    (kx : ∀ (E : String) (ce : Cell) (q9 : Addr) (u : SX) (t : State) (H1 : Heap) (locs1 : List Loc), t.heap = H1 → s.vm.Alike t.vm → px u → BX E u t → H.size ≤ H1.size → (∀ q : Nat, q < H.size → ¬ AX q → H1[q]? = H[q]?) → va_S A0 H0 H1 locs1 → H1[q9]? = some ce → ce.vm = .none → s.vm.findClass E = some ce.cls → vx_W p l e R s m args below meth c H1 locs1 (cells + mc) (slots + ms) Q (F0 m pc ls rest) q9)
    (kk : ∀ (r : UInt32) (u : S) (t : State) (H1 : Heap) (locs1 : List Loc), t.heap = H1 → s.vm.Alike t.vm → post r u → B u t → H.size ≤ H1.size → (∀ q : Nat, q < H.size → ¬ A1 q → H1[q]? = H[q]?) → va_S A0 H0 H1 locs1 → W p l e R s m args below meth c H1 locs1 (cells + mc) (slots + ms) Q (F0 m (pc + 3) ls (.float r :: rest))) : W p l e R s m args below meth c H locs cells slots Q (F0 m pc ls st0) := by
  intro T hT X
  rcases hr T hT X with ⟨v, st₀, t, T', L, h0, X', hL, e1, e2, ⟨⟨r, u, hv, hp, hb⟩, hF⟩, st⟩ | ⟨q, st₀, t, T', L, E, ce, h0, X', hL, e1, e2, ⟨u, hp, hb, hF⟩, hce, hcv, hcl, st⟩
  · cases hv
    obtain ⟨k1, k2, k3⟩ := vx_keep h0 e1 hS hA hf hL hF
    obtain ⟨t2, a1, b1⟩ := kk r u t T'.heap (locs ++ L) e1.symm (by rw [← e2]; exact X'.warmed.alike) hp hb k1 k2 k3 T' rfl X'
    exact ⟨t2, st t2 a1, b1⟩
  · obtain ⟨k1, k2, k3⟩ := vx_keep h0 e1 hS hAX hf hL hF
    obtain ⟨t2, a1, b1⟩ := kx E ce q u t T'.heap (locs ++ L) e1.symm (by rw [← e2]; exact X'.warmed.alike) hp hb k1 k2 k3 (by rw [e1]; exact hce) hcv hcl T' rfl X'
    exact ⟨t2, st.trans a1, b1⟩
theorem vx_calld {S SX : Type} {post : UInt64 → S → Prop} {px : SX → Prop} {B : S → State → Prop} {BX : String → SX → State → Prop} {AX : Nat → Prop} (hr : vx_Run p l e R s m args below meth c H locs cells slots mc ms (F0 m pc ls st0) rest (va_Qd post B A1 a) (vx_X px BX AX) free) (hS : va_S A0 H0 H locs) (hA : ∀ q, q < H.size → A1 q → A0 q) (hf : ∀ q, free q → A0 q) (hAX : ∀ q, q < H.size → AX q → A0 q)
    (kx : ∀ (E : String) (ce : Cell) (q9 : Addr) (u : SX) (t : State) (H1 : Heap) (locs1 : List Loc), t.heap = H1 → s.vm.Alike t.vm → px u → BX E u t → H.size ≤ H1.size → (∀ q : Nat, q < H.size → ¬ AX q → H1[q]? = H[q]?) → va_S A0 H0 H1 locs1 → H1[q9]? = some ce → ce.vm = .none → s.vm.findClass E = some ce.cls → vx_W p l e R s m args below meth c H1 locs1 (cells + mc) (slots + ms) Q (F0 m pc ls rest) q9)
    (kk : ∀ (r : UInt64) (u : S) (t : State) (H1 : Heap) (locs1 : List Loc), t.heap = H1 → s.vm.Alike t.vm → post r u → B u t → H.size ≤ H1.size → (∀ q : Nat, q < H.size → ¬ A1 q → H1[q]? = H[q]?) → va_S A0 H0 H1 locs1 → W p l e R s m args below meth c H1 locs1 (cells + mc) (slots + ms) Q (F0 m (pc + 3) ls (.double r :: rest))) : W p l e R s m args below meth c H locs cells slots Q (F0 m pc ls st0) := by
  intro T hT X
  rcases hr T hT X with ⟨v, st₀, t, T', L, h0, X', hL, e1, e2, ⟨⟨r, u, hv, hp, hb⟩, hF⟩, st⟩ | ⟨q, st₀, t, T', L, E, ce, h0, X', hL, e1, e2, ⟨u, hp, hb, hF⟩, hce, hcv, hcl, st⟩
  · cases hv
    obtain ⟨k1, k2, k3⟩ := vx_keep h0 e1 hS hA hf hL hF
    obtain ⟨t2, a1, b1⟩ := kk r u t T'.heap (locs ++ L) e1.symm (by rw [← e2]; exact X'.warmed.alike) hp hb k1 k2 k3 T' rfl X'
    exact ⟨t2, st t2 a1, b1⟩
  · obtain ⟨k1, k2, k3⟩ := vx_keep h0 e1 hS hAX hf hL hF
    obtain ⟨t2, a1, b1⟩ := kx E ce q u t T'.heap (locs ++ L) e1.symm (by rw [← e2]; exact X'.warmed.alike) hp hb k1 k2 k3 (by rw [e1]; exact hce) hcv hcl T' rfl X'
    exact ⟨t2, st.trans a1, b1⟩
theorem vx_callv {S SX : Type} {post : S → Prop} {px : SX → Prop} {B : S → State → Prop} {BX : String → SX → State → Prop} {AX : Nat → Prop} (hr : vx_Run p l e R s m args below meth c H locs cells slots mc ms (F0 m pc ls st0) rest (va_Qv post B A1 a) (vx_X px BX AX) free) (hS : va_S A0 H0 H locs) (hA : ∀ q, q < H.size → A1 q → A0 q) (hf : ∀ q, free q → A0 q) (hAX : ∀ q, q < H.size → AX q → A0 q)
    (kx : ∀ (E : String) (ce : Cell) (q9 : Addr) (u : SX) (t : State) (H1 : Heap) (locs1 : List Loc), t.heap = H1 → s.vm.Alike t.vm → px u → BX E u t → H.size ≤ H1.size → (∀ q : Nat, q < H.size → ¬ AX q → H1[q]? = H[q]?) → va_S A0 H0 H1 locs1 → H1[q9]? = some ce → ce.vm = .none → s.vm.findClass E = some ce.cls → vx_W p l e R s m args below meth c H1 locs1 (cells + mc) (slots + ms) Q (F0 m pc ls rest) q9)
    (kk : ∀ (u : S) (t : State) (H1 : Heap) (locs1 : List Loc), t.heap = H1 → s.vm.Alike t.vm → post u → B u t → H.size ≤ H1.size → (∀ q : Nat, q < H.size → ¬ A1 q → H1[q]? = H[q]?) → va_S A0 H0 H1 locs1 → W p l e R s m args below meth c H1 locs1 (cells + mc) (slots + ms) Q (F0 m (pc + 3) ls (rest))) : W p l e R s m args below meth c H locs cells slots Q (F0 m pc ls st0) := by
  intro T hT X
  rcases hr T hT X with ⟨v, st₀, t, T', L, h0, X', hL, e1, e2, ⟨⟨u, hv, hp, hb⟩, hF⟩, st⟩ | ⟨q, st₀, t, T', L, E, ce, h0, X', hL, e1, e2, ⟨u, hp, hb, hF⟩, hce, hcv, hcl, st⟩
  · cases hv
    obtain ⟨k1, k2, k3⟩ := vx_keep h0 e1 hS hA hf hL hF
    obtain ⟨t2, a1, b1⟩ := kk u t T'.heap (locs ++ L) e1.symm (by rw [← e2]; exact X'.warmed.alike) hp hb k1 k2 k3 T' rfl X'
    exact ⟨t2, st t2 a1, b1⟩
  · obtain ⟨k1, k2, k3⟩ := vx_keep h0 e1 hS hAX hf hL hF
    obtain ⟨t2, a1, b1⟩ := kx E ce q u t T'.heap (locs ++ L) e1.symm (by rw [← e2]; exact X'.warmed.alike) hp hb k1 k2 k3 (by rw [e1]; exact hce) hcv hcl T' rfl X'
    exact ⟨t2, st.trans a1, b1⟩
/-- caught by the row x of this method's table; the rows ahead don't take it -/
theorem vx_catch {own name : String} {E : String} {ce : Cell} {q : Addr} (hown : s.vm.findClass own = some m.cls) (pre : List ExceptionTableEntry) (x : ExceptionTableEntry) (suf : List ExceptionTableEntry) (hsplit : c.exceptionTable.toList = pre ++ x :: suf)
    (hpass : ∀ z ∈ pre, covers z pc = false ∨ (z.catchType ≠ 0 ∧ ∃ nm : String, (Cond.classLink own z.catchType nm).before args s = true ∧ va_Nc E nm s)) (hx : covers x pc = true) (h0 : x.catchType ≠ 0)
    (hlink : (Cond.classLink own x.catchType name).before args s = true) (hcast : (Cond.castable E name).before args s = true) (hcell : H[q]? = some ce) (hv : ce.vm = .none) (hcl : s.vm.findClass E = some ce.cls)
    (kk : W p l e R s m args below meth c H locs cells slots Q (F0 m x.handlerPc ls [.ref q])) : vx_W p l e R s m args below meth c H locs cells slots Q (F0 m pc ls rest) q := by
  intro T hT X
  have hpl : e.platform.magicAccessors = ({} : Platform).magicAccessors := by rw [X.admits.platform]
  obtain ⟨c3, c4, hc3, hc4, hasg⟩ := Cond.castable_spec hcast
  cases Option.some.inj (hc3.symm.trans hcl)
  obtain ⟨c5, hc5, hcl5⟩ := Cond.classLink_spec hown hlink e.platform hpl
  cases Option.some.inj (hc4.symm.trans hc5)
  obtain ⟨vm', X', st⟩ := X.thenCaughtThrough q (g := F0 m pc ls rest) rfl (Steps.refl _) (by rw [hT]; exact hcell) (by rw [hv]; rfl) (by obtain ⟨k9, h9, -⟩ := Vm.findClass_spec hcl; exact ⟨k9, h9⟩) pre x suf hsplit
    (fun z hz => by
      rcases hpass z hz with h | ⟨hz0, nm, hl1, hn1⟩
      · exact Or.inl h
      · obtain ⟨c6, hc6, hcl6⟩ := Cond.classLink_spec hown hl1 e.platform hpl
        obtain ⟨a8, b8, h1, h2, h3⟩ := hn1
        cases Option.some.inj (h1.symm.trans hcl)
        cases Option.some.inj (h2.symm.trans hc6)
        exact Or.inr ⟨hz0, _, hcl6, h3⟩) hx (Or.inr ⟨h0, c4, hcl5, hasg⟩)
  obtain ⟨t, a1, b1⟩ := kk (T.setVm vm') hT X'
  exact ⟨t, st.trans a1, b1⟩
end Rows
section Ends
variable {p : Program} {l : Launch} {e : Env} {R : Room} {s : State} {m : MethodId} {args : Array Value} {below : List Frame} {meth : Method} {c : Code} {H : Heap} {locs : List Loc} {cells slots : Nat} {Q : State → Prop}
variable {mc ms : Nat} {free : Addr → Prop} {A0 A1 : Nat → Prop} {H0 : Heap} {a : Array Value} {ls : Array Slot} {st0 rest : List Value}
variable {Qc : Array Value → State → Outcome → State → Prop} {XC : String → State → State → Prop}
/-- what a body that may throw owes at its end -/
def vx_MQ (below : List Frame) (Qc : Array Value → State → Outcome → State → Prop) (XC : String → State → State → Prop) (a : Array Value) (s : State) (mc ms : Nat) (free : Addr → Prop) : State → Prop := fun t =>
  ∃ o, t.status = .running ∧ Ended t below o ∧ vx_Q Qc XC mc ms free a s o t
theorem vx_ret {g : JFrame} {mc ms : Nat} (k : W p l e R s m args below meth c H locs cells slots (MQ below Qc args s mc ms free) g) : W p l e R s m args below meth c H locs cells slots (vx_MQ below Qc XC args s mc ms free) g := by
  intro T hT X
  obtain ⟨t, a1, o, b1, b2, b3, b4⟩ := k T hT X
  exact ⟨t, a1, o, b1, b2, Or.inl ⟨b3, b4⟩⟩
/-- not caught here: it goes on to the caller -/
theorem vx_widen {g : JFrame} {q : Addr} {k n : Nat} (h1 : cells ≤ k) (h2 : slots ≤ n) (kk : vx_W p l e R s m args below meth c H locs k n Q g q) : vx_W p l e R s m args below meth c H locs cells slots Q g q := fun T hT X => kk T hT (stand_widen X h1 h2)
theorem vx_out {pc : Nat} {E : String} {ce : Cell} {q : Addr} {mc ms : Nat} (hout : ∀ x ∈ c.exceptionTable.toList, covers x pc = false) (hlocks : meth.locks = false) (hcell : H[q]? = some ce) (hv : ce.vm = .none) (hcl : s.vm.findClass E = some ce.cls)
    (hx : ∀ t : State, t.heap = H → s.vm.Alike t.vm → XC E s t) (hf : ∀ z ∈ locs, free z.base) (hc : cells ≤ mc) (hs : slots ≤ ms) :
    vx_W p l e R s m args below meth c H locs cells slots (vx_MQ below Qc XC args s mc ms free) (F0 m pc ls rest) q := by
  intro T hT X
  obtain ⟨st1, hrun, hend, hW, hsm⟩ := X.leaveThrown q (g := F0 m pc ls rest) rfl rfl rfl hout hlocks
  have hcell9 : (T.setFrames (.throwing q :: below)).heap[q]? = some ce := by
    show T.heap[q]? = some ce
    rw [hT]; exact hcell
  exact ⟨_, st1, .threw q, hrun, hend, Or.inr ⟨q, rfl, E, ce, locs, hx _ hT hW.alike, hcell9, hv, hcl, hW, hsm.mono hc hs, hf⟩⟩
theorem vx_frame {U : State} {k n : Nat} (h : s.sameButNew ({ U with vm := s.vm } : State) locs k n) : s.heap.size ≤ U.heap.size ∧ ∀ q : Nat, q < s.heap.size → (∀ z ∈ locs, z.base ≠ q) → U.heap[q]? = s.heap[q]? := by
  obtain ⟨-, h2, -, -, -, h6⟩ := h
  refine ⟨h2, fun q hq hz => ?_⟩
  obtain ⟨c9, e1, e2, e3, e4⟩ := h6 q _ (Array.getElem?_eq_getElem hq)
  have hs : c9.slots = (s.heap[q]).slots := Array.ext_getElem? fun i => e4 i fun hm => hz _ hm rfl
  have h9 : c9 = s.heap[q] := by
    rw [hs] at e2
    exact e2
  have e5 : U.heap[q]? = some c9 := e1
  rw [e5, h9, Array.getElem?_eq_getElem hq]
/-- the words of a throw but the four that speak of the heap -/
def vx_no (w : Cond) : Bool := decide (w ≠ .isRef (.static Bundle.tN "UNASSIGNED_STACK" Bundle.steD)) && decide (w ≠ .isRef (.static Bundle.tN "SUPPRESSED_SENTINEL" Bundle.listD)) && decide (w ≠ .laysStatic Bundle.tN "UNASSIGNED_STACK" Bundle.steD) && decide (w ≠ .laysStatic Bundle.tN "SUPPRESSED_SENTINEL" Bundle.listD)
def vx_at0 (own : String) (ic : Nat) (X : String) (names : List String) : List Cond := (Bundle.ownAtoms0 own ic X names).filter vx_no
def vx_atS (own : String) (ic : Nat) (X : String) (names : List String) : List Cond := (Bundle.ownAtoms own ic X names).filter vx_no
/-- a word that the tables alone decide, or a good one -/
def vx_ot (w : Cond) : Bool := w.onTables || goodWord w
theorem vx_ot_at {args a' : Array Value} {s U : State} {w : Cond} (hW : s.WarmedH U.vm) (hvm : s.vm = U.vm) (hg : vx_ot w = true) (h : w.before args s = true) : w.before a' U = true := by
  simp only [vx_ot, Bool.or_eq_true] at hg
  rcases hg with hg | hg
  · exact va_tabs hg hvm h
  · exact word_at hW (good_of_word hg) h
/-- a list's words: the good ones out of the method's own list, the others by premises of their own -/
theorem vx_hat {args : Array Value} {s : State} {L B : List Cond} (h1 : ∀ w ∈ L.filter goodWord, w.before args s = true) (h2 : ∀ w ∈ L.filter (fun w => !goodWord w), w ∈ B) (h3 : ∀ w ∈ B, w.before args s = true) : ∀ w ∈ L, w.before args s = true := by
  intro w hw
  by_cases g : goodWord w = true
  · exact h1 w (List.mem_filter.mpr ⟨hw, g⟩)
  · refine h3 w (h2 w (List.mem_filter.mpr ⟨hw, ?_⟩))
    show (!goodWord w) = true
    cases hgw : goodWord w
    · rfl
    · exact absurd hgw g
theorem vx_c {args : Array Value} {s : State} {w : Cond} {B : List Cond} (h : w.before args s = true) (t : ∀ w ∈ B, w.before args s = true) : ∀ w' ∈ w :: B, w'.before args s = true := fun w' h' => (List.mem_cons.mp h').elim (fun e => by rw [e]; exact h) (t w')
theorem vx_n {args : Array Value} {s : State} : ∀ w ∈ ([] : List Cond), w.before args s = true := fun _ h => nomatch h
theorem vx_own {args : Array Value} {s : State} {L : List Cond} (h1 : ∀ w ∈ L.filter vx_no, w.before args s = true)
    (hU : (Cond.isRef (.static Bundle.tN "UNASSIGNED_STACK" Bundle.steD)).before args s = true) (hN : (Cond.isRef (.static Bundle.tN "SUPPRESSED_SENTINEL" Bundle.listD)).before args s = true)
    (lU : (Cond.laysStatic Bundle.tN "UNASSIGNED_STACK" Bundle.steD).before args s = true) (lN : (Cond.laysStatic Bundle.tN "SUPPRESSED_SENTINEL" Bundle.listD).before args s = true) : ∀ w ∈ L, w.before args s = true := by
  intro w hw
  by_cases e1 : w = .isRef (.static Bundle.tN "UNASSIGNED_STACK" Bundle.steD)
  · rw [e1]; exact hU
  · by_cases e2 : w = .isRef (.static Bundle.tN "SUPPRESSED_SENTINEL" Bundle.listD)
    · rw [e2]; exact hN
    · by_cases e3 : w = .laysStatic Bundle.tN "UNASSIGNED_STACK" Bundle.steD
      · rw [e3]; exact lU
      · by_cases e4 : w = .laysStatic Bundle.tN "SUPPRESSED_SENTINEL" Bundle.listD
        · rw [e4]; exact lN
        · exact h1 w (List.mem_filter.mpr ⟨hw, by unfold vx_no; rw [decide_eq_true e1, decide_eq_true e2, decide_eq_true e3, decide_eq_true e4]; rfl⟩)
/-- where a static field lies, its class's statics cell in H -/
def vx_L (C n d : String) (A : Nat → Prop) (U : State) (H : Heap) : Prop := ∃ (c : ClassId) (k : Class) (i : Nat) (f : Field) (a : Nat) (cell : Cell), U.vm.findClass C = some c ∧ U.fieldFound? C n d = some (c, k, i, f) ∧ f.isStatic = true ∧ k.statics = some a ∧ H[a]? = some cell ∧ cell.vm.isStatics = true ∧ cell.cls = c ∧ f.slot < cell.slots.size ∧ k.staticTypes[f.slot]? = some f.type ∧ ¬ A a
theorem vx_L.moved {C n d : String} {A : Nat → Prop} {u U : State} {H : Heap} (hvm : u.vm.Alike U.vm) (h : vx_L C n d A u H) : vx_L C n d A U H := by
  obtain ⟨c, k, i, f, a, cell, h1, h2, h3, h4, h5, h6, h7, h8, h9, h10⟩ := h
  obtain ⟨k', hi', he⟩ := State.fieldFound?_setVm hvm h2
  exact ⟨c, k', i, f, a, cell, by rw [hvm.findClass]; exact h1, hi', h3, by rw [he]; exact h4, h5, h6, h7, h8, by rw [he]; exact h9, h10⟩
theorem vx_L.kept {C n d : String} {A : Nat → Prop} {U : State} {H H1 : Heap} (h : vx_L C n d A U H) (hq : ∀ a : Nat, a < H.size → ¬ A a → H1[a]? = H[a]?) : vx_L C n d A U H1 := by
  obtain ⟨c, k, i, f, a, cell, h1, h2, h3, h4, h5, h6, h7, h8, h9, h10⟩ := h
  exact ⟨c, k, i, f, a, cell, h1, h2, h3, h4, by rw [hq a (Array.getElem?_eq_some_iff.mp h5).1 h10]; exact h5, h6, h7, h8, h9, h10⟩
theorem vx_L.narrow {C n d : String} {A B : Nat → Prop} {U : State} {H : Heap} (h : vx_L C n d A U H) (hAB : ∀ q, B q → A q) : vx_L C n d B U H := by
  obtain ⟨c, k, i, f, a, cell, h1, h2, h3, h4, h5, h6, h7, h8, h9, h10⟩ := h
  exact ⟨c, k, i, f, a, cell, h1, h2, h3, h4, h5, h6, h7, h8, h9, fun z => h10 (hAB _ z)⟩
theorem vx_L.word {C n d : String} {A : Nat → Prop} {s : State} {args : Array Value} (h : vx_L C n d A s s.heap) : (Cond.laysStatic C n d).before args s = true := by
  obtain ⟨c, k, i, f, a, cell, h1, h2, h3, h4, h5, h6, h7, h8, h9, -⟩ := h
  show (Cond.laysStatic C n d).holds args s none s [] = true
  exact Cond.laysStatic_of h1 h2 h3 h4 h5 h6 h7 h8 h9
/-- .. and what it holds: null or some reference -/
def vx_Zq (C n d : String) (A : Nat → Prop) (U : State) (H : Heap) : Prop := va_Zq C n d A U H ∧ vx_L C n d A U H
theorem vx_Zq.moved {C n d : String} {A : Nat → Prop} {u U : State} {H : Heap} (hvm : u.vm.Alike U.vm) (h : vx_Zq C n d A u H) : vx_Zq C n d A U H := ⟨va_Zq.moved hvm h.1, vx_L.moved hvm h.2⟩
theorem vx_Zq.kept {C n d : String} {A : Nat → Prop} {U : State} {H H1 : Heap} (h : vx_Zq C n d A U H) (hq : ∀ a : Nat, a < H.size → ¬ A a → H1[a]? = H[a]?) : vx_Zq C n d A U H1 := ⟨va_Zq.kept h.1 hq, vx_L.kept h.2 hq⟩
theorem vx_Zq.narrow {C n d : String} {A B : Nat → Prop} {U : State} {H : Heap} (h : vx_Zq C n d A U H) (hAB : ∀ q, B q → A q) : vx_Zq C n d B U H := ⟨va_Zq.narrow h.1 hAB, vx_L.narrow h.2 hAB⟩
theorem vx_Zqof {args : Array Value} {s : State} {C n d : String} {A : Nat → Prop} (hl : (Cond.laysStatic C n d).before args s = true) (hini : (Cond.initialized C).before args s = true) (h : (Cond.isRef (.static C n d)).before args s = true) (hA : ∀ a : Nat, a < s.heap.size → ¬ A a) : vx_Zq C n d A s s.heap := by
  refine ⟨va_Zqof hl hini h hA, ?_⟩
  obtain ⟨c, k, i, f, a, cell, h1, h2, h3, h4, h5, h6, h7, h8, h9⟩ := Cond.laysStatic_spec hl
  exact ⟨c, k, i, f, a, cell, h1, h2, h3, h4, h5, h6, h7, h8, h9, hA a (Array.getElem?_eq_some_iff.mp h5).1⟩
theorem vx_isRef {C n d : String} {v : Value} {A : Nat → Prop} {s : State} {args : Array Value} (h : va_Z C n d v A s s.heap) (hv : v.isRef = true) : (Cond.isRef (.static C n d)).before args s = true := by
  obtain ⟨cf, kf, fi, f, a, cell, h1, h2, h3, h4, h5, h6, h7, -⟩ := h
  have he : (Term.static C n d).eval args s none [] s = some v := by
    simp [Term.eval, State.fieldNamed?, h1, h2, h4, h5, h6, h7]
  simp only [Cond.before, Cond.holds, Cond.value, he]
  cases v <;> simp_all [Value.isRef]
theorem vx_isRefq {C n d : String} {A : Nat → Prop} {s : State} {args : Array Value} (h : va_Zq C n d A s s.heap) : (Cond.isRef (.static C n d)).before args s = true := by
  rcases h with h | ⟨t, h⟩
  · exact vx_isRef h rfl
  · exact vx_isRef h rfl
/-- the same frame, seen from here: as if the method were called anew in this heap -/
theorem vx_rebase {T : State} (X : Stand p l e R s m args below meth c T locs cells slots) {R' : Room} (hf : R'.frames ≤ R.frames) (hl : R'.locals ≤ R.locals) (hc : cells + R'.cells ≤ R.cells) (hs : slots + R'.slots ≤ R.slots) :
    Stand p l e R' ((T.setVm s.vm).setFrames (.invoking m args :: below)) m args below meth c T [] 0 0 := by
  have htop : (T.setVm s.vm).topJava?.isSome := X.here.top
  have hF : ((T.setVm s.vm).setFrames (.invoking m args :: below)).frames = .invoking m args :: below := State.frames_setFrames _ (State.cur_lt_of_top htop)
  obtain ⟨g₀, hg0⟩ := Option.isSome_iff_exists.mp htop
  obtain ⟨r, hr⟩ := State.topJava?_eq_some.mp hg0
  have hl9 : e.platform.stackLimits (T.setVm s.vm).me = e.platform.stackLimits s.me := X.limits
  have hb9 : (T.setVm s.vm).me.stackBytes = s.me.stackBytes := X.bytes
  refine ⟨X.admits, X.cas, X.clock, hF, ?_, X.hears, X.method, X.code, X.here, X.tail, X.warmed, ?_, ?_, ?_⟩
  · have h := X.room
    have hU : ((T.setVm s.vm).setFrames (.invoking m args :: below)).localsInUse = s.localsInUse := by
      rw [State.localsInUse_invoking hF (meth := meth) (c := c) X.method X.code, State.localsInUse_invoking X.frames X.method X.code]
    simp only [State.hasRoom, Bool.and_eq_true, decide_eq_true_eq] at h ⊢
    obtain ⟨⟨⟨⟨h1, h2, h3, h4, h5, h6⟩, h7⟩, h8⟩, h9⟩ := h
    rw [X.frames, List.length_cons] at h2 h3
    have q1 := X.heapSize
    have q2 := X.used
    simp only [hF, hU, List.length_cons, State.stackLimits_setFrames, State.stackBytes_setFrames, hl9, hb9]
    refine ⟨⟨⟨⟨by omega, by omega, by omega, by omega, by omega, h6⟩, ?_⟩, ?_⟩, X.book⟩
    · show T.heap.size + R'.cells ≤ e.platform.maxCells
      omega
    · show T.slotsUsed + R'.slots ≤ e.platform.maxSlots
      omega
  · rw [State.stackLimits_setFrames]; rfl
  · rw [State.stackBytes_setFrames]; rfl
  · refine ⟨?_, Nat.le_refl _, Nat.le_refl _, ?_, ?_, fun a c9 h9 => ⟨c9, h9, rfl, rfl, fun _ _ => rfl⟩⟩
    · obtain ⟨t, ht, -⟩ := State.frames_cons hr
      show T.setVm s.vm = { ((T.setVm s.vm).setFrames (.invoking m args :: below)).setFrames (T.setVm s.vm).frames with heap := T.heap, slotsUsed := T.slotsUsed }
      rw [State.setFrames_setFrames, State.setFrames_self ht]
      rfl
    · show T.slotsUsed = T.slotsUsed + ((T.heap.toList.drop T.heap.size).map (·.slots.size)).sum
      rw [List.drop_eq_nil_of_le (Nat.le_of_eq Array.length_toList)]
      rfl
    · show ((T.heap.toList.drop T.heap.size).map (·.slots.size)).sum ≤ 0
      rw [List.drop_eq_nil_of_le (Nat.le_of_eq Array.length_toList)]
      exact Nat.le_refl _
/-- 'throw new E()': new; dup; invokespecial; athrow -/
theorem vx_throw0 {cc : ByteArray} {pc : Nat} (hexec : p.tables.exec = Jvm.exec) (hb : c.code = cc) (hl : l.stackTraces = false) {own cls : String} {names : List String} {ik ic mc ms : Nat} {A : Nat → Prop}
    (hown : s.vm.findClass own = some m.cls) (hcls : Bundle.fit cls = true) (hnames : ∀ n ∈ names, Bundle.fit n = true)
    (hk : (Cond.classLink own ik cls).before args s = true) (hini : (Cond.initialized cls).before args s = true) (hat : ∀ w ∈ vx_at0 own ic cls names, w.before args s = true)
    (hgood : ∀ w ∈ Cond.classLink own ik cls :: Cond.initialized cls :: vx_at0 own ic cls names, vx_ot w = true)
    (hU : vx_Zq Bundle.tN "UNASSIGNED_STACK" Bundle.steD A s s.heap) (hN : vx_Zq Bundle.tN "SUPPRESSED_SENTINEL" Bundle.listD A s s.heap) (hS : va_S A s.heap H locs) (hsize : ls.size = c.maxLocals)
    (d0 : decode cc pc = .ok (.new ik, 3)) (d3 : decode cc (pc + 3) = .ok (.dup, 1)) (d4 : decode cc (pc + 4) = .ok (.invokespecial ic, 3)) (d7 : decode cc (pc + 7) = .ok (.athrow, 1))
    (hout : ∀ x ∈ c.exceptionTable.toList, covers x (pc + 7) = false)
    (hRframes : names.length + 3 < R.frames) (hRlocals : (rest.map fun v => v.category).sum + (13 * (names.length + 1) + 42) ≤ R.locals) (hRcells : cells + 1 ≤ R.cells) (hRslots : slots + 6 ≤ R.slots) (hlocks : meth.locks = false)
    (hx : ∀ t : State, s.vm.Alike t.vm → H.size ≤ t.heap.size → (∀ q : Nat, q < H.size → t.heap[q]? = H[q]?) → XC cls s t)
    (hf : ∀ z ∈ locs, free z.base) (hc : cells + 1 ≤ mc) (hs : slots + 6 ≤ ms) :
    W p l e R s m args below meth c H locs cells slots (vx_MQ below Qc XC args s mc ms free) (F0 m pc ls rest) := by
  intro T hT X
  have htr : e.platform.stackTraces = false := (show e.platform.stackTraces = l.stackTraces by rw [X.admits.platform]).trans hl
  have Y := vx_rebase X (R' := { frames := R.frames, locals := R.locals, cells := 1, slots := 6 }) (Nat.le_refl _) (Nat.le_refl _) hRcells hRslots
  obtain ⟨s', hA⟩ : ∃ z, z = (T.setVm s.vm).setFrames (.invoking m args :: below) := ⟨_, rfl⟩
  rw [← hA] at Y
  have hvm : s'.vm = s.vm := by rw [hA]; rfl
  have hhp : s'.heap = H := by rw [hA]; exact hT
  have hW0 : s.WarmedH s'.vm := by rw [hvm]; exact State.WarmedH.refl s
  have hat' : ∀ w ∈ vx_at0 own ic cls names, w.before args s' = true := fun w hw => vx_ot_at hW0 hvm.symm (hgood w (List.mem_cons_of_mem _ (List.mem_cons_of_mem _ hw))) (hat w hw)
  have hk' : (Cond.classLink own ik cls).before args s' = true := vx_ot_at hW0 hvm.symm (hgood _ List.mem_cons_self) hk
  have hini' : (Cond.initialized cls).before args s' = true := vx_ot_at hW0 hvm.symm (hgood _ (List.mem_cons_of_mem _ List.mem_cons_self)) hini
  have hU' : vx_Zq Bundle.tN "UNASSIGNED_STACK" Bundle.steD A s' s'.heap := by rw [hhp]; exact vx_Zq.moved hW0.alike (hU.kept hS.2.1)
  have hN' : vx_Zq Bundle.tN "SUPPRESSED_SENTINEL" Bundle.listD A s' s'.heap := by rw [hhp]; exact vx_Zq.moved hW0.alike (hN.kept hS.2.1)
  have h : ∀ w ∈ Bundle.ownAtoms0 own ic cls names, w.before args s' = true := vx_own hat' (vx_isRefq hU'.1) (vx_isRefq hN'.1) hU'.2.word hN'.2.word
  have hown' : s'.vm.findClass own = some m.cls := by rw [hvm]; exact hown
  have hins : (Cond.instantiable cls 6).before args s' = true := h _ (by simp [Bundle.ownAtoms0])
  obtain ⟨vm₁, cX, kX, hfX, hkX, -, -, X₁, st1⟩ := Y.newCold hexec (own := own) (C := cls) (index := ik) (n := 6) hown' hk' hins hini'
    (g := F0 m pc ls rest) rfl (by rw [hb]; exact d0) (Nat.le_refl _) (Nat.le_refl _)
  generalize hT1 : (T.setVm vm₁).pushCell { cls := cX, slots := kX.instanceTypes.map defaultValue, vm := .none } = T1 at X₁ st1
  have hcat : (Value.ref T.heap.size).category = 1 := rfl
  have hcellA : T1.heap[T.heap.size]? = some (freshCell cX kX) := by rw [← hT1]; exact State.heap_pushCell_size _ _
  have d3' : decode c.code (pc + 3) = .ok (.dup, 1) := by rw [hb]; exact d3
  obtain ⟨U, hsteps, hrun, hend, hW, hsame, ce, hce, hO⟩ := X₁.ctorThrow0 hexec htr (own := own) (cls := cls) (names := names) (ic := ic) hown' hcls hnames h (fun x hx => nomatch hx) hfX hkX hcellA (by rw [hhp, hT]; exact Nat.le_refl _)
    (g := { method := m, pc := pc + 4, locals := ls, stack := .ref T.heap.size :: .ref T.heap.size :: rest, locked := none }) rfl hsize rfl rfl (rest := rest) rfl
    (by rw [hb]; exact d4) (by rw [hb]; exact d7) hout hRframes (by simp only [List.map_cons, List.sum_cons, hcat]; omega) hlocks
  obtain ⟨f1, f2⟩ := vx_frame hsame
  rw [hhp] at f1 f2
  have hWs : s.WarmedH U.vm := State.WarmedH.trans hW0 hW
  have hcl : s.vm.findClass cls = some ce.cls := by
    have h9 := hO.cls
    rw [hvm] at h9
    exact h9
  have hall : s.sameButNew ({ U with vm := s.vm } : State) locs mc ms := by
    subst hA
    obtain ⟨e1, e2⟩ := hsame
    rw [State.setFrames_setFrames] at e1
    have h2 : (T.setVm s.vm).sameButNew ({ U with vm := s.vm } : State) [] (0 + 1) (0 + 6) := ⟨e1, e2⟩
    have h3 := X.same.trans h2
    rw [List.append_nil] at h3
    exact h3.mono hc hs
  refine ⟨U, ?_, .threw T.heap.size, hrun, hend, Or.inr ⟨T.heap.size, rfl, cls, ce, locs, hx U hWs.alike f1 (fun q hq => f2 q hq (fun z hz => nomatch hz)), hce, hO.vm, hcl, hWs, hall, hf⟩⟩
  refine st1 _ ?_
  show Steps p.tables e below (T1.setTop { method := m, pc := pc + 3, locals := ls, stack := .ref T.heap.size :: rest, locked := none }) _
  jvm_step X₁.here [X₁.here.top, hexec, d3', Value.category]
  exact hsteps
/-- 'throw new E("text")': new; dup; ldc; invokespecial; athrow -/
theorem vx_throwS {cc : ByteArray} {pc : Nat} (hexec : p.tables.exec = Jvm.exec) (hb : c.code = cc) (hl : l.stackTraces = false) {own cls text : String} {names : List String} {ik is ic mc ms sa : Nat} {A : Nat → Prop}
    (hown : s.vm.findClass own = some m.cls) (hcls : Bundle.fit cls = true) (hnames : ∀ n ∈ names, Bundle.fit n = true)
    (hk : (Cond.classLink own ik cls).before args s = true) (hini : (Cond.initialized cls).before args s = true) (hstr : vk_R own is text sa s) (hat : ∀ w ∈ vx_atS own ic cls names, w.before args s = true)
    (hgood : ∀ w ∈ Cond.classLink own ik cls :: Cond.initialized cls :: vx_atS own ic cls names, vx_ot w = true)
    (hU : vx_Zq Bundle.tN "UNASSIGNED_STACK" Bundle.steD A s s.heap) (hN : vx_Zq Bundle.tN "SUPPRESSED_SENTINEL" Bundle.listD A s s.heap) (hS : va_S A s.heap H locs) (hsize : ls.size = c.maxLocals)
    (d0 : decode cc pc = .ok (.new ik, 3)) (d3 : decode cc (pc + 3) = .ok (.dup, 1)) (d4 : decode cc (pc + 4) = .ok (.ldc is, 2)) (d6 : decode cc (pc + 6) = .ok (.invokespecial ic, 3)) (d9 : decode cc (pc + 9) = .ok (.athrow, 1))
    (hout : ∀ x ∈ c.exceptionTable.toList, covers x (pc + 9) = false)
    (hRframes : names.length + 3 < R.frames) (hRlocals : (rest.map fun v => v.category).sum + (13 * (names.length + 1) + 43) ≤ R.locals) (hRcells : cells + 1 ≤ R.cells) (hRslots : slots + 6 ≤ R.slots) (hlocks : meth.locks = false)
    (hx : ∀ t : State, s.vm.Alike t.vm → H.size ≤ t.heap.size → (∀ q : Nat, q < H.size → t.heap[q]? = H[q]?) → XC cls s t)
    (hf : ∀ z ∈ locs, free z.base) (hc : cells + 1 ≤ mc) (hs : slots + 6 ≤ ms) :
    W p l e R s m args below meth c H locs cells slots (vx_MQ below Qc XC args s mc ms free) (F0 m pc ls rest) := by
  intro T hT X
  have htr : e.platform.stackTraces = false := (show e.platform.stackTraces = l.stackTraces by rw [X.admits.platform]).trans hl
  have Y := vx_rebase X (R' := { frames := R.frames, locals := R.locals, cells := 1, slots := 6 }) (Nat.le_refl _) (Nat.le_refl _) hRcells hRslots
  obtain ⟨s', hA⟩ : ∃ z, z = (T.setVm s.vm).setFrames (.invoking m args :: below) := ⟨_, rfl⟩
  rw [← hA] at Y
  have hvm : s'.vm = s.vm := by rw [hA]; rfl
  have hhp : s'.heap = H := by rw [hA]; exact hT
  have hW0 : s.WarmedH s'.vm := by rw [hvm]; exact State.WarmedH.refl s
  have hat' : ∀ w ∈ vx_atS own ic cls names, w.before args s' = true := fun w hw => vx_ot_at hW0 hvm.symm (hgood w (List.mem_cons_of_mem _ (List.mem_cons_of_mem _ hw))) (hat w hw)
  have hk' : (Cond.classLink own ik cls).before args s' = true := vx_ot_at hW0 hvm.symm (hgood _ List.mem_cons_self) hk
  have hini' : (Cond.initialized cls).before args s' = true := vx_ot_at hW0 hvm.symm (hgood _ (List.mem_cons_of_mem _ List.mem_cons_self)) hini
  have hU' : vx_Zq Bundle.tN "UNASSIGNED_STACK" Bundle.steD A s' s'.heap := by rw [hhp]; exact vx_Zq.moved hW0.alike (hU.kept hS.2.1)
  have hN' : vx_Zq Bundle.tN "SUPPRESSED_SENTINEL" Bundle.listD A s' s'.heap := by rw [hhp]; exact vx_Zq.moved hW0.alike (hN.kept hS.2.1)
  have h : ∀ w ∈ Bundle.ownAtoms own ic cls names, w.before args s' = true := vx_own hat' (vx_isRefq hU'.1) (vx_isRefq hN'.1) hU'.2.word hN'.2.word
  have hown' : s'.vm.findClass own = some m.cls := by rw [hvm]; exact hown
  have hins : (Cond.instantiable cls 6).before args s' = true := h _ (by simp [Bundle.ownAtoms])
  obtain ⟨vm₁, cX, kX, hfX, hkX, -, -, X₁, st1⟩ := Y.newCold hexec (own := own) (C := cls) (index := ik) (n := 6) hown' hk' hins hini'
    (g := F0 m pc ls rest) rfl (by rw [hb]; exact d0) (Nat.le_refl _) (Nat.le_refl _)
  generalize hT1 : (T.setVm vm₁).pushCell { cls := cX, slots := kX.instanceTypes.map defaultValue, vm := .none } = T1 at X₁ st1
  have hcat : (Value.ref T.heap.size).category = 1 := rfl
  have hcellA : T1.heap[T.heap.size]? = some (freshCell cX kX) := by rw [← hT1]; exact State.heap_pushCell_size _ _
  have d3' : decode c.code (pc + 3) = .ok (.dup, 1) := by rw [hb]; exact d3
  have d4' : decode c.code (pc + 4) = .ok (.ldc is, 2) := by rw [hb]; exact d4
  have hstr' : vk_R own is text sa s' := vk_R.warm hW0 hstr
  obtain ⟨U, hsteps, hrun, hend, hW, hsame, ce, hce, hO⟩ := X₁.ctorThrowS hexec htr (own := own) (cls := cls) (names := names) (ic := ic) hown' hcls hnames h (fun x hx => nomatch hx) hfX hkX hcellA (by rw [hhp, hT]; exact Nat.le_refl _) (msg := .ref sa) rfl
    (g := { method := m, pc := pc + 6, locals := ls, stack := .ref sa :: .ref T.heap.size :: .ref T.heap.size :: rest, locked := none }) rfl hsize rfl rfl (rest := rest) rfl
    (by rw [hb]; exact d6) (by rw [hb]; exact d9) hout hRframes (by simp only [List.map_cons, List.sum_cons, hcat]; omega) hlocks
  obtain ⟨f1, f2⟩ := vx_frame hsame
  rw [hhp] at f1 f2
  have hWs : s.WarmedH U.vm := State.WarmedH.trans hW0 hW
  have hcl : s.vm.findClass cls = some ce.cls := by
    have h9 := hO.cls
    rw [hvm] at h9
    exact h9
  have hall : s.sameButNew ({ U with vm := s.vm } : State) locs mc ms := by
    subst hA
    obtain ⟨e1, e2⟩ := hsame
    rw [State.setFrames_setFrames] at e1
    have h2 : (T.setVm s.vm).sameButNew ({ U with vm := s.vm } : State) [] (0 + 1) (0 + 6) := ⟨e1, e2⟩
    have h3 := X.same.trans h2
    rw [List.append_nil] at h3
    exact h3.mono hc hs
  refine ⟨U, ?_, .threw T.heap.size, hrun, hend, Or.inr ⟨T.heap.size, rfl, cls, ce, locs, hx U hWs.alike f1 (fun q hq => f2 q hq (fun z hz => nomatch hz)), hce, hO.vm, hcl, hWs, hall, hf⟩⟩
  refine st1 _ ?_
  show Steps p.tables e below (T1.setTop { method := m, pc := pc + 3, locals := ls, stack := .ref T.heap.size :: rest, locked := none }) _
  jvm_step X₁.here [X₁.here.top, hexec, d3', Value.category]
  exact X₁.ldcString hexec (own := own) (text := text) (index := is) (a := sa) hown' hstr'.1 hstr'.2
    (g := { method := m, pc := pc + 4, locals := ls, stack := .ref T.heap.size :: .ref T.heap.size :: rest, locked := none }) rfl d4' _ hsteps
/-- 'throw new E("text")', the text by a wide index -/
theorem vx_throwSW {cc : ByteArray} {pc : Nat} (hexec : p.tables.exec = Jvm.exec) (hb : c.code = cc) (hl : l.stackTraces = false) {own cls text : String} {names : List String} {ik is ic mc ms sa : Nat} {A : Nat → Prop}
    (hown : s.vm.findClass own = some m.cls) (hcls : Bundle.fit cls = true) (hnames : ∀ n ∈ names, Bundle.fit n = true)
    (hk : (Cond.classLink own ik cls).before args s = true) (hini : (Cond.initialized cls).before args s = true) (hstr : vk_R own is text sa s) (hat : ∀ w ∈ vx_atS own ic cls names, w.before args s = true)
    (hgood : ∀ w ∈ Cond.classLink own ik cls :: Cond.initialized cls :: vx_atS own ic cls names, vx_ot w = true)
    (hU : vx_Zq Bundle.tN "UNASSIGNED_STACK" Bundle.steD A s s.heap) (hN : vx_Zq Bundle.tN "SUPPRESSED_SENTINEL" Bundle.listD A s s.heap) (hS : va_S A s.heap H locs) (hsize : ls.size = c.maxLocals)
    (d0 : decode cc pc = .ok (.new ik, 3)) (d3 : decode cc (pc + 3) = .ok (.dup, 1)) (d4 : decode cc (pc + 4) = .ok (.ldc_w is, 3)) (d7 : decode cc (pc + 7) = .ok (.invokespecial ic, 3)) (d10 : decode cc (pc + 10) = .ok (.athrow, 1))
    (hout : ∀ x ∈ c.exceptionTable.toList, covers x (pc + 10) = false)
    (hRframes : names.length + 3 < R.frames) (hRlocals : (rest.map fun v => v.category).sum + (13 * (names.length + 1) + 43) ≤ R.locals) (hRcells : cells + 1 ≤ R.cells) (hRslots : slots + 6 ≤ R.slots) (hlocks : meth.locks = false)
    (hx : ∀ t : State, s.vm.Alike t.vm → H.size ≤ t.heap.size → (∀ q : Nat, q < H.size → t.heap[q]? = H[q]?) → XC cls s t)
    (hf : ∀ z ∈ locs, free z.base) (hc : cells + 1 ≤ mc) (hs : slots + 6 ≤ ms) :
    W p l e R s m args below meth c H locs cells slots (vx_MQ below Qc XC args s mc ms free) (F0 m pc ls rest) := by
  intro T hT X
  have htr : e.platform.stackTraces = false := (show e.platform.stackTraces = l.stackTraces by rw [X.admits.platform]).trans hl
  have Y := vx_rebase X (R' := { frames := R.frames, locals := R.locals, cells := 1, slots := 6 }) (Nat.le_refl _) (Nat.le_refl _) hRcells hRslots
  obtain ⟨s', hA⟩ : ∃ z, z = (T.setVm s.vm).setFrames (.invoking m args :: below) := ⟨_, rfl⟩
  rw [← hA] at Y
  have hvm : s'.vm = s.vm := by rw [hA]; rfl
  have hhp : s'.heap = H := by rw [hA]; exact hT
  have hW0 : s.WarmedH s'.vm := by rw [hvm]; exact State.WarmedH.refl s
  have hat' : ∀ w ∈ vx_atS own ic cls names, w.before args s' = true := fun w hw => vx_ot_at hW0 hvm.symm (hgood w (List.mem_cons_of_mem _ (List.mem_cons_of_mem _ hw))) (hat w hw)
  have hk' : (Cond.classLink own ik cls).before args s' = true := vx_ot_at hW0 hvm.symm (hgood _ List.mem_cons_self) hk
  have hini' : (Cond.initialized cls).before args s' = true := vx_ot_at hW0 hvm.symm (hgood _ (List.mem_cons_of_mem _ List.mem_cons_self)) hini
  have hU' : vx_Zq Bundle.tN "UNASSIGNED_STACK" Bundle.steD A s' s'.heap := by rw [hhp]; exact vx_Zq.moved hW0.alike (hU.kept hS.2.1)
  have hN' : vx_Zq Bundle.tN "SUPPRESSED_SENTINEL" Bundle.listD A s' s'.heap := by rw [hhp]; exact vx_Zq.moved hW0.alike (hN.kept hS.2.1)
  have h : ∀ w ∈ Bundle.ownAtoms own ic cls names, w.before args s' = true := vx_own hat' (vx_isRefq hU'.1) (vx_isRefq hN'.1) hU'.2.word hN'.2.word
  have hown' : s'.vm.findClass own = some m.cls := by rw [hvm]; exact hown
  have hins : (Cond.instantiable cls 6).before args s' = true := h _ (by simp [Bundle.ownAtoms])
  obtain ⟨vm₁, cX, kX, hfX, hkX, -, -, X₁, st1⟩ := Y.newCold hexec (own := own) (C := cls) (index := ik) (n := 6) hown' hk' hins hini'
    (g := F0 m pc ls rest) rfl (by rw [hb]; exact d0) (Nat.le_refl _) (Nat.le_refl _)
  generalize hT1 : (T.setVm vm₁).pushCell { cls := cX, slots := kX.instanceTypes.map defaultValue, vm := .none } = T1 at X₁ st1
  have hcat : (Value.ref T.heap.size).category = 1 := rfl
  have hcellA : T1.heap[T.heap.size]? = some (freshCell cX kX) := by rw [← hT1]; exact State.heap_pushCell_size _ _
  have d3' : decode c.code (pc + 3) = .ok (.dup, 1) := by rw [hb]; exact d3
  have d4' : decode c.code (pc + 4) = .ok (.ldc_w is, 3) := by rw [hb]; exact d4
  have hstr' : vk_R own is text sa s' := vk_R.warm hW0 hstr
  obtain ⟨U, hsteps, hrun, hend, hW, hsame, ce, hce, hO⟩ := X₁.ctorThrowS hexec htr (own := own) (cls := cls) (names := names) (ic := ic) hown' hcls hnames h (fun x hx => nomatch hx) hfX hkX hcellA (by rw [hhp, hT]; exact Nat.le_refl _) (msg := .ref sa) rfl
    (g := { method := m, pc := pc + 7, locals := ls, stack := .ref sa :: .ref T.heap.size :: .ref T.heap.size :: rest, locked := none }) rfl hsize rfl rfl (rest := rest) rfl
    (by rw [hb]; exact d7) (by rw [hb]; exact d10) hout hRframes (by simp only [List.map_cons, List.sum_cons, hcat]; omega) hlocks
  obtain ⟨f1, f2⟩ := vx_frame hsame
  rw [hhp] at f1 f2
  have hWs : s.WarmedH U.vm := State.WarmedH.trans hW0 hW
  have hcl : s.vm.findClass cls = some ce.cls := by
    have h9 := hO.cls
    rw [hvm] at h9
    exact h9
  have hall : s.sameButNew ({ U with vm := s.vm } : State) locs mc ms := by
    subst hA
    obtain ⟨e1, e2⟩ := hsame
    rw [State.setFrames_setFrames] at e1
    have h2 : (T.setVm s.vm).sameButNew ({ U with vm := s.vm } : State) [] (0 + 1) (0 + 6) := ⟨e1, e2⟩
    have h3 := X.same.trans h2
    rw [List.append_nil] at h3
    exact h3.mono hc hs
  refine ⟨U, ?_, .threw T.heap.size, hrun, hend, Or.inr ⟨T.heap.size, rfl, cls, ce, locs, hx U hWs.alike f1 (fun q hq => f2 q hq (fun z hz => nomatch hz)), hce, hO.vm, hcl, hWs, hall, hf⟩⟩
  refine st1 _ ?_
  show Steps p.tables e below (T1.setTop { method := m, pc := pc + 3, locals := ls, stack := .ref T.heap.size :: rest, locked := none }) _
  jvm_step X₁.here [X₁.here.top, hexec, d3', Value.category]
  exact X₁.ldcStringW hexec (own := own) (text := text) (index := is) (a := sa) hown' hstr'.1 hstr'.2
    (g := { method := m, pc := pc + 4, locals := ls, stack := .ref T.heap.size :: .ref T.heap.size :: rest, locked := none }) rfl d4' _ hsteps
end Ends
section Bodies
variable {l : Launch}
theorem vx_ofW {y : MethodName} {ws ws' : List Cond} {rm : Room} {Pc : Array Value → State → Prop} {Qc : Array Value → State → Outcome → State → Prop} {XC : String → State → State → Prop} {mc ms : Nat} {free : Addr → Prop} {cc : ByteArray} {maxL : Nat} {ret : Option FieldType}
    (hy : plainName y.cls = true) (hw : ws = Cond.code y cc maxL ret :: ws')
    (body : ∀ p e s m args below meth c s₁, BodyLoose p l y (headSpec ws rm) cc maxL ret e s m args below meth c s₁ → c.maxLocals = maxL → (∀ x ∈ c.exceptionTable.toList, False) → Pc args s →
      W p l e (headSpec ws rm).room s m args below meth c s.heap [] 0 0 (vx_MQ below Qc XC args s mc ms free) (entryFrame m args maxL)) : vx_Met l y ws rm Pc Qc XC mc ms free := by
  refine MetFree.of_bodyS (code := cc) (maxLocals := maxL) (ret := ret) hy ?_ ?_
  · intro args s m h hn
    obtain ⟨meth, c, h1, h2, h3, h4, h5, h6, -, -⟩ := Cond.code_spec hn (atoms_spec (ws := ws) h _ (by rw [hw]; exact List.mem_cons_self))
    exact ⟨meth, c, h1, h2, h3, h4, h5, h6⟩
  · intro p e s m args below meth c s₁ B hml hP _
    have hh0 : s₁.heap = s.heap := by rw [B.state]; rfl
    have ht : ∀ x ∈ c.exceptionTable.toList, False := by
      obtain ⟨meth9, c9, h1, h2, -, -, -, -, h7, -⟩ := Cond.code_spec B.named (atoms_spec (ws := ws) B.pre _ (by rw [hw]; exact List.mem_cons_self))
      cases Option.some.inj (h1.symm.trans B.method)
      cases Option.some.inj (h2.symm.trans (Stand.of_body B).code)
      intro x hx
      rw [Array.isEmpty_iff.mp h7] at hx
      cases hx
    obtain ⟨t, a1, o, b1, b2, b3⟩ := body p e s m args below meth c s₁ B hml ht hP s₁ hh0 (Stand.of_body B)
    exact ⟨t, o, a1, b1, b2, b3⟩
/-- the table of a body with handlers -/
theorem vx_table {p : Program} {x y : MethodName} {S : Spec} {cc bytes : ByteArray} {maxL maxL' : Nat} {ret ret' : Option FieldType} {e : Env} {s s₁ : State} {m : MethodId} {args : Array Value} {below : List Frame} {meth : Method} {c : Code} {hh : List (Nat × Nat × Nat × Nat)}
    (B : BodyLoose p l y S cc maxL ret e s m args below meth c s₁) (h : (Cond.codeWith y bytes maxL' ret' hh).before args s = true) : c.exceptionTable.toList = tableOf hh := by
  obtain ⟨m9, meth9, c9, hn9, h1, h2, -, -, h6, -⟩ := Cond.codeWith_spec h
  cases Option.some.inj (hn9.symm.trans B.named)
  cases Option.some.inj (h1.symm.trans B.method)
  cases Option.some.inj (h2.symm.trans (Stand.of_body B).code)
  rw [← h6, table_eq]
end Bodies
end VXA
/-! ===== END ===== -/
end
section
/-! numbers -/
def zi (z : Int) : Int32 := Int32.ofInt z
def zl (z : Int) : Int64 := Int64.ofInt z
theorem zi_add (a b : Int) : zi a + zi b = zi (a + b) := (Int32.ofInt_add a b).symm
theorem zi_sub (a b : Int) : zi a - zi b = zi (a - b) := (Int32.ofInt_sub a b).symm
theorem zi_mul (a b : Int) : zi a * zi b = zi (a * b) := (Int32.ofInt_mul a b).symm
theorem zi_neg (a : Int) : - zi a = zi (-a) := (Int32.ofInt_neg a).symm
theorem zl_add (a b : Int) : zl a + zl b = zl (a + b) := (Int64.ofInt_add a b).symm
theorem zl_sub (a b : Int) : zl a - zl b = zl (a - b) := (Int64.ofInt_sub a b).symm
theorem zl_mul (a b : Int) : zl a * zl b = zl (a * b) := (Int64.ofInt_mul a b).symm
theorem zi_toInt {a : Int} (h : -2147483648 ≤ a ∧ a < 2147483648) : (zi a).toInt = a := Int32.toInt_ofInt_of_le (by omega) (by omega)
theorem zl_toInt {a : Int} (h : -9223372036854775808 ≤ a ∧ a < 9223372036854775808) : (zl a).toInt = a := Int64.toInt_ofInt_of_le (by omega) (by omega)
theorem zi_lt {a b : Int} (ha : -2147483648 ≤ a ∧ a < 2147483648) (hb : -2147483648 ≤ b ∧ b < 2147483648) : zi a < zi b ↔ a < b := by
  rw [Int32.lt_iff_toInt_lt, zi_toInt ha, zi_toInt hb]
theorem zi_le {a b : Int} (ha : -2147483648 ≤ a ∧ a < 2147483648) (hb : -2147483648 ≤ b ∧ b < 2147483648) : zi a ≤ zi b ↔ a ≤ b := by
  rw [Int32.le_iff_toInt_le, zi_toInt ha, zi_toInt hb]
theorem zi_eq {a b : Int} (ha : -2147483648 ≤ a ∧ a < 2147483648) (hb : -2147483648 ≤ b ∧ b < 2147483648) : zi a = zi b ↔ a = b := by
  rw [← Int32.toInt_inj, zi_toInt ha, zi_toInt hb]
theorem zl_lt {a b : Int} (ha : -9223372036854775808 ≤ a ∧ a < 9223372036854775808) (hb : -9223372036854775808 ≤ b ∧ b < 9223372036854775808) : zl a < zl b ↔ a < b := by
  rw [Int64.lt_iff_toInt_lt, zl_toInt ha, zl_toInt hb]
theorem zl_eq {a b : Int} (ha : -9223372036854775808 ≤ a ∧ a < 9223372036854775808) (hb : -9223372036854775808 ≤ b ∧ b < 9223372036854775808) : zl a = zl b ↔ a = b := by
  rw [← Int64.toInt_inj, zl_toInt ha, zl_toInt hb]
theorem zi_all (v : Int32) : zi v.toInt = v := Int32.ofInt_toInt v
theorem zl_all (v : Int64) : zl v.toInt = v := Int64.ofInt_toInt v
theorem zi_div {a b : Int} (ha : 0 ≤ a ∧ a < 2147483648) (hb : 0 < b ∧ b < 2147483648) : zi a / zi b = zi (a / b) := by
  rw [← zi_all (zi a / zi b), Int32.toInt_div_of_ne_left]
  · rw [zi_toInt (by omega), zi_toInt (by omega), Int.tdiv_eq_ediv_of_nonneg ha.1]
  · intro h
    have h2 := congrArg Int32.toInt h
    rw [zi_toInt (by omega)] at h2
    have h3 : (Int32.minValue).toInt = -2147483648 := by decide
    omega
theorem zi_mod {a b : Int} (ha : 0 ≤ a ∧ a < 2147483648) (hb : 0 < b ∧ b < 2147483648) : zi a - zi a / zi b * zi b = zi (a % b) := by
  rw [zi_div ha hb, zi_mul, zi_sub, Int.emod_def, Int.mul_comm]
theorem zl_div {a b : Int} (ha : 0 ≤ a ∧ a < 9223372036854775808) (hb : 0 < b ∧ b < 9223372036854775808) : zl a / zl b = zl (a / b) := by
  rw [← zl_all (zl a / zl b), Int64.toInt_div_of_ne_left]
  · rw [zl_toInt (by omega), zl_toInt (by omega), Int.tdiv_eq_ediv_of_nonneg ha.1]
  · intro h
    have h2 := congrArg Int64.toInt h
    rw [zl_toInt (by omega)] at h2
    have h3 : (Int64.minValue).toInt = -9223372036854775808 := by decide
    omega
theorem zl_mod {a b : Int} (ha : 0 ≤ a ∧ a < 9223372036854775808) (hb : 0 < b ∧ b < 9223372036854775808) : zl a - zl a / zl b * zl b = zl (a % b) := by
  rw [zl_div ha hb, zl_mul, zl_sub, Int.emod_def, Int.mul_comm]
theorem zi_clamp {a : Int} (h : 0 ≤ a ∧ a < 2147483648) : (zi a).toNatClampNeg = a.toNat := by
  show (zi a).toInt.toNat = a.toNat
  rw [zi_toInt (by omega)]
theorem zi_in {a : Int} {n : Nat} (h : 0 ≤ a ∧ a < n) (hn : n < 2147483648) : vp_in (zi a) n := by
  rw [vp_in_iff, zi_toInt (by omega)]
  exact h
theorem zi_l {a : Int} (h : -2147483648 ≤ a ∧ a < 2147483648) : (zi a).toInt64 = zl a := by
  rw [← zl_all (zi a).toInt64, Int32.toInt_toInt64, zi_toInt h]
theorem zl_i {a : Int} (h : -2147483648 ≤ a ∧ a < 2147483648) : (zl a).toInt32 = zi a := by
  rw [← zi_all (zl a).toInt32, Int64.toInt_toInt32, zl_toInt (by omega), Int.bmod_eq_of_le (by omega) (by omega)]
end
section
abbrev Me : Type := Nat → Int → Int
abbrev Gl : Type := va_G × (Nat → Nat) × (Nat → ClassId) × Nat
abbrev gD (g : Gl) : va_G := g.1
abbrev gA (g : Gl) : Nat → Nat := g.2.1
abbrev gC (g : Gl) : Nat → ClassId := g.2.2.1
abbrev gS (g : Gl) : Nat := g.2.2.2
def pA (g : Gl) : Nat → Prop := fun q => gS g ≤ q
abbrev tys5 (g : Gl) : List (ClassId × FieldType) := [(gC g 0, .int), (gC g 1, .long), (gC g 2, .boolean), (gC g 3, .object "LoshuHall$Figure"), (gC g 4, .array .int)]
def ai (g : Gl) (f : Int → Int) (n : Nat) : va_E := .inl (gC g 0, (n, .inl (fun k => zi (f k))))
def al (g : Gl) (f : Int → Int) (n : Nat) : va_E := .inl (gC g 1, (n, .inr (.inl (fun k => zl (f k)))))
def az (g : Gl) (f : Int → Int) (n : Nat) : va_E := .inl (gC g 2, (n, .inl (fun k => zi (f k))))
def aq (g : Gl) (t : Nat) (f : Nat → Nat) (n : Nat) : va_E := .inl (gC g t, (n, .inr (.inr (.inr (.inr (fun k => some (gA g (f k))))))))
/-- what the cell of a number holds, of the row of the memory that is its own -/
def we (g : Gl) (i : Nat) (f : Int → Int) : va_E :=
  if i < 10 then (if i = 0 then .inr (4, [.ref (gA g 1), .ref (gA g 18), .ref (gA g 30), .ref (gA g 40), .ref (gA g 42), .int (zi (f 5))]) else aq g 3 (fun k => 10 + k) 8)
  else if i < 20 then .inr (0, [.ref (gA g (i + 10)), .int (zi (f 1))])
  else if i < 30 then ai g f 81
  else if i = 30 then .inr (2, [.ref (gA g 31), .ref (gA g 32), .ref (gA g 33), .ref (gA g 34), .ref (gA g 35), .ref (gA g 36), .int (zi (f 6)), .int (zi (f 7)), .int (zi (f 8)), .int (zi (f 9)), .int (zi (f 10)), .int (zi (f 11)), .int (zi (f 12)), .int (zi (f 13))])
  else if i = 31 then ai g f 16
  else if i = 32 then az g f 17
  else if i = 33 then ai g f 10
  else if i = 34 then ai g f 10
  else if i = 35 then ai g f 64
  else if i = 36 then ai g f 16
  else if i = 40 then .inr (1, [.ref (gA g 41)])
  else if i = 41 then ai g f 8
  else if i = 42 then .inr (3, [.ref (gA g 43), .ref (gA g 44), .ref (gA g 45), .int (zi (f 3)), .int (zi (f 4))])
  else if i = 43 then aq g 4 (fun k => 100 + k) 38
  else if i = 44 then ai g f 38
  else if i = 45 then ai g f 38
  else if i = 50 then .inr (5, [.int (zi (f 0)), .int (zi (f 1)), .ref (gA g 51), .ref (gA g 52), .ref (gA g 53), .int (zi (f 5)), .ref (gA g 54), .int (zi (f 7)), .ref (gA g 55), .ref (gA g 56), .ref (gA g 57), .ref (gA g 58), .ref (gA g 59), .ref (gA g 60), .ref (gA g 61), .ref (gA g 62)])
  else if i = 51 then ai g f 8
  else if i = 52 then ai g f 648
  else if i = 53 then ai g f 81
  else if i = 54 then ai g f 16
  else if i = 55 then ai g f 16
  else if i = 56 then ai g f 16
  else if i = 57 then ai g f 16
  else if i = 58 then ai g f 6
  else if i = 59 then al g f 36
  else if i = 60 then al g f 36
  else if i = 61 then al g f 1296
  else if i = 62 then az g f 36
  else if i = 70 then al g f 1
  else ai g f 38
def dl : List Nat := [0, 1, 10, 11, 12, 13, 14, 15, 16, 17, 18, 20, 21, 22, 23, 24, 25, 26, 27, 28, 30, 31, 32, 33, 34, 35, 36, 40, 41, 42, 43, 44, 45, 50, 51, 52, 53, 54, 55, 56, 57, 58, 59, 60, 61, 62, 70,
  100, 101, 102, 103, 104, 105, 106, 107, 108, 109, 110, 111, 112, 113, 114, 115, 116, 117, 118, 119, 120, 121, 122, 123, 124, 125, 126, 127, 128, 129, 130, 131, 132, 133, 134, 135, 136, 137]
theorem dl_inj0 : ∀ a, a < 85 → ∀ b, b < 85 → dl[a]? = dl[b]? → a = b := by decide +kernel
theorem dl_inj {a b i : Nat} (ha : dl[a]? = some i) (hb : dl[b]? = some i) : a = b := by
  have h1 : a < dl.length := (List.getElem?_eq_some_iff.mp ha).1
  have h2 : b < dl.length := (List.getElem?_eq_some_iff.mp hb).1
  exact dl_inj0 a h1 b h2 (ha.trans hb.symm)
abbrev wl (g : Gl) (x : Me) : va_W := dl.map (fun i => (gA g i, we g i (x i)))
def pw_P (g : Gl) (x : Me) (H : Heap) : Prop := va_P (gD g) vwCl (wl g x) H
def pw_G (g : Gl) : Prop := (∀ i, i ∈ dl → ∀ j, j ∈ dl → gA g i = gA g j → i = j) ∧ ∀ i, i ∈ dl → gS g ≤ gA g i
def up (x : Me) (i : Nat) (j v : Int) : Me := fun a b => if a = i ∧ b = j then v else x a b
theorem up_s (x : Me) (i : Nat) (j v : Int) : up x i j v i j = v := by simp [up]
theorem up_n (x : Me) {i a : Nat} {j b : Int} (v : Int) (h : ¬ (a = i ∧ b = j)) : up x i j v a b = x a b := by simp [up, h]
theorem up_i (x : Me) {i a : Nat} (j v : Int) (h : a ≠ i) : up x i j v a = x a := by funext b; simp [up, h]
theorem wl_at {g : Gl} {x : Me} {i : Nat} (h : i ∈ dl) : ∃ k : Nat, (wl g x)[k]? = some (gA g i, we g i (x i)) ∧ dl[k]? = some i := by
  obtain ⟨k, hk⟩ := List.getElem?_of_mem h
  exact ⟨k, by simp [wl, List.getElem?_map, hk], hk⟩
theorem wl_D {g : Gl} (h : pw_G g) (x : Me) : va_D (pA g) (wl g x) := by
  refine ⟨fun i j p q hp hq he => ?_, fun k q hq => ?_⟩
  · simp only [wl, List.getElem?_map, Option.map_eq_some_iff] at hp hq
    obtain ⟨a, ha, rfl⟩ := hp
    obtain ⟨b, hb, rfl⟩ := hq
    have hab := h.1 a (List.mem_of_getElem? ha) b (List.mem_of_getElem? hb) he
    subst hab
    exact dl_inj ha hb
  · simp only [wl, List.getElem?_map, Option.map_eq_some_iff] at hq
    obtain ⟨a, ha, rfl⟩ := hq
    exact h.2 a (List.mem_of_getElem? ha)
theorem wl_set {g : Gl} {x x' : Me} {i k : Nat} (hk : dl[k]? = some i) (ho : ∀ a, a ≠ i → x' a = x a) {e : va_E} (he : e = we g i (x' i)) : (wl g x).set k (gA g i, e) = wl g x' := by
  subst he
  apply List.ext_getElem?
  intro n
  rw [List.getElem?_set]
  by_cases hn : k = n
  · subst hn
    obtain ⟨hlt, hv⟩ := List.getElem?_eq_some_iff.mp hk
    simp [wl, hv, hlt]
  · simp only [wl, List.getElem?_map, hn, if_false]
    cases hb : dl[n]? with
    | none => rfl
    | some a =>
      have hai : a ≠ i := by
        intro e
        subst e
        exact hn (dl_inj hk hb)
      simp [ho a hai]
end
section
/-! the words: all good ones of the tables -/
def wsU : List Cond := lw_tbl.filter goodWord
theorem wsU_good : ∀ w ∈ wsU, (w.onTables && w.keeps) = true ∨ ∃ ty, w = .arrayClass ty := fun w h => good_of_word (List.mem_filter.mp h).2
theorem wsU_in {w : Cond} (h : w ∈ lw_tbl) (hg : goodWord w = true) : w ∈ wsU := List.mem_filter.mpr ⟨h, hg⟩
theorem gi_V {own C : String} {index nL : Nat} {y : MethodName} {cc : ByteArray} {rt : Option FieldType} (h1 : Cond.methodLink own index y ∈ wsU) (h2 : Cond.instanceMethod y ∈ wsU) (h3 : Cond.selects C y y ∈ wsU) (h4 : Cond.initialized C ∈ wsU) (h5 : Cond.code y cc nL rt ∈ wsU) : GoodIn wsU (wsV own index C y (Cond.code y cc nL rt :: wsU)) := by
  intro w hw
  have : w ∈ wsU := by
    simp only [wsV, List.cons_append, List.nil_append, List.mem_cons] at hw
    rcases hw with rfl | rfl | rfl | rfl | rfl | h <;> assumption
  exact ⟨this, wsU_good w this⟩
theorem gi_S {own : String} {index nL : Nat} {y : MethodName} {cc : ByteArray} {rt : Option FieldType} (h1 : Cond.methodLink own index y ∈ wsU) (h2 : Cond.static y ∈ wsU) (h4 : Cond.initialized y.cls ∈ wsU) (h5 : Cond.code y cc nL rt ∈ wsU) : GoodIn wsU (va_wsS own index y (Cond.code y cc nL rt :: wsU)) := by
  intro w hw
  have : w ∈ wsU := by
    simp only [va_wsS, List.cons_append, List.nil_append, List.mem_cons] at hw
    rcases hw with rfl | rfl | rfl | rfl | h <;> assumption
  exact ⟨this, wsU_good w this⟩
/-! what a throw needs of the tables beside the good words -/
def nmR : List String := ["java/lang/RuntimeException", "java/lang/Exception"]
def nmI : List String := ["java/lang/RuntimeException", "java/lang/Exception"]
def ecI : String := "java/lang/IllegalArgumentException"
def ecS : String := "java/lang/IllegalStateException"
def ecB : String := "java/lang/IndexOutOfBoundsException"
def wsX : List Cond := vx_atS RX11 153 ecI nmR ++ (vx_atS RX11 220 ecS nmR ++ vx_atS RX11 215 ecB nmR)
def wsF : List Cond := wsX.filter (fun w => !goodWord w)
theorem wsF_ok : wsF.all (fun w => w.onTables && w.keepsFace) = true := by decide +kernel
theorem wsX_g : (wsX.filter goodWord).all (fun w => decide (w ∈ lw_tbl)) = true := by decide +kernel
theorem wsX_ot : wsX.all (fun w => vx_ot w) = true := by decide +kernel
def sts7 : List (Nat × String) := [(226, "no such square"), (209, "out of its range"), (221, "there are all the squares that can be"), (213, "no such row or column"), (218, "not for such squares"), (151, "below 0"), (204, "a law that is not told here")]
def pw_V (U : State) : Prop := (∀ w ∈ wsF, w.before #[] U = true) ∧ ∀ q ∈ sts7, ∃ sa : Nat, vk_R RX11 q.1 q.2 sa U
theorem pw_V.same {u U : State} (hv : U.vm = u.vm) (h : pw_V u) : pw_V U := by
  refine ⟨fun w hw => ?_, fun q hq => ?_⟩
  · have hg := List.all_eq_true.mp wsF_ok w hw
    simp only [Bool.and_eq_true] at hg
    exact va_tabs hg.1 hv.symm (h.1 w hw)
  · obtain ⟨sa, hs⟩ := h.2 q hq
    exact ⟨sa, hs.same hv⟩
theorem pw_V.warm {s U : State} (hW : s.WarmedH U.vm) (h : pw_V s) : pw_V U := by
  refine ⟨fun w hw => ?_, fun q hq => ?_⟩
  · have hg := List.all_eq_true.mp wsF_ok w hw
    simp only [Bool.and_eq_true] at hg
    exact va_tabs (u := s.setVm U.vm) hg.1 rfl (Cond.before_shiftedFace (State.Shifted.of_warmed hW) w hg.2 (h.1 w hw))
  · obtain ⟨sa, hs⟩ := h.2 q hq
    exact ⟨sa, hs.warm hW⟩
def pw_U (g : Gl) (x : Me) (U : State) : Prop := pw_P g x U.heap ∧ va_K (gD g) vwCl (tys5 g) U ∧ vx_Zq Bundle.tN "UNASSIGNED_STACK" Bundle.steD (pA g) U U.heap ∧ vx_Zq Bundle.tN "SUPPRESSED_SENTINEL" Bundle.listD (pA g) U U.heap ∧ gS g ≤ U.heap.size ∧ pw_G g ∧ pw_V U
/-! the context of a walk -/
abbrev Gam : Type := Program × Launch × Env × Room × State × MethodId × Array Value × List Frame × Method × Code × (State → Prop)
abbrev qP (Γ : Gam) : Program := Γ.1
abbrev qL (Γ : Gam) : Launch := Γ.2.1
abbrev qE (Γ : Gam) : Env := Γ.2.2.1
abbrev qR (Γ : Gam) : Room := Γ.2.2.2.1
abbrev qS (Γ : Gam) : State := Γ.2.2.2.2.1
abbrev qM (Γ : Gam) : MethodId := Γ.2.2.2.2.2.1
abbrev qa (Γ : Gam) : Array Value := Γ.2.2.2.2.2.2.1
abbrev qb (Γ : Gam) : List Frame := Γ.2.2.2.2.2.2.2.1
abbrev qm (Γ : Gam) : Method := Γ.2.2.2.2.2.2.2.2.1
abbrev qc (Γ : Gam) : Code := Γ.2.2.2.2.2.2.2.2.2.1
abbrev qQ (Γ : Gam) : State → Prop := Γ.2.2.2.2.2.2.2.2.2.2
def Zz (Γ : Gam) (g : Gl) (nL k n : Nat) (x : Me) (pc : Nat) (lv : List (Nat × Value)) (st : List Value) : Prop :=
  ∀ (H : Heap) (locs : List Loc) (ls : Array Slot), pw_P g x H → va_S (pA g) (qS Γ).heap H locs → lv_has ls nL lv → W (qP Γ) (qL Γ) (qE Γ) (qR Γ) (qS Γ) (qM Γ) (qa Γ) (qb Γ) (qm Γ) (qc Γ) H locs k n (qQ Γ) (F0 (qM Γ) pc ls st)
abbrev rmm (F Lc k n : Nat) : Room := { frames := F, cells := k, slots := n, locals := Lc }
def Ok (Γ : Gam) (g : Gl) (cc : ByteArray) (nL : Nat) (own : String) (F Lc kc ns : Nat) : Prop :=
  (qP Γ).tables.exec = Jvm.exec ∧ (qc Γ).code = cc ∧ (qc Γ).maxLocals = nL ∧ (qS Γ).vm.findClass own = some (qM Γ).cls ∧ (∀ w ∈ wsU, w.before (qa Γ) (qS Γ) = true) ∧ va_K (gD g) vwCl (tys5 g) (qS Γ) ∧
  vx_Zq Bundle.tN "UNASSIGNED_STACK" Bundle.steD (pA g) (qS Γ) (qS Γ).heap ∧ vx_Zq Bundle.tN "SUPPRESSED_SENTINEL" Bundle.listD (pA g) (qS Γ) (qS Γ).heap ∧ gS g ≤ (qS Γ).heap.size ∧ pw_G g ∧ qR Γ = rmm F Lc kc ns ∧ (qm Γ).locks = false ∧ pw_V (qS Γ)
section Okp
variable {Γ : Gam} {g : Gl} {cc : ByteArray} {own : String} {nL F Lc kc ns : Nat}
theorem okx (h : Ok Γ g cc nL own F Lc kc ns) : (qP Γ).tables.exec = Jvm.exec := h.1
theorem okb (h : Ok Γ g cc nL own F Lc kc ns) : (qc Γ).code = cc := h.2.1
theorem okm (h : Ok Γ g cc nL own F Lc kc ns) : (qc Γ).maxLocals = nL := h.2.2.1
theorem oko (h : Ok Γ g cc nL own F Lc kc ns) : (qS Γ).vm.findClass own = some (qM Γ).cls := h.2.2.2.1
theorem okw (h : Ok Γ g cc nL own F Lc kc ns) : ∀ w ∈ wsU, w.before (qa Γ) (qS Γ) = true := h.2.2.2.2.1
theorem okk (h : Ok Γ g cc nL own F Lc kc ns) : va_K (gD g) vwCl (tys5 g) (qS Γ) := h.2.2.2.2.2.1
theorem oku (h : Ok Γ g cc nL own F Lc kc ns) : vx_Zq Bundle.tN "UNASSIGNED_STACK" Bundle.steD (pA g) (qS Γ) (qS Γ).heap := h.2.2.2.2.2.2.1
theorem okn (h : Ok Γ g cc nL own F Lc kc ns) : vx_Zq Bundle.tN "SUPPRESSED_SENTINEL" Bundle.listD (pA g) (qS Γ) (qS Γ).heap := h.2.2.2.2.2.2.2.1
theorem oks (h : Ok Γ g cc nL own F Lc kc ns) : gS g ≤ (qS Γ).heap.size := h.2.2.2.2.2.2.2.2.1
theorem okg (h : Ok Γ g cc nL own F Lc kc ns) : pw_G g := h.2.2.2.2.2.2.2.2.2.1
theorem okr (h : Ok Γ g cc nL own F Lc kc ns) : qR Γ = rmm F Lc kc ns := h.2.2.2.2.2.2.2.2.2.2.1
theorem okl (h : Ok Γ g cc nL own F Lc kc ns) : (qm Γ).locks = false := h.2.2.2.2.2.2.2.2.2.2.2.1
theorem okV (h : Ok Γ g cc nL own F Lc kc ns) : pw_V (qS Γ) := h.2.2.2.2.2.2.2.2.2.2.2.2
theorem okA (h : Ok Γ g cc nL own F Lc kc ns) : ∀ q, (qS Γ).heap.size ≤ q → pA g q := fun q hq => Nat.le_trans (oks h) hq
end Okp
section Zrows
variable {Γ : Gam} {g : Gl} {cc : ByteArray} {own : String} {nL k n F Lc kc ns pc : Nat} {x : Me} {lv : List (Nat × Value)} {st : List Value}
theorem z_sub {lv' : List (Nat × Value)} (ks : List Nat) (hl : lv_pick lv ks = lv') (kk : Zz Γ g nL k n x pc lv' st) : Zz Γ g nL k n x pc lv st := fun H locs ls hP hS hv => kk H locs ls hP hS (lv_sub hv ks hl)
theorem z_widen {k' n' : Nat} (h1 : k ≤ k') (h2 : n ≤ n') (kk : Zz Γ g nL k' n' x pc lv st) : Zz Γ g nL k n x pc lv st := fun H locs ls hP hS hv => W.widen h1 h2 (kk H locs ls hP hS hv)
theorem z_eq {x' : Me} (h : x' = x) (kk : Zz Γ g nL k n x' pc lv st) : Zz Γ g nL k n x pc lv st := h ▸ kk
theorem z_iconst (hO : Ok Γ g cc nL own F Lc kc ns) {c : Int} (d : decode cc pc = .ok (.iconst c, 1)) (kk : Zz Γ g nL k n x (pc + 1) lv (.int (zi c) :: st)) : Zz Γ g nL k n x pc lv st := fun H locs ls hP hS hv => lv_iconst (okx hO) (okb hO) d rfl (kk H locs ls hP hS hv)
theorem z_bipush (hO : Ok Γ g cc nL own F Lc kc ns) {c : Int} (d : decode cc pc = .ok (.bipush c, 2)) (h : (Int8.ofInt c).toInt32 = zi c) (kk : Zz Γ g nL k n x (pc + 2) lv (.int (zi c) :: st)) : Zz Γ g nL k n x pc lv st := fun H locs ls hP hS hv => lv_bipush (okx hO) (okb hO) d h (kk H locs ls hP hS hv)
theorem z_sipush (hO : Ok Γ g cc nL own F Lc kc ns) {c : Int} (d : decode cc pc = .ok (.sipush c, 3)) (h : (Int16.ofInt c).toInt32 = zi c) (kk : Zz Γ g nL k n x (pc + 3) lv (.int (zi c) :: st)) : Zz Γ g nL k n x pc lv st := fun H locs ls hP hS hv => lv_sipush (okx hO) (okb hO) d h (kk H locs ls hP hS hv)
theorem z_lconst (hO : Ok Γ g cc nL own F Lc kc ns) {c : Fin 2} {v : Int} (d : decode cc pc = .ok (.lconst c, 1)) (h : Int64.ofNat (c : Nat) = zl v) (kk : Zz Γ g nL k n x (pc + 1) lv (.long (zl v) :: st)) : Zz Γ g nL k n x pc lv st := fun H locs ls hP hS hv => lv_lconst (okx hO) (okb hO) d h (kk H locs ls hP hS hv)
theorem z_ldc (hO : Ok Γ g cc nL own F Lc kc ns) {i : Nat} {v : Int} (hw : Cond.constant own i (zi v) ∈ wsU) (d : decode cc pc = .ok (.ldc i, 2)) (kk : Zz Γ g nL k n x (pc + 2) lv (.int (zi v) :: st)) : Zz Γ g nL k n x pc lv st := fun H locs ls hP hS hv => lv_ldc (okx hO) (okb hO) (oko hO) (okw hO _ hw) d (kk H locs ls hP hS hv)
theorem z_ldc_w (hO : Ok Γ g cc nL own F Lc kc ns) {i : Nat} {v : Int} (hw : Cond.constant own i (zi v) ∈ wsU) (d : decode cc pc = .ok (.ldc_w i, 3)) (kk : Zz Γ g nL k n x (pc + 3) lv (.int (zi v) :: st)) : Zz Γ g nL k n x pc lv st := fun H locs ls hP hS hv => lv_ldcw (okx hO) (okb hO) (oko hO) (okw hO _ hw) d (kk H locs ls hP hS hv)
theorem z_ldc2 (hO : Ok Γ g cc nL own F Lc kc ns) {i : Nat} {v : Int} (hw : Cond.constantLong own i (zl v) ∈ wsU) (d : decode cc pc = .ok (.ldc2_w i, 3)) (kk : Zz Γ g nL k n x (pc + 3) lv (.long (zl v) :: st)) : Zz Γ g nL k n x pc lv st := fun H locs ls hP hS hv => lv_ldc2 (okx hO) (okb hO) (oko hO) (okw hO _ hw) d (kk H locs ls hP hS hv)
theorem z_iload_n (hO : Ok Γ g cc nL own F Lc kc ns) {j : Fin 4} {i : Nat} {v : Int32} (ix : Nat) (d : decode cc pc = .ok (.iload_n j, 1)) (hi : (j : Nat) = i) (hl : lv[ix]? = some (i, .int v)) (kk : Zz Γ g nL k n x (pc + 1) lv (.int v :: st)) : Zz Γ g nL k n x pc lv st := fun H locs ls hP hS hv => lv_iload_n (okx hO) (okb hO) d hi (lv_at hv ix hl) (kk H locs ls hP hS hv)
theorem z_iload (hO : Ok Γ g cc nL own F Lc kc ns) {i : Nat} {v : Int32} (ix : Nat) (d : decode cc pc = .ok (.iload i, 2)) (hl : lv[ix]? = some (i, .int v)) (kk : Zz Γ g nL k n x (pc + 2) lv (.int v :: st)) : Zz Γ g nL k n x pc lv st := fun H locs ls hP hS hv => lv_iload (okx hO) (okb hO) d (lv_at hv ix hl) (kk H locs ls hP hS hv)
theorem z_istore_n (hO : Ok Γ g cc nL own F Lc kc ns) {j : Fin 4} {i : Nat} {v : Int32} {lv' : List (Nat × Value)} (d : decode cc pc = .ok (.istore_n j, 1)) (hi : (j : Nat) = i) (hn : i < nL) (hl : (i, Value.int v) :: lv.filter (fun q => !(q.1 == i) && !(q.1 + 1 == i && q.2.category == 2)) = lv') (kk : Zz Γ g nL k n x (pc + 1) lv' st) : Zz Γ g nL k n x pc lv (.int v :: st) := fun H locs ls hP hS hv => lv_istore_n (okx hO) (okb hO) d hi hv hn hl (fun ls' hv' => kk H locs ls' hP hS hv')
theorem z_istore (hO : Ok Γ g cc nL own F Lc kc ns) {i : Nat} {v : Int32} {lv' : List (Nat × Value)} (d : decode cc pc = .ok (.istore i, 2)) (hn : i < nL) (hl : (i, Value.int v) :: lv.filter (fun q => !(q.1 == i) && !(q.1 + 1 == i && q.2.category == 2)) = lv') (kk : Zz Γ g nL k n x (pc + 2) lv' st) : Zz Γ g nL k n x pc lv (.int v :: st) := fun H locs ls hP hS hv => lv_istore (okx hO) (okb hO) d hv hn hl (fun ls' hv' => kk H locs ls' hP hS hv')
theorem z_lload_n (hO : Ok Γ g cc nL own F Lc kc ns) {j : Fin 4} {i : Nat} {v : Int64} (ix : Nat) (d : decode cc pc = .ok (.lload_n j, 1)) (hi : (j : Nat) = i) (hl : lv[ix]? = some (i, .long v)) (kk : Zz Γ g nL k n x (pc + 1) lv (.long v :: st)) : Zz Γ g nL k n x pc lv st := fun H locs ls hP hS hv => lv_lload_n (okx hO) (okb hO) d hi (lv_at hv ix hl) (kk H locs ls hP hS hv)
theorem z_lload (hO : Ok Γ g cc nL own F Lc kc ns) {i : Nat} {v : Int64} (ix : Nat) (d : decode cc pc = .ok (.lload i, 2)) (hl : lv[ix]? = some (i, .long v)) (kk : Zz Γ g nL k n x (pc + 2) lv (.long v :: st)) : Zz Γ g nL k n x pc lv st := fun H locs ls hP hS hv => lv_lload (okx hO) (okb hO) d (lv_at hv ix hl) (kk H locs ls hP hS hv)
theorem z_lstore_n (hO : Ok Γ g cc nL own F Lc kc ns) {j : Fin 4} {i : Nat} {v : Int64} {lv' : List (Nat × Value)} (d : decode cc pc = .ok (.lstore_n j, 1)) (hi : (j : Nat) = i) (hn : i + 1 < nL) (hl : (i, Value.long v) :: lv.filter (fun q => !(q.1 == i) && (!(q.1 == i + 1) && !(q.1 + 1 == i && q.2.category == 2))) = lv') (kk : Zz Γ g nL k n x (pc + 1) lv' st) : Zz Γ g nL k n x pc lv (.long v :: st) := fun H locs ls hP hS hv => lv_lstore_n (okx hO) (okb hO) d hi hv hn hl (fun ls' hv' => kk H locs ls' hP hS hv')
theorem z_lstore (hO : Ok Γ g cc nL own F Lc kc ns) {i : Nat} {v : Int64} {lv' : List (Nat × Value)} (d : decode cc pc = .ok (.lstore i, 2)) (hn : i + 1 < nL) (hl : (i, Value.long v) :: lv.filter (fun q => !(q.1 == i) && (!(q.1 == i + 1) && !(q.1 + 1 == i && q.2.category == 2))) = lv') (kk : Zz Γ g nL k n x (pc + 2) lv' st) : Zz Γ g nL k n x pc lv (.long v :: st) := fun H locs ls hP hS hv => lv_lstore (okx hO) (okb hO) d hv hn hl (fun ls' hv' => kk H locs ls' hP hS hv')
theorem z_aload_n (hO : Ok Γ g cc nL own F Lc kc ns) {j : Fin 4} {i : Nat} {v : Nat} (ix : Nat) (d : decode cc pc = .ok (.aload_n j, 1)) (hi : (j : Nat) = i) (hl : lv[ix]? = some (i, .ref v)) (kk : Zz Γ g nL k n x (pc + 1) lv (.ref v :: st)) : Zz Γ g nL k n x pc lv st := fun H locs ls hP hS hv => lv_aload_n (okx hO) (okb hO) d hi (lv_at hv ix hl) (kk H locs ls hP hS hv)
theorem z_aload (hO : Ok Γ g cc nL own F Lc kc ns) {i : Nat} {v : Nat} (ix : Nat) (d : decode cc pc = .ok (.aload i, 2)) (hl : lv[ix]? = some (i, .ref v)) (kk : Zz Γ g nL k n x (pc + 2) lv (.ref v :: st)) : Zz Γ g nL k n x pc lv st := fun H locs ls hP hS hv => lv_aload (okx hO) (okb hO) d (lv_at hv ix hl) (kk H locs ls hP hS hv)
theorem z_astore_n (hO : Ok Γ g cc nL own F Lc kc ns) {j : Fin 4} {i : Nat} {v : Nat} {lv' : List (Nat × Value)} (d : decode cc pc = .ok (.astore_n j, 1)) (hi : (j : Nat) = i) (hn : i < nL) (hl : (i, Value.ref v) :: lv.filter (fun q => !(q.1 == i) && !(q.1 + 1 == i && q.2.category == 2)) = lv') (kk : Zz Γ g nL k n x (pc + 1) lv' st) : Zz Γ g nL k n x pc lv (.ref v :: st) := fun H locs ls hP hS hv => lv_astore_n (okx hO) (okb hO) d hi hv hn hl (fun ls' hv' => kk H locs ls' hP hS hv')
theorem z_astore (hO : Ok Γ g cc nL own F Lc kc ns) {i : Nat} {v : Nat} {lv' : List (Nat × Value)} (d : decode cc pc = .ok (.astore i, 2)) (hn : i < nL) (hl : (i, Value.ref v) :: lv.filter (fun q => !(q.1 == i) && !(q.1 + 1 == i && q.2.category == 2)) = lv') (kk : Zz Γ g nL k n x (pc + 2) lv' st) : Zz Γ g nL k n x pc lv (.ref v :: st) := fun H locs ls hP hS hv => lv_astore (okx hO) (okb hO) d hv hn hl (fun ls' hv' => kk H locs ls' hP hS hv')
theorem z_iinc (hO : Ok Γ g cc nL own F Lc kc ns) {i : Nat} {c a : Int} {lv' : List (Nat × Value)} (ix : Nat) (d : decode cc pc = .ok (.iinc i c, 3)) (hk : lv[ix]? = some (i, .int (zi a))) (hn : i < nL) (hl : (i, Value.int (zi (a + c))) :: lv.filter (fun q => !(q.1 == i) && !(q.1 + 1 == i && q.2.category == 2)) = lv') (kk : Zz Γ g nL k n x (pc + 3) lv' st) : Zz Γ g nL k n x pc lv st := fun H locs ls hP hS hv => lv_iinc (okx hO) (okb hO) d hv hk (zi_add a c) hn hl (fun ls' hv' => kk H locs ls' hP hS hv')
theorem z_pop (hO : Ok Γ g cc nL own F Lc kc ns) {v : Value} (d : decode cc pc = .ok (.pop, 1)) (hc : v.category = 1) (kk : Zz Γ g nL k n x (pc + 1) lv st) : Zz Γ g nL k n x pc lv (v :: st) := fun H locs ls hP hS hv => lv_pop (okx hO) (okb hO) d hc (kk H locs ls hP hS hv)
theorem z_dup (hO : Ok Γ g cc nL own F Lc kc ns) {v : Value} (d : decode cc pc = .ok (.dup, 1)) (hc : v.category = 1) (kk : Zz Γ g nL k n x (pc + 1) lv (v :: v :: st)) : Zz Γ g nL k n x pc lv (v :: st) := fun H locs ls hP hS hv => lv_dup (okx hO) (okb hO) d hc (kk H locs ls hP hS hv)
theorem z_dup2 (hO : Ok Γ g cc nL own F Lc kc ns) {v w : Value} (d : decode cc pc = .ok (.dup2, 1)) (hc : v.category = 1) (hd : w.category = 1) (kk : Zz Γ g nL k n x (pc + 1) lv (v :: w :: v :: w :: st)) : Zz Γ g nL k n x pc lv (v :: w :: st) := fun H locs ls hP hS hv => lv_dup2_11 (okx hO) (okb hO) d hc hd (kk H locs ls hP hS hv)
theorem z_iadd (hO : Ok Γ g cc nL own F Lc kc ns) {a b : Int} (d : decode cc pc = .ok (.iadd, 1)) (kk : Zz Γ g nL k n x (pc + 1) lv (.int (zi (a + b)) :: st)) : Zz Γ g nL k n x pc lv (.int (zi b) :: .int (zi a) :: st) := fun H locs ls hP hS hv => lv_iadd (okx hO) (okb hO) d (by rw [zi_add]; exact (kk H locs ls hP hS hv))
theorem z_ladd (hO : Ok Γ g cc nL own F Lc kc ns) {a b : Int} (d : decode cc pc = .ok (.ladd, 1)) (kk : Zz Γ g nL k n x (pc + 1) lv (.long (zl (a + b)) :: st)) : Zz Γ g nL k n x pc lv (.long (zl b) :: .long (zl a) :: st) := fun H locs ls hP hS hv => lv_ladd (okx hO) (okb hO) d (by rw [zl_add]; exact (kk H locs ls hP hS hv))
theorem z_isub (hO : Ok Γ g cc nL own F Lc kc ns) {a b : Int} (d : decode cc pc = .ok (.isub, 1)) (kk : Zz Γ g nL k n x (pc + 1) lv (.int (zi (a - b)) :: st)) : Zz Γ g nL k n x pc lv (.int (zi b) :: .int (zi a) :: st) := fun H locs ls hP hS hv => lv_isub (okx hO) (okb hO) d (by rw [zi_sub]; exact (kk H locs ls hP hS hv))
theorem z_lsub (hO : Ok Γ g cc nL own F Lc kc ns) {a b : Int} (d : decode cc pc = .ok (.lsub, 1)) (kk : Zz Γ g nL k n x (pc + 1) lv (.long (zl (a - b)) :: st)) : Zz Γ g nL k n x pc lv (.long (zl b) :: .long (zl a) :: st) := fun H locs ls hP hS hv => lv_lsub (okx hO) (okb hO) d (by rw [zl_sub]; exact (kk H locs ls hP hS hv))
theorem z_imul (hO : Ok Γ g cc nL own F Lc kc ns) {a b : Int} (d : decode cc pc = .ok (.imul, 1)) (kk : Zz Γ g nL k n x (pc + 1) lv (.int (zi (a * b)) :: st)) : Zz Γ g nL k n x pc lv (.int (zi b) :: .int (zi a) :: st) := fun H locs ls hP hS hv => lv_imul (okx hO) (okb hO) d (by rw [zi_mul]; exact (kk H locs ls hP hS hv))
theorem z_lmul (hO : Ok Γ g cc nL own F Lc kc ns) {a b : Int} (d : decode cc pc = .ok (.lmul, 1)) (kk : Zz Γ g nL k n x (pc + 1) lv (.long (zl (a * b)) :: st)) : Zz Γ g nL k n x pc lv (.long (zl b) :: .long (zl a) :: st) := fun H locs ls hP hS hv => lv_lmul (okx hO) (okb hO) d (by rw [zl_mul]; exact (kk H locs ls hP hS hv))
theorem z_ineg (hO : Ok Γ g cc nL own F Lc kc ns) {a : Int} (d : decode cc pc = .ok (.ineg, 1)) (kk : Zz Γ g nL k n x (pc + 1) lv (.int (zi (-a)) :: st)) : Zz Γ g nL k n x pc lv (.int (zi a) :: st) := fun H locs ls hP hS hv => lv_ineg (okx hO) (okb hO) d (by rw [zi_neg]; exact (kk H locs ls hP hS hv))
theorem zi_ne0 {b : Int} (hb : 0 < b ∧ b < 2147483648) : ¬ zi b = 0 := by
  intro h
  have h2 := congrArg Int32.toInt h
  rw [zi_toInt (by omega)] at h2
  have h3 : (0 : Int32).toInt = 0 := by decide
  omega
theorem zl_ne0 {b : Int} (hb : 0 < b ∧ b < 9223372036854775808) : ¬ zl b = 0 := by
  intro h
  have h2 := congrArg Int64.toInt h
  rw [zl_toInt (by omega)] at h2
  have h3 : (0 : Int64).toInt = 0 := by decide
  omega
theorem z_idiv (hO : Ok Γ g cc nL own F Lc kc ns) {a b : Int} (d : decode cc pc = .ok (.idiv, 1)) (ha : 0 ≤ a ∧ a < 2147483648) (hb : 0 < b ∧ b < 2147483648) (kk : Zz Γ g nL k n x (pc + 1) lv (.int (zi (a / b)) :: st)) : Zz Γ g nL k n x pc lv (.int (zi b) :: .int (zi a) :: st) := fun H locs ls hP hS hv => lv_idiv (okx hO) (okb hO) d (zi_ne0 hb) (by rw [zi_div ha hb]; exact (kk H locs ls hP hS hv))
theorem z_irem (hO : Ok Γ g cc nL own F Lc kc ns) {a b : Int} (d : decode cc pc = .ok (.irem, 1)) (ha : 0 ≤ a ∧ a < 2147483648) (hb : 0 < b ∧ b < 2147483648) (kk : Zz Γ g nL k n x (pc + 1) lv (.int (zi (a % b)) :: st)) : Zz Γ g nL k n x pc lv (.int (zi b) :: .int (zi a) :: st) := fun H locs ls hP hS hv => lv_irem (okx hO) (okb hO) d (zi_ne0 hb) (by rw [zi_mod ha hb]; exact (kk H locs ls hP hS hv))
theorem z_ldiv (hO : Ok Γ g cc nL own F Lc kc ns) {a b : Int} (d : decode cc pc = .ok (.ldiv, 1)) (ha : 0 ≤ a ∧ a < 9223372036854775808) (hb : 0 < b ∧ b < 9223372036854775808) (kk : Zz Γ g nL k n x (pc + 1) lv (.long (zl (a / b)) :: st)) : Zz Γ g nL k n x pc lv (.long (zl b) :: .long (zl a) :: st) := fun H locs ls hP hS hv => lv_ldiv (okx hO) (okb hO) d (zl_ne0 hb) (by rw [zl_div ha hb]; exact (kk H locs ls hP hS hv))
theorem z_lrem (hO : Ok Γ g cc nL own F Lc kc ns) {a b : Int} (d : decode cc pc = .ok (.lrem, 1)) (ha : 0 ≤ a ∧ a < 9223372036854775808) (hb : 0 < b ∧ b < 9223372036854775808) (kk : Zz Γ g nL k n x (pc + 1) lv (.long (zl (a % b)) :: st)) : Zz Γ g nL k n x pc lv (.long (zl b) :: .long (zl a) :: st) := fun H locs ls hP hS hv => lv_lrem (okx hO) (okb hO) d (zl_ne0 hb) (by rw [zl_mod ha hb]; exact (kk H locs ls hP hS hv))
theorem z_iand (hO : Ok Γ g cc nL own F Lc kc ns) {a b : Int32} (v : Int32) (d : decode cc pc = .ok (.iand, 1)) (h : a &&& b = v) (kk : Zz Γ g nL k n x (pc + 1) lv (.int v :: st)) : Zz Γ g nL k n x pc lv (.int b :: .int a :: st) := fun H locs ls hP hS hv => lv_iand (okx hO) (okb hO) d (by rw [h]; exact (kk H locs ls hP hS hv))
theorem z_ior (hO : Ok Γ g cc nL own F Lc kc ns) {a b : Int32} (v : Int32) (d : decode cc pc = .ok (.ior, 1)) (h : a ||| b = v) (kk : Zz Γ g nL k n x (pc + 1) lv (.int v :: st)) : Zz Γ g nL k n x pc lv (.int b :: .int a :: st) := fun H locs ls hP hS hv => lv_ior (okx hO) (okb hO) d (by rw [h]; exact (kk H locs ls hP hS hv))
theorem z_ixor (hO : Ok Γ g cc nL own F Lc kc ns) {a b : Int32} (v : Int32) (d : decode cc pc = .ok (.ixor, 1)) (h : a ^^^ b = v) (kk : Zz Γ g nL k n x (pc + 1) lv (.int v :: st)) : Zz Γ g nL k n x pc lv (.int b :: .int a :: st) := fun H locs ls hP hS hv => lv_ixor (okx hO) (okb hO) d (by rw [h]; exact (kk H locs ls hP hS hv))
theorem z_ishl (hO : Ok Γ g cc nL own F Lc kc ns) {a b : Int32} (v : Int32) (d : decode cc pc = .ok (.ishl, 1)) (h : a <<< (b &&& 31) = v) (kk : Zz Γ g nL k n x (pc + 1) lv (.int v :: st)) : Zz Γ g nL k n x pc lv (.int b :: .int a :: st) := fun H locs ls hP hS hv => lv_ishl (okx hO) (okb hO) d (by rw [h]; exact (kk H locs ls hP hS hv))
theorem z_ishr (hO : Ok Γ g cc nL own F Lc kc ns) {a b : Int32} (v : Int32) (d : decode cc pc = .ok (.ishr, 1)) (h : a >>> (b &&& 31) = v) (kk : Zz Γ g nL k n x (pc + 1) lv (.int v :: st)) : Zz Γ g nL k n x pc lv (.int b :: .int a :: st) := fun H locs ls hP hS hv => lv_ishr (okx hO) (okb hO) d (by rw [h]; exact (kk H locs ls hP hS hv))
theorem z_iushr (hO : Ok Γ g cc nL own F Lc kc ns) {a b : Int32} (v : Int32) (d : decode cc pc = .ok (.iushr, 1)) (h : (a.toUInt32 >>> (b.toUInt32 &&& Int32.toUInt32 31)).toInt32 = v) (kk : Zz Γ g nL k n x (pc + 1) lv (.int v :: st)) : Zz Γ g nL k n x pc lv (.int b :: .int a :: st) := fun H locs ls hP hS hv => lv_iushr (okx hO) (okb hO) d h (kk H locs ls hP hS hv)
theorem z_lxor (hO : Ok Γ g cc nL own F Lc kc ns) {a b : Int64} (v : Int64) (d : decode cc pc = .ok (.lxor, 1)) (h : a ^^^ b = v) (kk : Zz Γ g nL k n x (pc + 1) lv (.long v :: st)) : Zz Γ g nL k n x pc lv (.long b :: .long a :: st) := fun H locs ls hP hS hv => lv_lxor (okx hO) (okb hO) d (by rw [h]; exact (kk H locs ls hP hS hv))
theorem z_i2l (hO : Ok Γ g cc nL own F Lc kc ns) {a : Int} (d : decode cc pc = .ok (.i2l, 1)) (h : -2147483648 ≤ a ∧ a < 2147483648) (kk : Zz Γ g nL k n x (pc + 1) lv (.long (zl a) :: st)) : Zz Γ g nL k n x pc lv (.int (zi a) :: st) := fun H locs ls hP hS hv => lv_i2l (okx hO) (okb hO) d (zi_l h) (kk H locs ls hP hS hv)
theorem z_l2i (hO : Ok Γ g cc nL own F Lc kc ns) {a : Int} (d : decode cc pc = .ok (.l2i, 1)) (h : -2147483648 ≤ a ∧ a < 2147483648) (kk : Zz Γ g nL k n x (pc + 1) lv (.int (zi a) :: st)) : Zz Γ g nL k n x pc lv (.long (zl a) :: st) := fun H locs ls hP hS hv => lv_l2i (okx hO) (okb hO) d (zl_i h) (kk H locs ls hP hS hv)
theorem z_goto (hO : Ok Γ g cc nL own F Lc kc ns) {off : Int} {tgt : Nat} (d : decode cc pc = .ok (.goto off, 3)) (ht : (pc : Int) + off = (tgt : Int)) (kk : Zz Γ g nL k n x tgt lv st) : Zz Γ g nL k n x pc lv st := fun H locs ls hP hS hv => lv_goto (okx hO) (okb hO) d ht (kk H locs ls hP hS hv)
theorem z_icmp_eq (hO : Ok Γ g cc nL own F Lc kc ns) {a b off : Int} {tgt : Nat} (d : decode cc pc = .ok (.if_icmp .eq off, 3)) (ht : (pc : Int) + off = (tgt : Int)) (ha : -2147483648 ≤ a ∧ a < 2147483648) (hb : -2147483648 ≤ b ∧ b < 2147483648) (kt : a = b → Zz Γ g nL k n x tgt lv st) (kf : a ≠ b → Zz Γ g nL k n x (pc + 3) lv st) : Zz Γ g nL k n x pc lv (.int (zi b) :: .int (zi a) :: st) := fun H locs ls hP hS hv => lv_icmp_eq (okx hO) (okb hO) d ht (fun h => kt ((zi_eq ha hb).mp h) H locs ls hP hS hv) (fun h => kf (fun h2 => h ((zi_eq ha hb).mpr h2)) H locs ls hP hS hv)
theorem z_if_eq (hO : Ok Γ g cc nL own F Lc kc ns) {a off : Int} {tgt : Nat} (d : decode cc pc = .ok (.ifCond .eq off, 3)) (ht : (pc : Int) + off = (tgt : Int)) (ha : -2147483648 ≤ a ∧ a < 2147483648) (kt : a = 0 → Zz Γ g nL k n x tgt lv st) (kf : a ≠ 0 → Zz Γ g nL k n x (pc + 3) lv st) : Zz Γ g nL k n x pc lv (.int (zi a) :: st) := fun H locs ls hP hS hv => lv_if_eq (okx hO) (okb hO) d ht (fun h => kt ((zi_eq ha (show -2147483648 ≤ (0 : Int) ∧ (0 : Int) < 2147483648 by decide)).mp h) H locs ls hP hS hv) (fun h => kf (fun h2 => h ((zi_eq ha (show -2147483648 ≤ (0 : Int) ∧ (0 : Int) < 2147483648 by decide)).mpr h2)) H locs ls hP hS hv)
theorem z_icmp_ne (hO : Ok Γ g cc nL own F Lc kc ns) {a b off : Int} {tgt : Nat} (d : decode cc pc = .ok (.if_icmp .ne off, 3)) (ht : (pc : Int) + off = (tgt : Int)) (ha : -2147483648 ≤ a ∧ a < 2147483648) (hb : -2147483648 ≤ b ∧ b < 2147483648) (kt : a ≠ b → Zz Γ g nL k n x tgt lv st) (kf : a = b → Zz Γ g nL k n x (pc + 3) lv st) : Zz Γ g nL k n x pc lv (.int (zi b) :: .int (zi a) :: st) := fun H locs ls hP hS hv => lv_icmp_ne (okx hO) (okb hO) d ht (fun h => kt ((not_congr (zi_eq ha hb)).mp h) H locs ls hP hS hv) (fun h => kf ((zi_eq ha hb).mp h) H locs ls hP hS hv)
theorem z_if_ne (hO : Ok Γ g cc nL own F Lc kc ns) {a off : Int} {tgt : Nat} (d : decode cc pc = .ok (.ifCond .ne off, 3)) (ht : (pc : Int) + off = (tgt : Int)) (ha : -2147483648 ≤ a ∧ a < 2147483648) (kt : a ≠ 0 → Zz Γ g nL k n x tgt lv st) (kf : a = 0 → Zz Γ g nL k n x (pc + 3) lv st) : Zz Γ g nL k n x pc lv (.int (zi a) :: st) := fun H locs ls hP hS hv => lv_if_ne (okx hO) (okb hO) d ht (fun h => kt ((not_congr (zi_eq ha (show -2147483648 ≤ (0 : Int) ∧ (0 : Int) < 2147483648 by decide))).mp h) H locs ls hP hS hv) (fun h => kf ((zi_eq ha (show -2147483648 ≤ (0 : Int) ∧ (0 : Int) < 2147483648 by decide)).mp h) H locs ls hP hS hv)
theorem z_icmp_lt (hO : Ok Γ g cc nL own F Lc kc ns) {a b off : Int} {tgt : Nat} (d : decode cc pc = .ok (.if_icmp .lt off, 3)) (ht : (pc : Int) + off = (tgt : Int)) (ha : -2147483648 ≤ a ∧ a < 2147483648) (hb : -2147483648 ≤ b ∧ b < 2147483648) (kt : a < b → Zz Γ g nL k n x tgt lv st) (kf : b ≤ a → Zz Γ g nL k n x (pc + 3) lv st) : Zz Γ g nL k n x pc lv (.int (zi b) :: .int (zi a) :: st) := fun H locs ls hP hS hv => lv_icmp_lt (okx hO) (okb hO) d ht (fun h => kt ((zi_lt ha hb).mp h) H locs ls hP hS hv) (fun h => kf (Int.not_lt.mp fun h2 => h ((zi_lt ha hb).mpr h2)) H locs ls hP hS hv)
theorem z_if_lt (hO : Ok Γ g cc nL own F Lc kc ns) {a off : Int} {tgt : Nat} (d : decode cc pc = .ok (.ifCond .lt off, 3)) (ht : (pc : Int) + off = (tgt : Int)) (ha : -2147483648 ≤ a ∧ a < 2147483648) (kt : a < 0 → Zz Γ g nL k n x tgt lv st) (kf : 0 ≤ a → Zz Γ g nL k n x (pc + 3) lv st) : Zz Γ g nL k n x pc lv (.int (zi a) :: st) := fun H locs ls hP hS hv => lv_if_lt (okx hO) (okb hO) d ht (fun h => kt ((zi_lt ha (show -2147483648 ≤ (0 : Int) ∧ (0 : Int) < 2147483648 by decide)).mp h) H locs ls hP hS hv) (fun h => kf (Int.not_lt.mp fun h2 => h ((zi_lt ha (show -2147483648 ≤ (0 : Int) ∧ (0 : Int) < 2147483648 by decide)).mpr h2)) H locs ls hP hS hv)
theorem z_icmp_ge (hO : Ok Γ g cc nL own F Lc kc ns) {a b off : Int} {tgt : Nat} (d : decode cc pc = .ok (.if_icmp .ge off, 3)) (ht : (pc : Int) + off = (tgt : Int)) (ha : -2147483648 ≤ a ∧ a < 2147483648) (hb : -2147483648 ≤ b ∧ b < 2147483648) (kt : b ≤ a → Zz Γ g nL k n x tgt lv st) (kf : a < b → Zz Γ g nL k n x (pc + 3) lv st) : Zz Γ g nL k n x pc lv (.int (zi b) :: .int (zi a) :: st) := fun H locs ls hP hS hv => lv_icmp_ge (okx hO) (okb hO) d ht (fun h => kt ((zi_le hb ha).mp h) H locs ls hP hS hv) (fun h => kf (Int.not_le.mp fun h2 => h ((zi_le hb ha).mpr h2)) H locs ls hP hS hv)
theorem z_if_ge (hO : Ok Γ g cc nL own F Lc kc ns) {a off : Int} {tgt : Nat} (d : decode cc pc = .ok (.ifCond .ge off, 3)) (ht : (pc : Int) + off = (tgt : Int)) (ha : -2147483648 ≤ a ∧ a < 2147483648) (kt : 0 ≤ a → Zz Γ g nL k n x tgt lv st) (kf : a < 0 → Zz Γ g nL k n x (pc + 3) lv st) : Zz Γ g nL k n x pc lv (.int (zi a) :: st) := fun H locs ls hP hS hv => lv_if_ge (okx hO) (okb hO) d ht (fun h => kt ((zi_le (show -2147483648 ≤ (0 : Int) ∧ (0 : Int) < 2147483648 by decide) ha).mp h) H locs ls hP hS hv) (fun h => kf (Int.not_le.mp fun h2 => h ((zi_le (show -2147483648 ≤ (0 : Int) ∧ (0 : Int) < 2147483648 by decide) ha).mpr h2)) H locs ls hP hS hv)
theorem z_icmp_gt (hO : Ok Γ g cc nL own F Lc kc ns) {a b off : Int} {tgt : Nat} (d : decode cc pc = .ok (.if_icmp .gt off, 3)) (ht : (pc : Int) + off = (tgt : Int)) (ha : -2147483648 ≤ a ∧ a < 2147483648) (hb : -2147483648 ≤ b ∧ b < 2147483648) (kt : b < a → Zz Γ g nL k n x tgt lv st) (kf : a ≤ b → Zz Γ g nL k n x (pc + 3) lv st) : Zz Γ g nL k n x pc lv (.int (zi b) :: .int (zi a) :: st) := fun H locs ls hP hS hv => lv_icmp_gt (okx hO) (okb hO) d ht (fun h => kt ((zi_lt hb ha).mp h) H locs ls hP hS hv) (fun h => kf (Int.not_lt.mp fun h2 => h ((zi_lt hb ha).mpr h2)) H locs ls hP hS hv)
theorem z_if_gt (hO : Ok Γ g cc nL own F Lc kc ns) {a off : Int} {tgt : Nat} (d : decode cc pc = .ok (.ifCond .gt off, 3)) (ht : (pc : Int) + off = (tgt : Int)) (ha : -2147483648 ≤ a ∧ a < 2147483648) (kt : 0 < a → Zz Γ g nL k n x tgt lv st) (kf : a ≤ 0 → Zz Γ g nL k n x (pc + 3) lv st) : Zz Γ g nL k n x pc lv (.int (zi a) :: st) := fun H locs ls hP hS hv => lv_if_gt (okx hO) (okb hO) d ht (fun h => kt ((zi_lt (show -2147483648 ≤ (0 : Int) ∧ (0 : Int) < 2147483648 by decide) ha).mp h) H locs ls hP hS hv) (fun h => kf (Int.not_lt.mp fun h2 => h ((zi_lt (show -2147483648 ≤ (0 : Int) ∧ (0 : Int) < 2147483648 by decide) ha).mpr h2)) H locs ls hP hS hv)
theorem z_icmp_le (hO : Ok Γ g cc nL own F Lc kc ns) {a b off : Int} {tgt : Nat} (d : decode cc pc = .ok (.if_icmp .le off, 3)) (ht : (pc : Int) + off = (tgt : Int)) (ha : -2147483648 ≤ a ∧ a < 2147483648) (hb : -2147483648 ≤ b ∧ b < 2147483648) (kt : a ≤ b → Zz Γ g nL k n x tgt lv st) (kf : b < a → Zz Γ g nL k n x (pc + 3) lv st) : Zz Γ g nL k n x pc lv (.int (zi b) :: .int (zi a) :: st) := fun H locs ls hP hS hv => lv_icmp_le (okx hO) (okb hO) d ht (fun h => kt ((zi_le ha hb).mp h) H locs ls hP hS hv) (fun h => kf (Int.not_le.mp fun h2 => h ((zi_le ha hb).mpr h2)) H locs ls hP hS hv)
theorem z_if_le (hO : Ok Γ g cc nL own F Lc kc ns) {a off : Int} {tgt : Nat} (d : decode cc pc = .ok (.ifCond .le off, 3)) (ht : (pc : Int) + off = (tgt : Int)) (ha : -2147483648 ≤ a ∧ a < 2147483648) (kt : a ≤ 0 → Zz Γ g nL k n x tgt lv st) (kf : 0 < a → Zz Γ g nL k n x (pc + 3) lv st) : Zz Γ g nL k n x pc lv (.int (zi a) :: st) := fun H locs ls hP hS hv => lv_if_le (okx hO) (okb hO) d ht (fun h => kt ((zi_le ha (show -2147483648 ≤ (0 : Int) ∧ (0 : Int) < 2147483648 by decide)).mp h) H locs ls hP hS hv) (fun h => kf (Int.not_le.mp fun h2 => h ((zi_le ha (show -2147483648 ≤ (0 : Int) ∧ (0 : Int) < 2147483648 by decide)).mpr h2)) H locs ls hP hS hv)
theorem z_ifnull (hO : Ok Γ g cc nL own F Lc kc ns) {a : Nat} {off : Int} (d : decode cc pc = .ok (.ifnull off, 3)) (kk : Zz Γ g nL k n x (pc + 3) lv st) : Zz Γ g nL k n x pc lv (.ref a :: st) := fun H locs ls hP hS hv => lv_ifnull (okx hO) (okb hO) d (kk H locs ls hP hS hv)
theorem z_ifnonnull (hO : Ok Γ g cc nL own F Lc kc ns) {a tgt : Nat} {off : Int} (d : decode cc pc = .ok (.ifnonnull off, 3)) (ht : (pc : Int) + off = (tgt : Int)) (kk : Zz Γ g nL k n x tgt lv st) : Zz Γ g nL k n x pc lv (.ref a :: st) := fun H locs ls hP hS hv => lv_ifnonnull (okx hO) (okb hO) d ht (kk H locs ls hP hS hv)
theorem lg_cmp_z {a b : Int} (ha : -9223372036854775808 ≤ a ∧ a < 9223372036854775808) (hb : -9223372036854775808 ≤ b ∧ b < 9223372036854775808) : lg_cmp (zl a) (zl b) = zi (if b < a then 1 else if a < b then -1 else 0) := by
  unfold lg_cmp
  have e1 := zl_lt hb ha
  have e2 := zl_eq ha hb
  by_cases h1 : b < a
  · rw [if_pos (e1.mpr h1), if_pos h1]; rfl
  · rw [if_neg (fun h => h1 (e1.mp h)), if_neg h1]
    by_cases h2 : a = b
    · rw [if_pos (e2.mpr h2), if_neg (by omega)]; rfl
    · rw [if_neg (fun h => h2 (e2.mp h)), if_pos (by omega)]; rfl
theorem z_lcmp_eq (hO : Ok Γ g cc nL own F Lc kc ns) {a b off : Int} {tgt : Nat} (d0 : decode cc pc = .ok (.lcmp, 1)) (d : decode cc (pc + 1) = .ok (.ifCond .eq off, 3)) (ht : ((pc + 1 : Nat) : Int) + off = (tgt : Int)) (ha : -9223372036854775808 ≤ a ∧ a < 9223372036854775808) (hb : -9223372036854775808 ≤ b ∧ b < 9223372036854775808) (kt : a = b → Zz Γ g nL k n x tgt lv st) (kf : a ≠ b → Zz Γ g nL k n x (pc + 1 + 3) lv st) : Zz Γ g nL k n x pc lv (.long (zl b) :: .long (zl a) :: st) := by
  intro H locs ls hP hS hv
  refine W.lcmp (okx hO) (okb hO) d0 ?_
  rw [lg_cmp_z ha hb]
  exact z_if_eq hO d ht (by split <;> first | omega | (split <;> omega)) (fun h => kt (by split at h <;> first | omega | (split at h <;> omega))) (fun h => kf (by split at h <;> first | omega | (split at h <;> omega))) H locs ls hP hS hv
theorem z_lcmp_ne (hO : Ok Γ g cc nL own F Lc kc ns) {a b off : Int} {tgt : Nat} (d0 : decode cc pc = .ok (.lcmp, 1)) (d : decode cc (pc + 1) = .ok (.ifCond .ne off, 3)) (ht : ((pc + 1 : Nat) : Int) + off = (tgt : Int)) (ha : -9223372036854775808 ≤ a ∧ a < 9223372036854775808) (hb : -9223372036854775808 ≤ b ∧ b < 9223372036854775808) (kt : a ≠ b → Zz Γ g nL k n x tgt lv st) (kf : a = b → Zz Γ g nL k n x (pc + 1 + 3) lv st) : Zz Γ g nL k n x pc lv (.long (zl b) :: .long (zl a) :: st) := by
  intro H locs ls hP hS hv
  refine W.lcmp (okx hO) (okb hO) d0 ?_
  rw [lg_cmp_z ha hb]
  exact z_if_ne hO d ht (by split <;> first | omega | (split <;> omega)) (fun h => kt (by split at h <;> first | omega | (split at h <;> omega))) (fun h => kf (by split at h <;> first | omega | (split at h <;> omega))) H locs ls hP hS hv
theorem z_lcmp_lt (hO : Ok Γ g cc nL own F Lc kc ns) {a b off : Int} {tgt : Nat} (d0 : decode cc pc = .ok (.lcmp, 1)) (d : decode cc (pc + 1) = .ok (.ifCond .lt off, 3)) (ht : ((pc + 1 : Nat) : Int) + off = (tgt : Int)) (ha : -9223372036854775808 ≤ a ∧ a < 9223372036854775808) (hb : -9223372036854775808 ≤ b ∧ b < 9223372036854775808) (kt : a < b → Zz Γ g nL k n x tgt lv st) (kf : b ≤ a → Zz Γ g nL k n x (pc + 1 + 3) lv st) : Zz Γ g nL k n x pc lv (.long (zl b) :: .long (zl a) :: st) := by
  intro H locs ls hP hS hv
  refine W.lcmp (okx hO) (okb hO) d0 ?_
  rw [lg_cmp_z ha hb]
  exact z_if_lt hO d ht (by split <;> first | omega | (split <;> omega)) (fun h => kt (by split at h <;> first | omega | (split at h <;> omega))) (fun h => kf (by split at h <;> first | omega | (split at h <;> omega))) H locs ls hP hS hv
theorem z_lcmp_ge (hO : Ok Γ g cc nL own F Lc kc ns) {a b off : Int} {tgt : Nat} (d0 : decode cc pc = .ok (.lcmp, 1)) (d : decode cc (pc + 1) = .ok (.ifCond .ge off, 3)) (ht : ((pc + 1 : Nat) : Int) + off = (tgt : Int)) (ha : -9223372036854775808 ≤ a ∧ a < 9223372036854775808) (hb : -9223372036854775808 ≤ b ∧ b < 9223372036854775808) (kt : b ≤ a → Zz Γ g nL k n x tgt lv st) (kf : a < b → Zz Γ g nL k n x (pc + 1 + 3) lv st) : Zz Γ g nL k n x pc lv (.long (zl b) :: .long (zl a) :: st) := by
  intro H locs ls hP hS hv
  refine W.lcmp (okx hO) (okb hO) d0 ?_
  rw [lg_cmp_z ha hb]
  exact z_if_ge hO d ht (by split <;> first | omega | (split <;> omega)) (fun h => kt (by split at h <;> first | omega | (split at h <;> omega))) (fun h => kf (by split at h <;> first | omega | (split at h <;> omega))) H locs ls hP hS hv
theorem z_lcmp_gt (hO : Ok Γ g cc nL own F Lc kc ns) {a b off : Int} {tgt : Nat} (d0 : decode cc pc = .ok (.lcmp, 1)) (d : decode cc (pc + 1) = .ok (.ifCond .gt off, 3)) (ht : ((pc + 1 : Nat) : Int) + off = (tgt : Int)) (ha : -9223372036854775808 ≤ a ∧ a < 9223372036854775808) (hb : -9223372036854775808 ≤ b ∧ b < 9223372036854775808) (kt : b < a → Zz Γ g nL k n x tgt lv st) (kf : a ≤ b → Zz Γ g nL k n x (pc + 1 + 3) lv st) : Zz Γ g nL k n x pc lv (.long (zl b) :: .long (zl a) :: st) := by
  intro H locs ls hP hS hv
  refine W.lcmp (okx hO) (okb hO) d0 ?_
  rw [lg_cmp_z ha hb]
  exact z_if_gt hO d ht (by split <;> first | omega | (split <;> omega)) (fun h => kt (by split at h <;> first | omega | (split at h <;> omega))) (fun h => kf (by split at h <;> first | omega | (split at h <;> omega))) H locs ls hP hS hv
theorem z_lcmp_le (hO : Ok Γ g cc nL own F Lc kc ns) {a b off : Int} {tgt : Nat} (d0 : decode cc pc = .ok (.lcmp, 1)) (d : decode cc (pc + 1) = .ok (.ifCond .le off, 3)) (ht : ((pc + 1 : Nat) : Int) + off = (tgt : Int)) (ha : -9223372036854775808 ≤ a ∧ a < 9223372036854775808) (hb : -9223372036854775808 ≤ b ∧ b < 9223372036854775808) (kt : a ≤ b → Zz Γ g nL k n x tgt lv st) (kf : b < a → Zz Γ g nL k n x (pc + 1 + 3) lv st) : Zz Γ g nL k n x pc lv (.long (zl b) :: .long (zl a) :: st) := by
  intro H locs ls hP hS hv
  refine W.lcmp (okx hO) (okb hO) d0 ?_
  rw [lg_cmp_z ha hb]
  exact z_if_le hO d ht (by split <;> first | omega | (split <;> omega)) (fun h => kt (by split at h <;> first | omega | (split at h <;> omega))) (fun h => kf (by split at h <;> first | omega | (split at h <;> omega))) H locs ls hP hS hv
theorem z_tabIn (hO : Ok Γ g cc nL own F Lc kc ns) {dflt lo hi off a : Int} {offs : Array Int} {len tgt : Nat} (d : decode cc pc = .ok (.tableswitch dflt lo hi offs, len)) (ha : -2147483648 ≤ a ∧ a < 2147483648) (h1 : lo ≤ a) (h2 : a ≤ hi) (ho : offs[(a - lo).toNat]? = some off) (ht : (pc : Int) + off = (tgt : Int)) (kk : Zz Γ g nL k n x tgt lv st) : Zz Γ g nL k n x pc lv (.int (zi a) :: st) := fun H locs ls hP hS hv => lv_tableIn (okx hO) (okb hO) d (by rw [zi_toInt ha]; omega) (by rw [zi_toInt ha]; omega) (by rw [zi_toInt ha]; exact ho) ht (kk H locs ls hP hS hv)
theorem z_tabOut (hO : Ok Γ g cc nL own F Lc kc ns) {dflt lo hi a : Int} {offs : Array Int} {len tgt : Nat} (d : decode cc pc = .ok (.tableswitch dflt lo hi offs, len)) (ha : -2147483648 ≤ a ∧ a < 2147483648) (h : a < lo ∨ hi < a) (ht : (pc : Int) + dflt = (tgt : Int)) (kk : Zz Γ g nL k n x tgt lv st) : Zz Γ g nL k n x pc lv (.int (zi a) :: st) := fun H locs ls hP hS hv => lv_tableOut (okx hO) (okb hO) d (by rw [zi_toInt ha]; exact h) ht (kk H locs ls hP hS hv)
theorem z_look (hO : Ok Γ g cc nL own F Lc kc ns) {dflt off a : Int} {ps : Array (Int × Int)} {len tgt : Nat} (d : decode cc pc = .ok (.lookupswitch dflt ps, len)) (ha : -2147483648 ≤ a ∧ a < 2147483648) (hp : (ps.toList.zip (ps.toList.drop 1)).all (fun (a, next) => a.1 < next.1) = true) (ho : Op.lookupswitch.offset ps.toList dflt a = off) (ht : (pc : Int) + off = (tgt : Int)) (kk : Zz Γ g nL k n x tgt lv st) : Zz Γ g nL k n x pc lv (.int (zi a) :: st) := fun H locs ls hP hS hv => lv_lookup (okx hO) (okb hO) d hp (by rw [zi_toInt ha]; exact ho) ht (kk H locs ls hP hS hv)
end Zrows
end
section
section Zheap
variable {Γ : Gam} {g : Gl} {cc : ByteArray} {own : String} {nL k n F Lc kc ns pc : Nat} {x : Me} {lv : List (Nat × Value)} {st : List Value}
theorem z_get (hO : Ok Γ g cc nL own F Lc kc ns) {index ci kf N : Nat} {C nm ds : String} {b : Bool} {T : u_T} {fs : List Value} {v : Value} (i : Nat) (hi : i ∈ dl) (d : decode cc pc = .ok (.getfield index, 3)) (hlink : Cond.fieldLink own index C nm ds ∈ wsU) (hc : vwCl[ci]? = some (C, T, N)) (hin : ∀ w ∈ u_ws C T N, w ∈ wsU) (hk : kf < N) (hT : T kf = (C, nm, ds, b)) (he : we g i (x i) = .inr (ci, fs)) (hf : fs[kf]? = some v) (kk : Zz Γ g nL k n x (pc + 3) lv (v :: st)) : Zz Γ g nL k n x pc lv (.ref (gA g i) :: st) := by
  intro H locs ls hP hS hv
  obtain ⟨q0, h0, -⟩ := wl_at (g := g) (x := x) hi
  rw [he] at h0
  exact va_get (okx hO) (okb hO) (okw hO) hin (oko hO) (okk hO) hP q0 h0 hc kf hk (by rw [hT]; exact okw hO _ hlink) (by rw [hT]; exact fun _ h => h) hf d (kk H locs ls hP hS hv)
theorem z_put (hO : Ok Γ g cc nL own F Lc kc ns) {index ci kf N : Nat} {C nm ds : String} {T : u_T} {fs : List Value} {v : Int} {ty : FieldType} {ty0 : Nat → FieldType} (i : Nat) (kz : Int) (hi : i ∈ dl) (d : decode cc pc = .ok (.putfield index, 3)) (hlink : Cond.fieldLink own index C nm ds ∈ wsU) (hc : vwCl[ci]? = some (C, T, N)) (hin : ∀ w ∈ u_ws C T N, w ∈ wsU) (hty : ∀ k, k < N → parseFieldDescriptor (T k).2.2.1 = some (ty0 k)) (hnm : ∀ a, a < N → ∀ b, b < N → a ≠ b → (T a).2.1 ≠ (T b).2.1) (hk : kf < N) (hT : T kf = (C, nm, ds, false)) (hd : parseFieldDescriptor ds = some ty) (hn : narrow ty (.int (zi v)) = .int (zi v)) (hfit : fits ty (.int (zi v)) = true) (hl : kf < fs.length) (he : we g i (x i) = .inr (ci, fs)) (hx : we g i (up x i kz v i) = .inr (ci, fs.set kf (.int (zi v)))) (kk : ∀ x' : Me, x' = up x i kz v → Zz Γ g nL k n x' (pc + 3) lv st) : Zz Γ g nL k n x pc lv (.int (zi v) :: .ref (gA g i) :: st) := by
  intro H locs ls hP hS hv
  obtain ⟨q0, h0, h1⟩ := wl_at (g := g) (x := x) hi
  rw [he] at h0
  refine va_put (okx hO) (okb hO) (okw hO) hin ty0 hty hnm (oko hO) (okk hO) hP (wl_D (okg hO) x) hS q0 h0 hc kf hk (by rw [hT]; exact okw hO _ hlink) (by rw [hT]; exact fun _ h => h) (by rw [hT]) (by rw [hT]; exact hd) hn hfit hl d (fun H1 locs1 hP1 hD1 hS1 => ?_)
  rw [wl_set h1 (x' := up x i kz v) (fun a ha => up_i x kz v ha) hx.symm] at hP1
  exact kk _ rfl H1 locs1 ls hP1 hS1 hv
/-! arrays -/
def isI (g : Gl) (i len : Nat) : Prop := i ∈ dl ∧ (∀ f, we g i f = ai g f len) ∧ len < 2147483648
def isL (g : Gl) (i len : Nat) : Prop := i ∈ dl ∧ (∀ f, we g i f = al g f len) ∧ len < 2147483648
def isZ (g : Gl) (i len : Nat) : Prop := i ∈ dl ∧ (∀ f, we g i f = az g f len) ∧ len < 2147483648
def isO (g : Gl) (i : Nat) (C : String) : Prop := i ∈ dl ∧ ∃ (ci N : Nat) (T : u_T), vwCl[ci]? = some (C, T, N) ∧ ∀ f, ∃ fs, we g i f = .inr (ci, fs)
theorem z_iald (hO : Ok Γ g cc nL own F Lc kc ns) {i len : Nat} {j : Int} (hI : isI g i len) (hj : 0 ≤ j ∧ j < len) (d : decode cc pc = .ok (.iaload, 1)) (kk : Zz Γ g nL k n x (pc + 1) lv (.int (zi (x i j)) :: st)) : Zz Γ g nL k n x pc lv (.int (zi j) :: .ref (gA g i) :: st) := by
  intro H locs ls hP hS hv
  obtain ⟨q0, h0, -⟩ := wl_at (g := g) (x := x) hI.1
  rw [hI.2.1] at h0
  refine va_iald (okx hO) (okb hO) (okk hO) hP q0 0 h0 rfl (zi_in hj hI.2.2) d ?_
  have hq := hI.2.2
  rw [zi_clamp (by omega), Int.toNat_of_nonneg hj.1]
  exact kk H locs ls hP hS hv
theorem z_lald (hO : Ok Γ g cc nL own F Lc kc ns) {i len : Nat} {j : Int} (hI : isL g i len) (hj : 0 ≤ j ∧ j < len) (d : decode cc pc = .ok (.laload, 1)) (kk : Zz Γ g nL k n x (pc + 1) lv (.long (zl (x i j)) :: st)) : Zz Γ g nL k n x pc lv (.int (zi j) :: .ref (gA g i) :: st) := by
  intro H locs ls hP hS hv
  obtain ⟨q0, h0, -⟩ := wl_at (g := g) (x := x) hI.1
  rw [hI.2.1] at h0
  refine va_lald (okx hO) (okb hO) (okk hO) hP q0 1 h0 rfl (zi_in hj hI.2.2) d ?_
  have hq := hI.2.2
  rw [zi_clamp (by omega), Int.toNat_of_nonneg hj.1]
  exact kk H locs ls hP hS hv
theorem z_zald (hO : Ok Γ g cc nL own F Lc kc ns) {i len : Nat} {j : Int} (hI : isZ g i len) (hj : 0 ≤ j ∧ j < len) (d : decode cc pc = .ok (.baload, 1)) (kk : Zz Γ g nL k n x (pc + 1) lv (.int (zi (x i j)) :: st)) : Zz Γ g nL k n x pc lv (.int (zi j) :: .ref (gA g i) :: st) := by
  intro H locs ls hP hS hv
  obtain ⟨q0, h0, -⟩ := wl_at (g := g) (x := x) hI.1
  rw [hI.2.1] at h0
  refine va_zald (okx hO) (okb hO) (okk hO) hP q0 2 h0 rfl (zi_in hj hI.2.2) d ?_
  have hq := hI.2.2
  rw [zi_clamp (by omega), Int.toNat_of_nonneg hj.1]
  exact kk H locs ls hP hS hv
theorem upd_z (x : Me) (i : Nat) (j v : Int) (h : 0 ≤ j ∧ j < 2147483648) : upd (fun k : Nat => zi (x i k)) (zi j).toNatClampNeg (zi v) = fun k : Nat => zi (up x i j v i k) := by
  funext a
  rw [zi_clamp h]
  by_cases ha : a = j.toNat
  · subst ha
    rw [pk_us, Int.toNat_of_nonneg h.1, up_s]
  · rw [pk_un ha, up_n x v (by omega)]
theorem updL_z (x : Me) (i : Nat) (j v : Int) (h : 0 ≤ j ∧ j < 2147483648) : vp_updL (fun k : Nat => zl (x i k)) (zi j).toNatClampNeg (zl v) = fun k : Nat => zl (up x i j v i k) := by
  funext a
  rw [zi_clamp h]
  by_cases ha : a = j.toNat
  · subst ha
    rw [pk_uLs, Int.toNat_of_nonneg h.1, up_s]
  · rw [pk_uLn ha, up_n x v (by omega)]
theorem z_iast (hO : Ok Γ g cc nL own F Lc kc ns) {i len : Nat} {j v : Int} (hI : isI g i len) (hj : 0 ≤ j ∧ j < len) (d : decode cc pc = .ok (.iastore, 1)) (kk : ∀ x' : Me, x' = up x i j v → Zz Γ g nL k n x' (pc + 1) lv st) : Zz Γ g nL k n x pc lv (.int (zi v) :: .int (zi j) :: .ref (gA g i) :: st) := by
  intro H locs ls hP hS hv
  obtain ⟨q0, h0, h1⟩ := wl_at (g := g) (x := x) hI.1
  rw [hI.2.1] at h0
  have hq := hI.2.2
  refine va_iast (okx hO) (okb hO) (okk hO) hP (wl_D (okg hO) x) hS q0 0 h0 rfl (zi_in hj hI.2.2) d (fun H1 locs1 hP1 hD1 hS1 => ?_)
  rw [upd_z x i j v (by omega)] at hP1
  have e : (Sum.inl (gC g 0, len, Sum.inl (fun k : Nat => zi (up x i j v i k))) : va_E) = we g i (up x i j v i) := by rw [hI.2.1]; rfl
  rw [wl_set h1 (x' := up x i j v) (fun a ha => up_i x j v ha) e] at hP1
  exact kk _ rfl H1 locs1 ls hP1 hS1 hv
theorem z_last (hO : Ok Γ g cc nL own F Lc kc ns) {i len : Nat} {j v : Int} (hI : isL g i len) (hj : 0 ≤ j ∧ j < len) (d : decode cc pc = .ok (.lastore, 1)) (kk : ∀ x' : Me, x' = up x i j v → Zz Γ g nL k n x' (pc + 1) lv st) : Zz Γ g nL k n x pc lv (.long (zl v) :: .int (zi j) :: .ref (gA g i) :: st) := by
  intro H locs ls hP hS hv
  obtain ⟨q0, h0, h1⟩ := wl_at (g := g) (x := x) hI.1
  rw [hI.2.1] at h0
  have hq := hI.2.2
  refine va_last (okx hO) (okb hO) (okk hO) hP (wl_D (okg hO) x) hS q0 1 h0 rfl (zi_in hj hI.2.2) d (fun H1 locs1 hP1 hD1 hS1 => ?_)
  rw [updL_z x i j v (by omega)] at hP1
  have e : (Sum.inl (gC g 1, len, Sum.inr (Sum.inl (fun k : Nat => zl (up x i j v i k)))) : va_E) = we g i (up x i j v i) := by rw [hI.2.1]; rfl
  rw [wl_set h1 (x' := up x i j v) (fun a ha => up_i x j v ha) e] at hP1
  exact kk _ rfl H1 locs1 ls hP1 hS1 hv
theorem zi_bool {v : Int} (h : v = 0 ∨ v = 1) : narrow .boolean (.int (zi v)) = .int (zi v) ∧ vp_nar .boolean (zi v) = zi v ∧ fits .boolean (.int (zi v)) = true := by
  rcases h with rfl | rfl <;> refine ⟨?_, ?_, ?_⟩ <;> decide
theorem z_zast (hO : Ok Γ g cc nL own F Lc kc ns) {i len : Nat} {j v : Int} (hI : isZ g i len) (hj : 0 ≤ j ∧ j < len) (hb : v = 0 ∨ v = 1) (d : decode cc pc = .ok (.bastore, 1)) (kk : ∀ x' : Me, x' = up x i j v → Zz Γ g nL k n x' (pc + 1) lv st) : Zz Γ g nL k n x pc lv (.int (zi v) :: .int (zi j) :: .ref (gA g i) :: st) := by
  intro H locs ls hP hS hv
  obtain ⟨q0, h0, h1⟩ := wl_at (g := g) (x := x) hI.1
  rw [hI.2.1] at h0
  have hq := hI.2.2
  refine va_zast (okx hO) (okb hO) (okk hO) hP (wl_D (okg hO) x) hS q0 2 h0 rfl (zi_in hj hI.2.2) d (fun H1 locs1 hP1 hD1 hS1 => ?_)
  rw [(zi_bool hb).2.1, upd_z x i j v (by omega)] at hP1
  have e : (Sum.inl (gC g 2, len, Sum.inl (fun k : Nat => zi (up x i j v i k))) : va_E) = we g i (up x i j v i) := by rw [hI.2.1]; rfl
  rw [wl_set h1 (x' := up x i j v) (fun a ha => up_i x j v ha) e] at hP1
  exact kk _ rfl H1 locs1 ls hP1 hS1 hv
theorem z_figs (hO : Ok Γ g cc nL own F Lc kc ns) {j : Nat} (hj : j < 8) (d : decode cc pc = .ok (.aaload, 1)) (kk : Zz Γ g nL k n x (pc + 1) lv (.ref (gA g (10 + j)) :: st)) : Zz Γ g nL k n x pc lv (.int (zi j) :: .ref (gA g 1) :: st) := by
  intro H locs ls hP hS hv
  obtain ⟨q0, h0, -⟩ := wl_at (g := g) (x := x) (i := 1) (by decide)
  have h0 : (wl g x)[q0]? = some (gA g 1, aq g 3 (fun k => 10 + k) 8) := h0
  refine va_aldq (okx hO) (okb hO) (okk hO) hP q0 3 h0 rfl (zi_in (by omega) (by omega)) d ?_
  rw [zi_clamp (by omega)]
  exact kk H locs ls hP hS hv
theorem z_srows (hO : Ok Γ g cc nL own F Lc kc ns) {j : Nat} (hj : j < 38) (d : decode cc pc = .ok (.aaload, 1)) (kk : Zz Γ g nL k n x (pc + 1) lv (.ref (gA g (100 + j)) :: st)) : Zz Γ g nL k n x pc lv (.int (zi j) :: .ref (gA g 43) :: st) := by
  intro H locs ls hP hS hv
  obtain ⟨q0, h0, -⟩ := wl_at (g := g) (x := x) (i := 43) (by decide)
  have h0 : (wl g x)[q0]? = some (gA g 43, aq g 4 (fun k => 100 + k) 38) := h0
  have hin : vp_in (zi j) 38 := zi_in (by omega) (by omega)
  have hlt : (zi j).toNatClampNeg < 38 := Nat.not_le.mp fun q => hin (Or.inr q)
  have e1 : (zi j).toNatClampNeg = j := by rw [zi_clamp (by omega)]; rfl
  refine W.aald (v := .ref (gA g (100 + j))) (okx hO) (okb hO) (cell := arrV (gC g 4) 38 (fun j => va_rf (some (gA g (100 + j))))) (hP q0 _ h0) (((okk hO).2 4 (gC g 4, .array .int) rfl).1 38 (fun j => va_rf (some (gA g (100 + j))))) rfl (fun q => by cases q) (by show ¬ (zi j < 0 ∨ (arrV _ _ _).slots.size ≤ _); rw [arrV_size]; exact hin) (by show (arrV _ _ _).slots[_]? = _; rw [arrV_read _ _ hlt, e1]; rfl) rfl rfl d (kk H locs ls hP hS hv)
theorem z_alen (hO : Ok Γ g cc nL own F Lc kc ns) {i len t : Nat} {cA : ClassId} {ty : FieldType} {b : (Nat → Int32) ⊕ (Nat → Int64) ⊕ (Nat → UInt32) ⊕ (Nat → UInt64) ⊕ (Nat → Option Nat)} (hi : i ∈ dl) (he : we g i (x i) = .inl (cA, len, b)) (ht : (tys5 g)[t]? = some (cA, ty)) (d : decode cc pc = .ok (.arraylength, 1)) (kk : Zz Γ g nL k n x (pc + 1) lv (.int (zi len) :: st)) : Zz Γ g nL k n x pc lv (.ref (gA g i) :: st) := by
  intro H locs ls hP hS hv
  obtain ⟨q0, h0, -⟩ := wl_at (g := g) (x := x) hi
  rw [he] at h0
  exact va_alen (okx hO) (okb hO) (okk hO) hP q0 t h0 ht (v := zi len) rfl d (kk H locs ls hP hS hv)
theorem z_alenI (hO : Ok Γ g cc nL own F Lc kc ns) {i len : Nat} (hI : isI g i len) (d : decode cc pc = .ok (.arraylength, 1)) (kk : Zz Γ g nL k n x (pc + 1) lv (.int (zi len) :: st)) : Zz Γ g nL k n x pc lv (.ref (gA g i) :: st) := z_alen hO hI.1 (hI.2.1 (x i)) (t := 0) rfl d kk
theorem z_alenL (hO : Ok Γ g cc nL own F Lc kc ns) {i len : Nat} (hI : isL g i len) (d : decode cc pc = .ok (.arraylength, 1)) (kk : Zz Γ g nL k n x (pc + 1) lv (.int (zi len) :: st)) : Zz Γ g nL k n x pc lv (.ref (gA g i) :: st) := z_alen hO hI.1 (hI.2.1 (x i)) (t := 1) rfl d kk
theorem z_alenZ (hO : Ok Γ g cc nL own F Lc kc ns) {i len : Nat} (hI : isZ g i len) (d : decode cc pc = .ok (.arraylength, 1)) (kk : Zz Γ g nL k n x (pc + 1) lv (.int (zi len) :: st)) : Zz Γ g nL k n x pc lv (.ref (gA g i) :: st) := z_alen hO hI.1 (hI.2.1 (x i)) (t := 2) rfl d kk
theorem z_alenF (hO : Ok Γ g cc nL own F Lc kc ns) (d : decode cc pc = .ok (.arraylength, 1)) (kk : Zz Γ g nL k n x (pc + 1) lv (.int (zi 8) :: st)) : Zz Γ g nL k n x pc lv (.ref (gA g 1) :: st) := z_alen hO (by decide) (show we g 1 (x 1) = aq g 3 (fun k => 10 + k) 8 from rfl) (t := 3) rfl d kk
theorem z_alenR (hO : Ok Γ g cc nL own F Lc kc ns) (d : decode cc pc = .ok (.arraylength, 1)) (kk : Zz Γ g nL k n x (pc + 1) lv (.int (zi 38) :: st)) : Zz Γ g nL k n x pc lv (.ref (gA g 43) :: st) := z_alen hO (by decide) (show we g 43 (x 43) = aq g 4 (fun k => 100 + k) 38 from rfl) (t := 4) rfl d kk
end Zheap
/-! the cells by their numbers -/
theorem dl_fig {q : Nat} (h : q < 9) : 10 + q ∈ dl := (by decide : ∀ q, q < 9 → 10 + q ∈ dl) q h
theorem dl_arr {q : Nat} (h : q < 9) : 20 + q ∈ dl := (by decide : ∀ q, q < 9 → 20 + q ∈ dl) q h
theorem dl_row {q : Nat} (h : q < 38) : 100 + q ∈ dl := (by decide +kernel : ∀ q, q < 38 → 100 + q ∈ dl) q h
theorem we_fig {g : Gl} {q : Nat} (h : q < 9) (f : Int → Int) : we g (10 + q) f = .inr (0, [.ref (gA g (20 + q)), .int (zi (f 1))]) := by
  unfold we
  rw [if_neg (by omega), if_pos (by omega), show 10 + q + 10 = 20 + q by omega]
theorem isI_arr {g : Gl} {q : Nat} (h : q < 9) : isI g (20 + q) 81 := ⟨dl_arr h, fun f => by
  unfold we
  rw [if_neg (by omega), if_neg (by omega), if_pos (by omega)], by decide⟩
theorem isI_row {g : Gl} {q : Nat} (h : q < 38) : isI g (100 + q) 38 := ⟨dl_row h, fun f => by
  unfold we
  iterate 30 rw [if_neg (by omega)], by decide⟩
theorem isO_fig {g : Gl} {q : Nat} (h : q < 9) : isO g (10 + q) RX1 := ⟨dl_fig h, 0, 2, TX1, rfl, fun f => ⟨_, we_fig h f⟩⟩
theorem isI_31 {g : Gl} : isI g 31 16 := ⟨by decide, fun f => rfl, by decide⟩
theorem isI_33 {g : Gl} : isI g 33 10 := ⟨by decide, fun f => rfl, by decide⟩
theorem isI_34 {g : Gl} : isI g 34 10 := ⟨by decide, fun f => rfl, by decide⟩
theorem isI_35 {g : Gl} : isI g 35 64 := ⟨by decide, fun f => rfl, by decide⟩
theorem isI_36 {g : Gl} : isI g 36 16 := ⟨by decide, fun f => rfl, by decide⟩
theorem isI_41 {g : Gl} : isI g 41 8 := ⟨by decide, fun f => rfl, by decide⟩
theorem isI_44 {g : Gl} : isI g 44 38 := ⟨by decide, fun f => rfl, by decide⟩
theorem isI_45 {g : Gl} : isI g 45 38 := ⟨by decide, fun f => rfl, by decide⟩
theorem isI_51 {g : Gl} : isI g 51 8 := ⟨by decide, fun f => rfl, by decide⟩
theorem isI_52 {g : Gl} : isI g 52 648 := ⟨by decide, fun f => rfl, by decide⟩
theorem isI_53 {g : Gl} : isI g 53 81 := ⟨by decide, fun f => rfl, by decide⟩
theorem isI_54 {g : Gl} : isI g 54 16 := ⟨by decide, fun f => rfl, by decide⟩
theorem isI_55 {g : Gl} : isI g 55 16 := ⟨by decide, fun f => rfl, by decide⟩
theorem isI_56 {g : Gl} : isI g 56 16 := ⟨by decide, fun f => rfl, by decide⟩
theorem isI_57 {g : Gl} : isI g 57 16 := ⟨by decide, fun f => rfl, by decide⟩
theorem isI_58 {g : Gl} : isI g 58 6 := ⟨by decide, fun f => rfl, by decide⟩
theorem isL_59 {g : Gl} : isL g 59 36 := ⟨by decide, fun f => rfl, by decide⟩
theorem isL_60 {g : Gl} : isL g 60 36 := ⟨by decide, fun f => rfl, by decide⟩
theorem isL_61 {g : Gl} : isL g 61 1296 := ⟨by decide, fun f => rfl, by decide⟩
theorem isL_70 {g : Gl} : isL g 70 1 := ⟨by decide, fun f => rfl, by decide⟩
theorem isZ_32 {g : Gl} : isZ g 32 17 := ⟨by decide, fun f => rfl, by decide⟩
theorem isZ_62 {g : Gl} : isZ g 62 36 := ⟨by decide, fun f => rfl, by decide⟩
theorem isO_0 {g : Gl} : isO g 0 RX11 := ⟨by decide, 4, 6, TX11, rfl, fun f => ⟨_, rfl⟩⟩
theorem isO_30 {g : Gl} : isO g 30 RX8 := ⟨by decide, 2, 14, TX8, rfl, fun f => ⟨_, rfl⟩⟩
theorem isO_40 {g : Gl} : isO g 40 RX3 := ⟨by decide, 1, 1, TX3, rfl, fun f => ⟨_, rfl⟩⟩
theorem isO_42 {g : Gl} : isO g 42 RX10 := ⟨by decide, 3, 5, TX10, rfl, fun f => ⟨_, rfl⟩⟩
theorem isO_50 {g : Gl} : isO g 50 RX12 := ⟨by decide, 5, 16, TX12, rfl, fun f => ⟨_, rfl⟩⟩
end
section
/-! contracts -/
abbrev post_t : Type := Int → Me → Prop
abbrev Qt : Type := Array Value → State → Outcome → State → Prop
def QIu (g : Gl) (post : Int → Me → Prop) : Qt := va_Qi (fun r (x' : Me) => ∃ z : Int, r = zi z ∧ post z x') (fun x' t => pw_P g x' t.heap) (pA g)
def QLu (g : Gl) (post : Int → Me → Prop) : Qt := va_Ql (fun r (x' : Me) => ∃ z : Int, r = zl z ∧ post z x') (fun x' t => pw_P g x' t.heap) (pA g)
def QVu (g : Gl) (post : Me → Prop) : Qt := va_Qv (fun (x' : Me) => post x') (fun x' t => pw_P g x' t.heap) (pA g)
def QRu (g : Gl) (post : Nat → Me → Prop) : Qt := va_Qr (fun (u : Nat × Me) => post u.1 u.2) (fun u a t => a = gA g u.1 ∧ pw_P g u.2 t.heap) (pA g)
def XCu (g : Gl) (pX : String → Prop) (x : Me) : String → State → State → Prop := vx_X (S := Unit) (fun _ => True) (fun E _ t => pX E ∧ pw_P g x t.heap) (pA g)
def ctQ (l : Launch) (g : Gl) (y : MethodName) (cc : ByteArray) (nL : Nat) (rt : Option FieldType) (F Lc : Nat) (av : List Value) (x : Me) (Qc : Qt) : Prop :=
  Met l y (.code y cc nL rt :: wsU) (rmm F Lc 0 0) (va_Pc av (pw_U g x)) Qc 0 0 (pA g)
def cxQ (l : Launch) (g : Gl) (y : MethodName) (cc : ByteArray) (nL : Nat) (rt : Option FieldType) (F Lc mc ms : Nat) (av : List Value) (x : Me) (Qc : Qt) (pX : String → Prop) : Prop :=
  vx_Met l y (.code y cc nL rt :: wsU) (rmm F Lc mc ms) (va_Pc av (pw_U g x)) Qc (XCu g pX x) mc ms (pA g)
theorem pw_U_blind (g : Gl) (x : Me) (av : List Value) : FrameBlind (va_Pc av (pw_U g x)) := by
  intro a U f mk h
  obtain ⟨h0, h1, h2, h3, h4, h5, h6, h7⟩ := h
  exact ⟨h0, h1, va_K.moved (u := U) (U := U.calling f mk a) (Vm.Alike.refl U.vm) h2, vx_Zq.moved (u := U) (U := U.calling f mk a) (Vm.Alike.refl U.vm) h3, vx_Zq.moved (u := U) (U := U.calling f mk a) (Vm.Alike.refl U.vm) h4, h5, h6, h7.same (u := U) rfl⟩
section Ends
variable {Γ : Gam} {g : Gl} {cc : ByteArray} {own : String} {nL k n F Lc kc ns pc : Nat} {x : Me} {lv : List (Nat × Value)} {st : List Value}
theorem pw_at {H : Heap} {t : State} (h : t.heap = H) (hP : pw_P g x H) : pw_P g x t.heap := h ▸ hP
theorem pw_to {H : Heap} {t : State} (h : t.heap = H) (hP : pw_P g x t.heap) : pw_P g x H := h ▸ hP
theorem pw_end {H : Heap} {locs : List Loc} {t : State} (hO : Ok Γ g cc nL own F Lc kc ns) (hP : pw_P g x H) (hS : va_S (pA g) (qS Γ).heap H locs) (ht : t.heap = H) (hW : (qS Γ).WarmedH t.vm) : pw_U g x t := by
  subst ht
  exact ⟨hP, va_K.moved hW.alike (okk hO), vx_Zq.moved hW.alike ((oku hO).kept hS.2.1), vx_Zq.moved hW.alike ((okn hO).kept hS.2.1), Nat.le_trans (oks hO) hS.1, okg hO, (okV hO).warm hW⟩
theorem ok_start {l : Launch} {y : MethodName} {rt : Option FieldType} {mc ms : Nat} {p : Program} {e : Env} {s : State} {m : MethodId} {args : Array Value} {below : List Frame} {meth : Method} {c : Code} {s₁ : State} {Q : State → Prop} (hy : y.cls = own) (B : BodyLoose p l y (headSpec (.code y cc nL rt :: wsU) (rmm F Lc mc ms)) cc nL rt e s m args below meth c s₁) (hml : c.maxLocals = nL) (h : pw_U g x s) : Ok (p, l, e, (headSpec (.code y cc nL rt :: wsU) (rmm F Lc mc ms)).room, s, m, args, below, meth, c, Q) g cc nL own F Lc mc ms := by
  obtain ⟨h1, h2, h3, h4, h5, h6, h7⟩ := h
  have hts := atoms_spec (ws := Cond.code y cc nL rt :: wsU) B.pre
  refine ⟨B.exec, B.bytes, hml, ?_, fun w hw => hts w (List.mem_cons_of_mem _ hw), h2, h3, h4, h5, h6, rfl, B.notSynchronized, h7⟩
  rw [← hy]
  exact findClass_of_methodNamed B.named
/-- a contract, from its body's walk -/
theorem ct_start {l : Launch} {y : MethodName} {rt : Option FieldType} {av : List Value} {Qc : Qt} (hy : plainName y.cls = true) (hown : y.cls = own) (hav : (lg_sl av).length ≤ nL) (hl : lv_args 0 av = lv)
    (body : ∀ Γ : Gam, qL Γ = l → Ok Γ g cc nL own F Lc 0 0 → (qm Γ).sig.returnType = rt → qQ Γ = MQ (qb Γ) Qc (qa Γ) (qS Γ) 0 0 (pA g) → (qS Γ).heap = (qS Γ).heap → Zz Γ g nL 0 0 x 0 lv []) : ctQ l g y cc nL rt F Lc av x Qc := by
  refine Met.ofW (cc := cc) (maxL := nL) (ret := rt) hy rfl ?_
  intro p e s m args below meth c s₁ B hml hv
  obtain ⟨rfl, hU⟩ := hv
  have hO := ok_start (g := g) (x := x) (own := own) (Q := MQ below Qc av.toArray s 0 0 (pA g)) hown B hml hU
  have hb := body _ rfl hO B.returns rfl rfl s.heap [] _ hU.1 va_S.rf (by rw [← hl]; exact lv_entry av (n := nL) hav)
  rw [lg_entry_eq]
  exact hb
theorem cx_start {l : Launch} {y : MethodName} {rt : Option FieldType} {av : List Value} {Qc : Qt} {pX : String → Prop} {mc ms : Nat} (hy : plainName y.cls = true) (hown : y.cls = own) (hav : (lg_sl av).length ≤ nL) (hl : lv_args 0 av = lv)
    (body : ∀ Γ : Gam, qL Γ = l → Ok Γ g cc nL own F Lc mc ms → (qm Γ).sig.returnType = rt → qQ Γ = vx_MQ (qb Γ) Qc (XCu g pX x) (qa Γ) (qS Γ) mc ms (pA g) → (∀ y ∈ (qc Γ).exceptionTable.toList, False) → Zz Γ g nL 0 0 x 0 lv []) : cxQ l g y cc nL rt F Lc mc ms av x Qc pX := by
  refine vx_ofW (cc := cc) (maxL := nL) (ret := rt) hy rfl ?_
  intro p e s m args below meth c s₁ B hml hh hv
  obtain ⟨rfl, hU⟩ := hv
  have hO := ok_start (g := g) (x := x) (own := own) (Q := vx_MQ below Qc (XCu g pX x) av.toArray s mc ms (pA g)) hown B hml hU
  have hb := body _ rfl hO B.returns rfl hh s.heap [] _ hU.1 va_S.rf (by rw [← hl]; exact lv_entry av (n := nL) hav)
  rw [lg_entry_eq]
  exact hb
theorem loc_free {H : Heap} {locs : List Loc} {H0 : Heap} (hS : va_S (pA g) H0 H locs) : ∀ q ∈ locs, pA g q.base := hS.2.2
/-! returns -/
theorem z_iret (hO : Ok Γ g cc nL own F Lc kc ns) {rt : FieldType} {post : Int → Me → Prop} {z : Int} (hr : (qm Γ).sig.returnType = some rt) (hQ : qQ Γ = MQ (qb Γ) (QIu g post) (qa Γ) (qS Γ) k n (pA g)) (hn : narrow rt (.int (zi z)) = .int (zi z)) (d : decode cc pc = .ok (.ireturn, 1)) (h : post z x) : Zz Γ g nL k n x pc lv [.int (zi z)] := by
  intro H locs ls hP hS hv
  rw [hQ]
  exact W.zret (okx hO) (okb hO) hr hn (fun t ht hW => ⟨⟨zi z, x, rfl, ⟨z, rfl, h⟩, (pw_at ht hP)⟩, hS.F ht⟩) (loc_free hS) d (okl hO)
theorem z_lret (hO : Ok Γ g cc nL own F Lc kc ns) {post : Int → Me → Prop} {z : Int} (hr : (qm Γ).sig.returnType = some .long) (hQ : qQ Γ = MQ (qb Γ) (QLu g post) (qa Γ) (qS Γ) k n (pA g)) (d : decode cc pc = .ok (.lreturn, 1)) (h : post z x) : Zz Γ g nL k n x pc lv [.long (zl z)] := by
  intro H locs ls hP hS hv
  rw [hQ]
  exact W.lret (okx hO) (okb hO) hr (fun t ht hW => ⟨⟨zl z, x, rfl, ⟨z, rfl, h⟩, (pw_at ht hP)⟩, hS.F ht⟩) (loc_free hS) d (okl hO)
theorem z_vret (hO : Ok Γ g cc nL own F Lc kc ns) {post : Me → Prop} (hr : (qm Γ).sig.returnType = none) (hQ : qQ Γ = MQ (qb Γ) (QVu g post) (qa Γ) (qS Γ) k n (pA g)) (d : decode cc pc = .ok (.return_, 1)) (h : post x) : Zz Γ g nL k n x pc lv [] := by
  intro H locs ls hP hS hv
  rw [hQ]
  exact W.vret (okx hO) (okb hO) hr (fun t ht hW => ⟨⟨x, rfl, h, (pw_at ht hP)⟩, hS.F ht⟩) (loc_free hS) d (okl hO)
theorem z_iretx (hO : Ok Γ g cc nL own F Lc kc ns) {rt : FieldType} {post : Int → Me → Prop} {XC : String → State → State → Prop} {z : Int} (hr : (qm Γ).sig.returnType = some rt) (hQ : qQ Γ = vx_MQ (qb Γ) (QIu g post) XC (qa Γ) (qS Γ) kc ns (pA g)) (hk : k ≤ kc) (hns : n ≤ ns) (hn : narrow rt (.int (zi z)) = .int (zi z)) (d : decode cc pc = .ok (.ireturn, 1)) (h : post z x) : Zz Γ g nL k n x pc lv [.int (zi z)] := by
  intro H locs ls hP hS hv
  rw [hQ]
  exact W.widen hk hns (vx_ret (W.zret (okx hO) (okb hO) hr hn (fun t ht hW => ⟨⟨zi z, x, rfl, ⟨z, rfl, h⟩, (pw_at ht hP)⟩, hS.F ht⟩) (loc_free hS) d (okl hO)))
theorem z_lretx (hO : Ok Γ g cc nL own F Lc kc ns) {post : Int → Me → Prop} {XC : String → State → State → Prop} {z : Int} (hr : (qm Γ).sig.returnType = some .long) (hQ : qQ Γ = vx_MQ (qb Γ) (QLu g post) XC (qa Γ) (qS Γ) kc ns (pA g)) (hk : k ≤ kc) (hns : n ≤ ns) (d : decode cc pc = .ok (.lreturn, 1)) (h : post z x) : Zz Γ g nL k n x pc lv [.long (zl z)] := by
  intro H locs ls hP hS hv
  rw [hQ]
  exact W.widen hk hns (vx_ret (W.lret (okx hO) (okb hO) hr (fun t ht hW => ⟨⟨zl z, x, rfl, ⟨z, rfl, h⟩, (pw_at ht hP)⟩, hS.F ht⟩) (loc_free hS) d (okl hO)))
theorem z_vretx (hO : Ok Γ g cc nL own F Lc kc ns) {post : Me → Prop} {XC : String → State → State → Prop} (hr : (qm Γ).sig.returnType = none) (hQ : qQ Γ = vx_MQ (qb Γ) (QVu g post) XC (qa Γ) (qS Γ) kc ns (pA g)) (hk : k ≤ kc) (hns : n ≤ ns) (d : decode cc pc = .ok (.return_, 1)) (h : post x) : Zz Γ g nL k n x pc lv [] := by
  intro H locs ls hP hS hv
  rw [hQ]
  exact W.widen hk hns (vx_ret (W.vret (okx hO) (okb hO) hr (fun t ht hW => ⟨⟨x, rfl, h, (pw_at ht hP)⟩, hS.F ht⟩) (loc_free hS) d (okl hO)))
theorem z_aretx (hO : Ok Γ g cc nL own F Lc kc ns) {C : String} {post : Nat → Me → Prop} {XC : String → State → State → Prop} {i : Nat} (hr : (qm Γ).sig.returnType = some (.object C)) (hQ : qQ Γ = vx_MQ (qb Γ) (QRu g post) XC (qa Γ) (qS Γ) kc ns (pA g)) (hk : k ≤ kc) (hns : n ≤ ns) (d : decode cc pc = .ok (.areturn, 1)) (h : post i x) : Zz Γ g nL k n x pc lv [.ref (gA g i)] := by
  intro H locs ls hP hS hv
  rw [hQ]
  exact W.widen hk hns (vx_ret (W.aret (okx hO) (okb hO) hr (Or.inl ⟨C, rfl⟩) (Or.inr ⟨_, rfl⟩) (fun t ht hW => ⟨⟨(i, x), gA g i, rfl, h, rfl, (pw_at ht hP)⟩, hS.F ht⟩) (loc_free hS) d (okl hO)))
/-! calls -/
theorem vy_callr {p : Program} {l : Launch} {e : Env} {R : Room} {s : State} {m : MethodId} {args : Array Value} {below : List Frame} {meth : Method} {c : Code} {H : Heap} {locs : List Loc} {cells slots mc ms pc : Nat} {Q : State → Prop} {ls : Array Slot} {st0 rest : List Value} {A0 A1 : Nat → Prop} {H0 : Heap} {a : Array Value} {free : Addr → Prop} {S SX : Type} {post : S → Prop} {px : SX → Prop} {B : S → Nat → State → Prop} {BX : String → SX → State → Prop} {AX : Nat → Prop} (hr : vx_Run p l e R s m args below meth c H locs cells slots mc ms (F0 m pc ls st0) rest (va_Qr post B A1 a) (vx_X px BX AX) free) (hS : va_S A0 H0 H locs) (hA : ∀ q, q < H.size → A1 q → A0 q) (hf : ∀ q, free q → A0 q) (hAX : ∀ q, q < H.size → AX q → A0 q)
    (kx : ∀ (E : String) (ce : Cell) (q9 : Addr) (u : SX) (t : State) (H1 : Heap) (locs1 : List Loc), t.heap = H1 → s.vm.Alike t.vm → px u → BX E u t → H.size ≤ H1.size → (∀ q : Nat, q < H.size → ¬ AX q → H1[q]? = H[q]?) → va_S A0 H0 H1 locs1 → H1[q9]? = some ce → ce.vm = .none → s.vm.findClass E = some ce.cls → vx_W p l e R s m args below meth c H1 locs1 (cells + mc) (slots + ms) Q (F0 m pc ls rest) q9)
    (kk : ∀ (u : S) (ra : Nat) (t : State) (H1 : Heap) (locs1 : List Loc), t.heap = H1 → s.vm.Alike t.vm → post u → B u ra t → H.size ≤ H1.size → (∀ q : Nat, q < H.size → ¬ A1 q → H1[q]? = H[q]?) → va_S A0 H0 H1 locs1 → W p l e R s m args below meth c H1 locs1 (cells + mc) (slots + ms) Q (F0 m (pc + 3) ls (.ref ra :: rest))) : W p l e R s m args below meth c H locs cells slots Q (F0 m pc ls st0) := by
  intro T hT X
  rcases hr T hT X with ⟨v, st₀, t, T', L, h0, X', hL, e1, e2, ⟨⟨u, ra, hv, hp, hb⟩, hF⟩, st⟩ | ⟨q, st₀, t, T', L, E, ce, h0, X', hL, e1, e2, ⟨u, hp, hb, hF⟩, hce, hcv, hcl, st⟩
  · cases hv
    obtain ⟨k1, k2, k3⟩ := vx_keep h0 e1 hS hA hf hL hF
    obtain ⟨t2, a1, b1⟩ := kk u ra t T'.heap (locs ++ L) e1.symm (by rw [← e2]; exact X'.warmed.alike) hp hb k1 k2 k3 T' rfl X'
    exact ⟨t2, st t2 a1, b1⟩
  · obtain ⟨k1, k2, k3⟩ := vx_keep h0 e1 hS hAX hf hL hF
    obtain ⟨t2, a1, b1⟩ := kx E ce q u t T'.heap (locs ++ L) e1.symm (by rw [← e2]; exact X'.warmed.alike) hp hb k1 k2 k3 (by rw [e1]; exact hce) hcv hcl T' rfl X'
    exact ⟨t2, st.trans a1, b1⟩
def lkV (own C : String) (index : Nat) (y : MethodName) (cc : ByteArray) (nL : Nat) (rt : Option FieldType) (n : Nat) : Prop := GoodIn wsU (wsV own index C y (Cond.code y cc nL rt :: wsU)) ∧ (y.cls = C ∧ y.cls ≠ "java/lang/invoke/MethodHandle" ∧ y.cls ≠ "java/lang/invoke/VarHandle" ∧ (parseMethodDescriptor y.desc).map (fun d => d.parameters.length) = some n)
def lkS (own : String) (index : Nat) (y : MethodName) (cc : ByteArray) (nL : Nat) (rt : Option FieldType) (n : Nat) : Prop := GoodIn wsU (va_wsS own index y (Cond.code y cc nL rt :: wsU)) ∧ (y.cls ≠ "java/lang/invoke/MethodHandle" ∧ y.cls ≠ "java/lang/invoke/VarHandle" ∧ (parseMethodDescriptor y.desc).map (fun d => d.parameters.length) = some n)
theorem pre_V {H : Heap} {locs : List Loc} {C : String} {As : List Value} (hO : Ok Γ g cc nL own F Lc kc ns) {i : Nat} (hi : isO g i C) (hP : pw_P g x H) (hS : va_S (pA g) (qS Γ).heap H locs) : PreV (qS Γ) H C (gA g i) (va_Pc (.ref (gA g i) :: As) (pw_U g x)) As := by
  obtain ⟨hd, ci, N, T, hc, hf⟩ := hi
  obtain ⟨fs, hfs⟩ := hf (x i)
  obtain ⟨q0, h0, -⟩ := wl_at (g := g) (x := x) hd
  rw [hfs] at h0
  exact ⟨pw_U_blind _ _ _, va_recv (okk hO) hP hc h0, fun U hU hW => ⟨rfl, pw_end hO hP hS hU hW⟩⟩
theorem pre_S {H : Heap} {locs : List Loc} {As : List Value} (hO : Ok Γ g cc nL own F Lc kc ns) (hP : pw_P g x H) (hS : va_S (pA g) (qS Γ).heap H locs) : PreS (qS Γ) H (va_Pc As (pw_U g x)) As := ⟨pw_U_blind _ _ _, fun U hU hW => ⟨rfl, pw_end hO hP hS hU hW⟩⟩
theorem pAf {H : Heap} {g : Gl} : ∀ q, q < H.size → pA g q → pA g q := fun _ _ h => h
theorem z_callVI (hO : Ok Γ g cc nL own F Lc kc ns) {index nY na F' Lc' : Nat} {y : MethodName} {cy : ByteArray} {rt : FieldType} {C : String} {i : Nat} {post : Int → Me → Prop} {As : List Value} (hM : ctQ (qL Γ) g y cy nY (some rt) F' Lc' (.ref (gA g i) :: As) x (QIu g post)) (hk : lkV own C index y cy nY (some rt) na) (hi : isO g i C) (hn : As.length = na) (hcat : (st.map fun v => v.category).sum ≤ 8) (hF : F' + 1 ≤ F) (hLl : 8 + (nY + 11) + Lc' ≤ Lc) (hc : k ≤ kc ∧ n ≤ ns) (d : decode cc pc = .ok (.invokevirtual index, 3))
    (kk : ∀ (z : Int) (x' : Me), post z x' → Zz Γ g nL k n x' (pc + 3) lv (.int (zi z) :: st)) : Zz Γ g nL k n x pc lv (As.reverse ++ .ref (gA g i) :: st) := by
  intro H locs ls hP hS hv
  have hr := va_runV (p := qP Γ) (l := qL Γ) (e := qE Γ) (R := qR Γ) (below := qb Γ) (meth := qm Γ) (locs := locs) (cells := k) (slots := n) (As := As) (rest := st) (g := F0 (qM Γ) pc ls (As.reverse ++ .ref (gA g i) :: st)) ⟨okx hO, okb hO, okm hO, oko hO, okw hO⟩ hM (cwV na (okw hO) hk.1 rfl rfl rfl hk.2 ⟨by rw [okr hO]; exact hF, by rw [okr hO]; exact hLl⟩) (pre_V hO hi hP hS) rfl hn hv.1 rfl (lv_room hcat) d (by rw [okr hO]; exact hc)
  refine va_calli hr hS pAf (fun _ h => h) (fun r u t H1 locs1 ht hvm hw hB hz1 hk1 hS1 => by obtain ⟨z, rfl, hz⟩ := hw; exact kk z u hz H1 locs1 ls (pw_to ht hB) hS1 hv)
theorem z_callVL (hO : Ok Γ g cc nL own F Lc kc ns) {index nY na F' Lc' : Nat} {y : MethodName} {cy : ByteArray} {C : String} {i : Nat} {post : Int → Me → Prop} {As : List Value} (hM : ctQ (qL Γ) g y cy nY (some .long) F' Lc' (.ref (gA g i) :: As) x (QLu g post)) (hk : lkV own C index y cy nY (some .long) na) (hi : isO g i C) (hn : As.length = na) (hcat : (st.map fun v => v.category).sum ≤ 8) (hF : F' + 1 ≤ F) (hLl : 8 + (nY + 11) + Lc' ≤ Lc) (hc : k ≤ kc ∧ n ≤ ns) (d : decode cc pc = .ok (.invokevirtual index, 3))
    (kk : ∀ (z : Int) (x' : Me), post z x' → Zz Γ g nL k n x' (pc + 3) lv (.long (zl z) :: st)) : Zz Γ g nL k n x pc lv (As.reverse ++ .ref (gA g i) :: st) := by
  intro H locs ls hP hS hv
  have hr := va_runV (p := qP Γ) (l := qL Γ) (e := qE Γ) (R := qR Γ) (below := qb Γ) (meth := qm Γ) (locs := locs) (cells := k) (slots := n) (As := As) (rest := st) (g := F0 (qM Γ) pc ls (As.reverse ++ .ref (gA g i) :: st)) ⟨okx hO, okb hO, okm hO, oko hO, okw hO⟩ hM (cwV na (okw hO) hk.1 rfl rfl rfl hk.2 ⟨by rw [okr hO]; exact hF, by rw [okr hO]; exact hLl⟩) (pre_V hO hi hP hS) rfl hn hv.1 rfl (lv_room hcat) d (by rw [okr hO]; exact hc)
  refine va_calll hr hS pAf (fun _ h => h) (fun r u t H1 locs1 ht hvm hw hB hz1 hk1 hS1 => by obtain ⟨z, rfl, hz⟩ := hw; exact kk z u hz H1 locs1 ls (pw_to ht hB) hS1 hv)
theorem z_callVV (hO : Ok Γ g cc nL own F Lc kc ns) {index nY na F' Lc' : Nat} {y : MethodName} {cy : ByteArray} {C : String} {i : Nat} {post : Me → Prop} {As : List Value} (hM : ctQ (qL Γ) g y cy nY none F' Lc' (.ref (gA g i) :: As) x (QVu g post)) (hk : lkV own C index y cy nY none na) (hi : isO g i C) (hn : As.length = na) (hcat : (st.map fun v => v.category).sum ≤ 8) (hF : F' + 1 ≤ F) (hLl : 8 + (nY + 11) + Lc' ≤ Lc) (hc : k ≤ kc ∧ n ≤ ns) (d : decode cc pc = .ok (.invokevirtual index, 3))
    (kk : ∀ (x' : Me), post x' → Zz Γ g nL k n x' (pc + 3) lv st) : Zz Γ g nL k n x pc lv (As.reverse ++ .ref (gA g i) :: st) := by
  intro H locs ls hP hS hv
  have hr := va_runV (p := qP Γ) (l := qL Γ) (e := qE Γ) (R := qR Γ) (below := qb Γ) (meth := qm Γ) (locs := locs) (cells := k) (slots := n) (As := As) (rest := st) (g := F0 (qM Γ) pc ls (As.reverse ++ .ref (gA g i) :: st)) ⟨okx hO, okb hO, okm hO, oko hO, okw hO⟩ hM (cwV na (okw hO) hk.1 rfl rfl rfl hk.2 ⟨by rw [okr hO]; exact hF, by rw [okr hO]; exact hLl⟩) (pre_V hO hi hP hS) rfl hn hv.1 rfl (lv_room hcat) d (by rw [okr hO]; exact hc)
  refine va_callv hr hS pAf (fun _ h => h) (fun u t H1 locs1 ht hvm hw hB hz1 hk1 hS1 => kk u hw H1 locs1 ls (pw_to ht hB) hS1 hv)
theorem z_callSI (hO : Ok Γ g cc nL own F Lc kc ns) {index nY na F' Lc' : Nat} {y : MethodName} {cy : ByteArray} {rt : FieldType} {post : Int → Me → Prop} {As : List Value} (hM : ctQ (qL Γ) g y cy nY (some rt) F' Lc' As x (QIu g post)) (hk : lkS own index y cy nY (some rt) na) (hn : As.length = na) (hcat : (st.map fun v => v.category).sum ≤ 8) (hF : F' + 1 ≤ F) (hLl : 8 + (nY + 11) + Lc' ≤ Lc) (hc : k ≤ kc ∧ n ≤ ns) (d : decode cc pc = .ok (.invokestatic index, 3))
    (kk : ∀ (z : Int) (x' : Me), post z x' → Zz Γ g nL k n x' (pc + 3) lv (.int (zi z) :: st)) : Zz Γ g nL k n x pc lv (As.reverse ++ st) := by
  intro H locs ls hP hS hv
  have hr := va_runS (p := qP Γ) (l := qL Γ) (e := qE Γ) (R := qR Γ) (below := qb Γ) (meth := qm Γ) (locs := locs) (cells := k) (slots := n) (As := As) (rest := st) (g := F0 (qM Γ) pc ls (As.reverse ++ st)) ⟨okx hO, okb hO, okm hO, oko hO, okw hO⟩ hM (va_cwS na (okw hO) hk.1 rfl rfl rfl hk.2 ⟨by rw [okr hO]; exact hF, by rw [okr hO]; exact hLl⟩) (pre_S hO hP hS) rfl hn hv.1 rfl (lv_room hcat) d (by rw [okr hO]; exact hc)
  refine va_calli hr hS pAf (fun _ h => h) (fun r u t H1 locs1 ht hvm hw hB hz1 hk1 hS1 => by obtain ⟨z, rfl, hz⟩ := hw; exact kk z u hz H1 locs1 ls (pw_to ht hB) hS1 hv)
theorem z_callSL (hO : Ok Γ g cc nL own F Lc kc ns) {index nY na F' Lc' : Nat} {y : MethodName} {cy : ByteArray} {post : Int → Me → Prop} {As : List Value} (hM : ctQ (qL Γ) g y cy nY (some .long) F' Lc' As x (QLu g post)) (hk : lkS own index y cy nY (some .long) na) (hn : As.length = na) (hcat : (st.map fun v => v.category).sum ≤ 8) (hF : F' + 1 ≤ F) (hLl : 8 + (nY + 11) + Lc' ≤ Lc) (hc : k ≤ kc ∧ n ≤ ns) (d : decode cc pc = .ok (.invokestatic index, 3))
    (kk : ∀ (z : Int) (x' : Me), post z x' → Zz Γ g nL k n x' (pc + 3) lv (.long (zl z) :: st)) : Zz Γ g nL k n x pc lv (As.reverse ++ st) := by
  intro H locs ls hP hS hv
  have hr := va_runS (p := qP Γ) (l := qL Γ) (e := qE Γ) (R := qR Γ) (below := qb Γ) (meth := qm Γ) (locs := locs) (cells := k) (slots := n) (As := As) (rest := st) (g := F0 (qM Γ) pc ls (As.reverse ++ st)) ⟨okx hO, okb hO, okm hO, oko hO, okw hO⟩ hM (va_cwS na (okw hO) hk.1 rfl rfl rfl hk.2 ⟨by rw [okr hO]; exact hF, by rw [okr hO]; exact hLl⟩) (pre_S hO hP hS) rfl hn hv.1 rfl (lv_room hcat) d (by rw [okr hO]; exact hc)
  refine va_calll hr hS pAf (fun _ h => h) (fun r u t H1 locs1 ht hvm hw hB hz1 hk1 hS1 => by obtain ⟨z, rfl, hz⟩ := hw; exact kk z u hz H1 locs1 ls (pw_to ht hB) hS1 hv)
theorem z_callSV (hO : Ok Γ g cc nL own F Lc kc ns) {index nY na F' Lc' : Nat} {y : MethodName} {cy : ByteArray} {post : Me → Prop} {As : List Value} (hM : ctQ (qL Γ) g y cy nY none F' Lc' As x (QVu g post)) (hk : lkS own index y cy nY none na) (hn : As.length = na) (hcat : (st.map fun v => v.category).sum ≤ 8) (hF : F' + 1 ≤ F) (hLl : 8 + (nY + 11) + Lc' ≤ Lc) (hc : k ≤ kc ∧ n ≤ ns) (d : decode cc pc = .ok (.invokestatic index, 3))
    (kk : ∀ (x' : Me), post x' → Zz Γ g nL k n x' (pc + 3) lv st) : Zz Γ g nL k n x pc lv (As.reverse ++ st) := by
  intro H locs ls hP hS hv
  have hr := va_runS (p := qP Γ) (l := qL Γ) (e := qE Γ) (R := qR Γ) (below := qb Γ) (meth := qm Γ) (locs := locs) (cells := k) (slots := n) (As := As) (rest := st) (g := F0 (qM Γ) pc ls (As.reverse ++ st)) ⟨okx hO, okb hO, okm hO, oko hO, okw hO⟩ hM (va_cwS na (okw hO) hk.1 rfl rfl rfl hk.2 ⟨by rw [okr hO]; exact hF, by rw [okr hO]; exact hLl⟩) (pre_S hO hP hS) rfl hn hv.1 rfl (lv_room hcat) d (by rw [okr hO]; exact hc)
  refine va_callv hr hS pAf (fun _ h => h) (fun u t H1 locs1 ht hvm hw hB hz1 hk1 hS1 => kk u hw H1 locs1 ls (pw_to ht hB) hS1 hv)
theorem z_xcallVI (hO : Ok Γ g cc nL own F Lc kc ns) {index nY na F' Lc' : Nat} {y : MethodName} {cy : ByteArray} {rt : FieldType} {C : String} {i : Nat} {post : Int → Me → Prop} {As : List Value} {mc ms : Nat} {pY pX : String → Prop} {Qc : Qt} (hQ : qQ Γ = vx_MQ (qb Γ) Qc (XCu g pX x) (qa Γ) (qS Γ) kc ns (pA g)) (hh : ∀ y ∈ (qc Γ).exceptionTable.toList, False) (hpx : ∀ E, pY E → pX E) (hM : cxQ (qL Γ) g y cy nY (some rt) F' Lc' mc ms (.ref (gA g i) :: As) x (QIu g post) pY) (hk : lkV own C index y cy nY (some rt) na) (hi : isO g i C) (hn : As.length = na) (hcat : (st.map fun v => v.category).sum ≤ 8) (hF : F' + 1 ≤ F) (hLl : 8 + (nY + 11) + Lc' ≤ Lc) (hc : k + mc ≤ kc ∧ n + ms ≤ ns) (d : decode cc pc = .ok (.invokevirtual index, 3))
    (kk : ∀ (z : Int) (x' : Me), post z x' → Zz Γ g nL (k + mc) (n + ms) x' (pc + 3) lv (.int (zi z) :: st)) : Zz Γ g nL k n x pc lv (As.reverse ++ .ref (gA g i) :: st) := by
  intro H locs ls hP hS hv
  have hr := vx_runV (p := qP Γ) (l := qL Γ) (e := qE Γ) (R := qR Γ) (below := qb Γ) (meth := qm Γ) (locs := locs) (cells := k) (slots := n) (As := As) (rest := st) (g := F0 (qM Γ) pc ls (As.reverse ++ .ref (gA g i) :: st)) ⟨okx hO, okb hO, okm hO, oko hO, okw hO⟩ hM (cwV na (okw hO) hk.1 rfl rfl rfl hk.2 ⟨by rw [okr hO]; exact hF, by rw [okr hO]; exact hLl⟩) (pre_V hO hi hP hS) rfl hn hv.1 rfl (lv_room hcat) d (by rw [okr hO]; exact hc)
  refine vx_calli hr hS pAf (fun _ h => h) pAf (fun E ce q9 u t H1 locs1 ht hvm hp hB hz1 hk1 hS1 hce hcv hcl => ?_) (fun r u t H1 locs1 ht hvm hw hB hz1 hk1 hS1 => by obtain ⟨z, rfl, hz⟩ := hw; exact kk z u hz H1 locs1 ls (pw_to ht hB) hS1 hv)
  rw [hQ]
  exact vx_out (fun y hy => absurd hy (fun h => hh y h)) (okl hO) hce hcv hcl (fun t' ht' hvm' => ⟨(), trivial, ⟨hpx E hB.1, (pw_at ht' (pw_to ht hB.2))⟩, hS1.F ht'⟩) (loc_free hS1) hc.1 hc.2
theorem z_xcallVL (hO : Ok Γ g cc nL own F Lc kc ns) {index nY na F' Lc' : Nat} {y : MethodName} {cy : ByteArray} {C : String} {i : Nat} {post : Int → Me → Prop} {As : List Value} {mc ms : Nat} {pY pX : String → Prop} {Qc : Qt} (hQ : qQ Γ = vx_MQ (qb Γ) Qc (XCu g pX x) (qa Γ) (qS Γ) kc ns (pA g)) (hh : ∀ y ∈ (qc Γ).exceptionTable.toList, False) (hpx : ∀ E, pY E → pX E) (hM : cxQ (qL Γ) g y cy nY (some .long) F' Lc' mc ms (.ref (gA g i) :: As) x (QLu g post) pY) (hk : lkV own C index y cy nY (some .long) na) (hi : isO g i C) (hn : As.length = na) (hcat : (st.map fun v => v.category).sum ≤ 8) (hF : F' + 1 ≤ F) (hLl : 8 + (nY + 11) + Lc' ≤ Lc) (hc : k + mc ≤ kc ∧ n + ms ≤ ns) (d : decode cc pc = .ok (.invokevirtual index, 3))
    (kk : ∀ (z : Int) (x' : Me), post z x' → Zz Γ g nL (k + mc) (n + ms) x' (pc + 3) lv (.long (zl z) :: st)) : Zz Γ g nL k n x pc lv (As.reverse ++ .ref (gA g i) :: st) := by
  intro H locs ls hP hS hv
  have hr := vx_runV (p := qP Γ) (l := qL Γ) (e := qE Γ) (R := qR Γ) (below := qb Γ) (meth := qm Γ) (locs := locs) (cells := k) (slots := n) (As := As) (rest := st) (g := F0 (qM Γ) pc ls (As.reverse ++ .ref (gA g i) :: st)) ⟨okx hO, okb hO, okm hO, oko hO, okw hO⟩ hM (cwV na (okw hO) hk.1 rfl rfl rfl hk.2 ⟨by rw [okr hO]; exact hF, by rw [okr hO]; exact hLl⟩) (pre_V hO hi hP hS) rfl hn hv.1 rfl (lv_room hcat) d (by rw [okr hO]; exact hc)
  refine vx_calll hr hS pAf (fun _ h => h) pAf (fun E ce q9 u t H1 locs1 ht hvm hp hB hz1 hk1 hS1 hce hcv hcl => ?_) (fun r u t H1 locs1 ht hvm hw hB hz1 hk1 hS1 => by obtain ⟨z, rfl, hz⟩ := hw; exact kk z u hz H1 locs1 ls (pw_to ht hB) hS1 hv)
  rw [hQ]
  exact vx_out (fun y hy => absurd hy (fun h => hh y h)) (okl hO) hce hcv hcl (fun t' ht' hvm' => ⟨(), trivial, ⟨hpx E hB.1, (pw_at ht' (pw_to ht hB.2))⟩, hS1.F ht'⟩) (loc_free hS1) hc.1 hc.2
theorem z_xcallVV (hO : Ok Γ g cc nL own F Lc kc ns) {index nY na F' Lc' : Nat} {y : MethodName} {cy : ByteArray} {C : String} {i : Nat} {post : Me → Prop} {As : List Value} {mc ms : Nat} {pY pX : String → Prop} {Qc : Qt} (hQ : qQ Γ = vx_MQ (qb Γ) Qc (XCu g pX x) (qa Γ) (qS Γ) kc ns (pA g)) (hh : ∀ y ∈ (qc Γ).exceptionTable.toList, False) (hpx : ∀ E, pY E → pX E) (hM : cxQ (qL Γ) g y cy nY none F' Lc' mc ms (.ref (gA g i) :: As) x (QVu g post) pY) (hk : lkV own C index y cy nY none na) (hi : isO g i C) (hn : As.length = na) (hcat : (st.map fun v => v.category).sum ≤ 8) (hF : F' + 1 ≤ F) (hLl : 8 + (nY + 11) + Lc' ≤ Lc) (hc : k + mc ≤ kc ∧ n + ms ≤ ns) (d : decode cc pc = .ok (.invokevirtual index, 3))
    (kk : ∀ (x' : Me), post x' → Zz Γ g nL (k + mc) (n + ms) x' (pc + 3) lv st) : Zz Γ g nL k n x pc lv (As.reverse ++ .ref (gA g i) :: st) := by
  intro H locs ls hP hS hv
  have hr := vx_runV (p := qP Γ) (l := qL Γ) (e := qE Γ) (R := qR Γ) (below := qb Γ) (meth := qm Γ) (locs := locs) (cells := k) (slots := n) (As := As) (rest := st) (g := F0 (qM Γ) pc ls (As.reverse ++ .ref (gA g i) :: st)) ⟨okx hO, okb hO, okm hO, oko hO, okw hO⟩ hM (cwV na (okw hO) hk.1 rfl rfl rfl hk.2 ⟨by rw [okr hO]; exact hF, by rw [okr hO]; exact hLl⟩) (pre_V hO hi hP hS) rfl hn hv.1 rfl (lv_room hcat) d (by rw [okr hO]; exact hc)
  refine vx_callv hr hS pAf (fun _ h => h) pAf (fun E ce q9 u t H1 locs1 ht hvm hp hB hz1 hk1 hS1 hce hcv hcl => ?_) (fun u t H1 locs1 ht hvm hw hB hz1 hk1 hS1 => kk u hw H1 locs1 ls (pw_to ht hB) hS1 hv)
  rw [hQ]
  exact vx_out (fun y hy => absurd hy (fun h => hh y h)) (okl hO) hce hcv hcl (fun t' ht' hvm' => ⟨(), trivial, ⟨hpx E hB.1, (pw_at ht' (pw_to ht hB.2))⟩, hS1.F ht'⟩) (loc_free hS1) hc.1 hc.2
theorem z_xcallVR (hO : Ok Γ g cc nL own F Lc kc ns) {index nY na F' Lc' : Nat} {y : MethodName} {cy : ByteArray} {rt : FieldType} {C : String} {i : Nat} {post : Nat → Me → Prop} {As : List Value} {mc ms : Nat} {pY pX : String → Prop} {Qc : Qt} (hQ : qQ Γ = vx_MQ (qb Γ) Qc (XCu g pX x) (qa Γ) (qS Γ) kc ns (pA g)) (hh : ∀ y ∈ (qc Γ).exceptionTable.toList, False) (hpx : ∀ E, pY E → pX E) (hM : cxQ (qL Γ) g y cy nY (some rt) F' Lc' mc ms (.ref (gA g i) :: As) x (QRu g post) pY) (hk : lkV own C index y cy nY (some rt) na) (hi : isO g i C) (hn : As.length = na) (hcat : (st.map fun v => v.category).sum ≤ 8) (hF : F' + 1 ≤ F) (hLl : 8 + (nY + 11) + Lc' ≤ Lc) (hc : k + mc ≤ kc ∧ n + ms ≤ ns) (d : decode cc pc = .ok (.invokevirtual index, 3))
    (kk : ∀ (j : Nat) (x' : Me), post j x' → Zz Γ g nL (k + mc) (n + ms) x' (pc + 3) lv (.ref (gA g j) :: st)) : Zz Γ g nL k n x pc lv (As.reverse ++ .ref (gA g i) :: st) := by
  intro H locs ls hP hS hv
  have hr := vx_runV (p := qP Γ) (l := qL Γ) (e := qE Γ) (R := qR Γ) (below := qb Γ) (meth := qm Γ) (locs := locs) (cells := k) (slots := n) (As := As) (rest := st) (g := F0 (qM Γ) pc ls (As.reverse ++ .ref (gA g i) :: st)) ⟨okx hO, okb hO, okm hO, oko hO, okw hO⟩ hM (cwV na (okw hO) hk.1 rfl rfl rfl hk.2 ⟨by rw [okr hO]; exact hF, by rw [okr hO]; exact hLl⟩) (pre_V hO hi hP hS) rfl hn hv.1 rfl (lv_room hcat) d (by rw [okr hO]; exact hc)
  refine vy_callr hr hS pAf (fun _ h => h) pAf (fun E ce q9 u t H1 locs1 ht hvm hp hB hz1 hk1 hS1 hce hcv hcl => ?_) (fun u a t H1 locs1 ht hvm hw hB hz1 hk1 hS1 => by obtain ⟨rfl, hB⟩ := hB; exact kk u.1 u.2 hw H1 locs1 ls (pw_to ht hB) hS1 hv)
  rw [hQ]
  exact vx_out (fun y hy => absurd hy (fun h => hh y h)) (okl hO) hce hcv hcl (fun t' ht' hvm' => ⟨(), trivial, ⟨hpx E hB.1, (pw_at ht' (pw_to ht hB.2))⟩, hS1.F ht'⟩) (loc_free hS1) hc.1 hc.2
theorem z_xcallSV (hO : Ok Γ g cc nL own F Lc kc ns) {index nY na F' Lc' : Nat} {y : MethodName} {cy : ByteArray} {post : Me → Prop} {As : List Value} {mc ms : Nat} {pY pX : String → Prop} {Qc : Qt} (hQ : qQ Γ = vx_MQ (qb Γ) Qc (XCu g pX x) (qa Γ) (qS Γ) kc ns (pA g)) (hh : ∀ y ∈ (qc Γ).exceptionTable.toList, False) (hpx : ∀ E, pY E → pX E) (hM : cxQ (qL Γ) g y cy nY none F' Lc' mc ms As x (QVu g post) pY) (hk : lkS own index y cy nY none na) (hn : As.length = na) (hcat : (st.map fun v => v.category).sum ≤ 8) (hF : F' + 1 ≤ F) (hLl : 8 + (nY + 11) + Lc' ≤ Lc) (hc : k + mc ≤ kc ∧ n + ms ≤ ns) (d : decode cc pc = .ok (.invokestatic index, 3))
    (kk : ∀ (x' : Me), post x' → Zz Γ g nL (k + mc) (n + ms) x' (pc + 3) lv st) : Zz Γ g nL k n x pc lv (As.reverse ++ st) := by
  intro H locs ls hP hS hv
  have hr := vx_runS (p := qP Γ) (l := qL Γ) (e := qE Γ) (R := qR Γ) (below := qb Γ) (meth := qm Γ) (locs := locs) (cells := k) (slots := n) (As := As) (rest := st) (g := F0 (qM Γ) pc ls (As.reverse ++ st)) ⟨okx hO, okb hO, okm hO, oko hO, okw hO⟩ hM (va_cwS na (okw hO) hk.1 rfl rfl rfl hk.2 ⟨by rw [okr hO]; exact hF, by rw [okr hO]; exact hLl⟩) (pre_S hO hP hS) rfl hn hv.1 rfl (lv_room hcat) d (by rw [okr hO]; exact hc)
  refine vx_callv hr hS pAf (fun _ h => h) pAf (fun E ce q9 u t H1 locs1 ht hvm hp hB hz1 hk1 hS1 hce hcv hcl => ?_) (fun u t H1 locs1 ht hvm hw hB hz1 hk1 hS1 => kk u hw H1 locs1 ls (pw_to ht hB) hS1 hv)
  rw [hQ]
  exact vx_out (fun y hy => absurd hy (fun h => hh y h)) (okl hO) hce hcv hcl (fun t' ht' hvm' => ⟨(), trivial, ⟨hpx E hB.1, (pw_at ht' (pw_to ht hB.2))⟩, hS1.F ht'⟩) (loc_free hS1) hc.1 hc.2
end Ends
end
section
theorem wsX_at {args : Array Value} {s : State} (h1 : ∀ w ∈ wsU, w.before args s = true) (h2 : pw_V s) : ∀ w ∈ wsX, w.before args s = true := by
  intro w hw
  by_cases hg : goodWord w = true
  · have h := List.all_eq_true.mp wsX_g w (List.mem_filter.mpr ⟨hw, hg⟩)
    exact h1 w (wsU_in (of_decide_eq_true h) hg)
  · have hf : w ∈ wsF := List.mem_filter.mpr ⟨hw, by simpa using hg⟩
    have ho := List.all_eq_true.mp wsF_ok w hf
    simp only [Bool.and_eq_true] at ho
    exact va_tabs ho.1 rfl (h2.1 w hf)
theorem z_throw {Γ : Gam} {g : Gl} {cc : ByteArray} {nL k n F Lc kc ns pc : Nat} {x : Me} {lv : List (Nat × Value)} {st : List Value} (hO : Ok Γ g cc nL RX11 F Lc kc ns) (hl : (qL Γ).stackTraces = false) {Qc : Qt} {pX : String → Prop} (hQ : qQ Γ = vx_MQ (qb Γ) Qc (XCu g pX x) (qa Γ) (qS Γ) kc ns (pA g)) (hh : ∀ y ∈ (qc Γ).exceptionTable.toList, False) {ik is ic : Nat} {cls text : String} (hcls : Bundle.fit cls = true) (hk : Cond.classLink RX11 ik cls ∈ wsU) (hini : Cond.initialized cls ∈ wsU) (hs : (is, text) ∈ sts7) (hat : ∀ w ∈ vx_atS RX11 ic cls nmR, w ∈ wsX) (d0 : decode cc pc = .ok (.new ik, 3)) (d3 : decode cc (pc + 3) = .ok (.dup, 1)) (d4 : decode cc (pc + 4) = .ok (.ldc is, 2)) (d6 : decode cc (pc + 6) = .ok (.invokespecial ic, 3)) (d9 : decode cc (pc + 9) = .ok (.athrow, 1)) (hF : 5 < F) (hL : (st.map fun v => v.category).sum + 82 ≤ Lc) (hc : k + 1 ≤ kc ∧ n + 6 ≤ ns) (hx : pX cls) : Zz Γ g nL k n x pc lv st := by
  intro H locs ls hP hS hv
  obtain ⟨sa, hsa⟩ := (okV hO).2 _ hs
  rw [hQ]
  refine vx_throwS (okx hO) (okb hO) hl (names := nmR) (oko hO) hcls (by decide +kernel) (okw hO _ hk) (okw hO _ hini) hsa (fun w hw => wsX_at (okw hO) (okV hO) w (hat w hw)) ?_ (oku hO) (okn hO) hS (hv.1.trans (okm hO).symm) d0 d3 d4 d6 d9 (fun y hy => absurd hy (fun h => hh y h)) (by rw [okr hO]; exact hF) (by rw [okr hO]; exact hL) (by rw [okr hO]; exact hc.1) (by rw [okr hO]; exact hc.2) (okl hO) (fun t hvm hz hq => ⟨(), trivial, ⟨hx, hP.kept (fun i q hi => hq q.1 (hP i q hi).lt)⟩, ⟨Nat.le_trans hS.1 hz, fun q h1 h2 => (hq q (Nat.lt_of_lt_of_le h1 hS.1)).trans (hS.2.1 q h1 h2)⟩⟩) (loc_free hS) hc.1 hc.2
  · intro w hw
    rcases List.mem_cons.mp hw with rfl | hw
    · simp only [vx_ot, Bool.or_eq_true]; exact Or.inr (List.mem_filter.mp hk).2
    · rcases List.mem_cons.mp hw with rfl | hw
      · simp only [vx_ot, Bool.or_eq_true]; exact Or.inr (List.mem_filter.mp hini).2
      · exact List.all_eq_true.mp wsX_ot w (hat w hw)
end
