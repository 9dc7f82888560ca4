section
-- ===== PART A: goes FIRST, ahead of the names: the tables' words, and 'selects' of the private methods out of them =====
/-- a private method of a class that the tables say can be made, by its rows of tables_1 -/
def lw_okq (q : MethodName × Nat) : Prop := (q.1.cls ≠ "java/lang/invoke/MethodHandle" ∧ q.1.cls ≠ "java/lang/invoke/VarHandle") ∧ Cond.instantiable q.1.cls q.2 ∈ tables_1 ∧ Cond.privateMethod q.1 ∈ tables_1 ∧ Cond.instanceMethod q.1 ∈ tables_1
theorem lw_p0 : lw_okq (⟨"CamMaker", "outdate", "()V"⟩, 4) := ⟨⟨by decide +kernel, by decide +kernel⟩, List.mem_of_getElem? (i := 14) (by decide +kernel), List.mem_of_getElem? (i := 158) (by decide +kernel), List.mem_of_getElem? (i := 159) (by decide +kernel)⟩
theorem lw_p1 : lw_okq (⟨"CamMaker", "remember", "()V"⟩, 4) := ⟨⟨by decide +kernel, by decide +kernel⟩, List.mem_of_getElem? (i := 14) (by decide +kernel), List.mem_of_getElem? (i := 185) (by decide +kernel), List.mem_of_getElem? (i := 186) (by decide +kernel)⟩
theorem lw_p2 : lw_okq (⟨"CamMaker", "change", "(II)I"⟩, 4) := ⟨⟨by decide +kernel, by decide +kernel⟩, List.mem_of_getElem? (i := 14) (by decide +kernel), List.mem_of_getElem? (i := 225) (by decide +kernel), List.mem_of_getElem? (i := 226) (by decide +kernel)⟩
theorem lw_p3 : lw_okq (⟨"CamMaker", "isDrawn", "()Z"⟩, 4) := ⟨⟨by decide +kernel, by decide +kernel⟩, List.mem_of_getElem? (i := 14) (by decide +kernel), List.mem_of_getElem? (i := 315) (by decide +kernel), List.mem_of_getElem? (i := 316) (by decide +kernel)⟩
theorem lw_p4 : lw_okq (⟨"CamMaker$Profile", "put", "(IIJ)V"⟩, 4) := ⟨⟨by decide +kernel, by decide +kernel⟩, List.mem_of_getElem? (i := 54) (by decide +kernel), List.mem_of_getElem? (i := 354) (by decide +kernel), List.mem_of_getElem? (i := 355) (by decide +kernel)⟩
theorem lw_p5 : lw_okq (⟨"CamMaker$Profile", "measureRoller", "(IJJ)V"⟩, 4) := ⟨⟨by decide +kernel, by decide +kernel⟩, List.mem_of_getElem? (i := 54) (by decide +kernel), List.mem_of_getElem? (i := 370) (by decide +kernel), List.mem_of_getElem? (i := 371) (by decide +kernel)⟩
theorem lw_p6 : lw_okq (⟨"CamMaker$Profile", "rest", "(I)J"⟩, 4) := ⟨⟨by decide +kernel, by decide +kernel⟩, List.mem_of_getElem? (i := 54) (by decide +kernel), List.mem_of_getElem? (i := 386) (by decide +kernel), List.mem_of_getElem? (i := 387) (by decide +kernel)⟩
theorem lw_p7 : lw_okq (⟨"CamMaker$Profile", "isBad", "(II)Z"⟩, 4) := ⟨⟨by decide +kernel, by decide +kernel⟩, List.mem_of_getElem? (i := 54) (by decide +kernel), List.mem_of_getElem? (i := 437) (by decide +kernel), List.mem_of_getElem? (i := 438) (by decide +kernel)⟩
theorem lw_p8 : lw_okq (⟨"CamMaker$Choice", "findBent", "()V"⟩, 13) := ⟨⟨by decide +kernel, by decide +kernel⟩, List.mem_of_getElem? (i := 76) (by decide +kernel), List.mem_of_getElem? (i := 492) (by decide +kernel), List.mem_of_getElem? (i := 493) (by decide +kernel)⟩
theorem lw_p9 : lw_okq (⟨"CamMaker$Choice", "measureLink", "(I)V"⟩, 13) := ⟨⟨by decide +kernel, by decide +kernel⟩, List.mem_of_getElem? (i := 76) (by decide +kernel), List.mem_of_getElem? (i := 503) (by decide +kernel), List.mem_of_getElem? (i := 504) (by decide +kernel)⟩
theorem lw_p10 : lw_okq (⟨"CamMaker$Choice", "measurePair", "(III)V"⟩, 13) := ⟨⟨by decide +kernel, by decide +kernel⟩, List.mem_of_getElem? (i := 76) (by decide +kernel), List.mem_of_getElem? (i := 507) (by decide +kernel), List.mem_of_getElem? (i := 508) (by decide +kernel)⟩
theorem lw_p11 : lw_okq (⟨"CamMaker$Choice", "compareAll", "()V"⟩, 13) := ⟨⟨by decide +kernel, by decide +kernel⟩, List.mem_of_getElem? (i := 76) (by decide +kernel), List.mem_of_getElem? (i := 521) (by decide +kernel), List.mem_of_getElem? (i := 522) (by decide +kernel)⟩
theorem lw_p12 : lw_okq (⟨"CamMaker$Choice", "compare", "(I)V"⟩, 13) := ⟨⟨by decide +kernel, by decide +kernel⟩, List.mem_of_getElem? (i := 76) (by decide +kernel), List.mem_of_getElem? (i := 525) (by decide +kernel), List.mem_of_getElem? (i := 526) (by decide +kernel)⟩
theorem lw_p13 : lw_okq (⟨"CamMaker$Choice", "lawIn", "(II)I"⟩, 13) := ⟨⟨by decide +kernel, by decide +kernel⟩, List.mem_of_getElem? (i := 76) (by decide +kernel), List.mem_of_getElem? (i := 529) (by decide +kernel), List.mem_of_getElem? (i := 530) (by decide +kernel)⟩
theorem lw_p14 : lw_okq (⟨"CamMaker$Choice", "isBetter", "(ZII)Z"⟩, 13) := ⟨⟨by decide +kernel, by decide +kernel⟩, List.mem_of_getElem? (i := 76) (by decide +kernel), List.mem_of_getElem? (i := 533) (by decide +kernel), List.mem_of_getElem? (i := 534) (by decide +kernel)⟩
theorem lw_p15 : lw_okq (⟨"CamMaker$Profile", "isCalm", "(I)Z"⟩, 4) := ⟨⟨by decide +kernel, by decide +kernel⟩, List.mem_of_getElem? (i := 54) (by decide +kernel), List.mem_of_getElem? (i := 564) (by decide +kernel), List.mem_of_getElem? (i := 565) (by decide +kernel)⟩
def lw_privs_1 : List (MethodName × Nat) := [(⟨"CamMaker", "outdate", "()V"⟩, 4), (⟨"CamMaker", "remember", "()V"⟩, 4), (⟨"CamMaker", "change", "(II)I"⟩, 4), (⟨"CamMaker", "isDrawn", "()Z"⟩, 4), (⟨"CamMaker$Profile", "put", "(IIJ)V"⟩, 4), (⟨"CamMaker$Profile", "measureRoller", "(IJJ)V"⟩, 4), (⟨"CamMaker$Profile", "rest", "(I)J"⟩, 4), (⟨"CamMaker$Profile", "isBad", "(II)Z"⟩, 4), (⟨"CamMaker$Choice", "findBent", "()V"⟩, 13), (⟨"CamMaker$Choice", "measureLink", "(I)V"⟩, 13), (⟨"CamMaker$Choice", "measurePair", "(III)V"⟩, 13), (⟨"CamMaker$Choice", "compareAll", "()V"⟩, 13), (⟨"CamMaker$Choice", "compare", "(I)V"⟩, 13), (⟨"CamMaker$Choice", "lawIn", "(II)I"⟩, 13), (⟨"CamMaker$Choice", "isBetter", "(ZII)Z"⟩, 13), (⟨"CamMaker$Profile", "isCalm", "(I)Z"⟩, 4)]
theorem lw_r1 : ∀ q ∈ lw_privs_1, lw_okq q := List.forall_mem_cons.mpr ⟨lw_p0, List.forall_mem_cons.mpr ⟨lw_p1, List.forall_mem_cons.mpr ⟨lw_p2, List.forall_mem_cons.mpr ⟨lw_p3, List.forall_mem_cons.mpr ⟨lw_p4, List.forall_mem_cons.mpr ⟨lw_p5, List.forall_mem_cons.mpr ⟨lw_p6, List.forall_mem_cons.mpr ⟨lw_p7, List.forall_mem_cons.mpr ⟨lw_p8, List.forall_mem_cons.mpr ⟨lw_p9, List.forall_mem_cons.mpr ⟨lw_p10, List.forall_mem_cons.mpr ⟨lw_p11, List.forall_mem_cons.mpr ⟨lw_p12, List.forall_mem_cons.mpr ⟨lw_p13, List.forall_mem_cons.mpr ⟨lw_p14, List.forall_mem_cons.mpr ⟨lw_p15, fun _ h => absurd h List.not_mem_nil⟩⟩⟩⟩⟩⟩⟩⟩⟩⟩⟩⟩⟩⟩⟩⟩
theorem lw_p16 : lw_okq (⟨"CamMaker$Profile", "lowerToClear", "(II)I"⟩, 4) := ⟨⟨by decide +kernel, by decide +kernel⟩, List.mem_of_getElem? (i := 54) (by decide +kernel), List.mem_of_getElem? (i := 568) (by decide +kernel), List.mem_of_getElem? (i := 569) (by decide +kernel)⟩
theorem lw_p17 : lw_okq (⟨"CamMaker$Profile", "undercutBy", "(II)I"⟩, 4) := ⟨⟨by decide +kernel, by decide +kernel⟩, List.mem_of_getElem? (i := 54) (by decide +kernel), List.mem_of_getElem? (i := 572) (by decide +kernel), List.mem_of_getElem? (i := 573) (by decide +kernel)⟩
theorem lw_p18 : lw_okq (⟨"CamMaker$Profile", "clearUpTo", "(II)I"⟩, 4) := ⟨⟨by decide +kernel, by decide +kernel⟩, List.mem_of_getElem? (i := 54) (by decide +kernel), List.mem_of_getElem? (i := 576) (by decide +kernel), List.mem_of_getElem? (i := 577) (by decide +kernel)⟩
theorem lw_p19 : lw_okq (⟨"java/lang/Throwable", "fillInStackTrace", "(I)Ljava/lang/Throwable;"⟩, 6) := ⟨⟨by decide +kernel, by decide +kernel⟩, List.mem_of_getElem? (i := 645) (by decide +kernel), List.mem_of_getElem? (i := 643) (by decide +kernel), List.mem_of_getElem? (i := 644) (by decide +kernel)⟩
theorem lw_p20 : lw_okq (⟨"CamMakerModel", "keeps", "()V"⟩, 11) := ⟨⟨by decide +kernel, by decide +kernel⟩, List.mem_of_getElem? (i := 688) (by decide +kernel), List.mem_of_getElem? (i := 744) (by decide +kernel), List.mem_of_getElem? (i := 745) (by decide +kernel)⟩
theorem lw_p21 : lw_okq (⟨"CamMakerModel", "isSegment", "(I)Z"⟩, 11) := ⟨⟨by decide +kernel, by decide +kernel⟩, List.mem_of_getElem? (i := 688) (by decide +kernel), List.mem_of_getElem? (i := 752) (by decide +kernel), List.mem_of_getElem? (i := 753) (by decide +kernel)⟩
theorem lw_p22 : lw_okq (⟨"CamMakerModel", "tells", "(IZI)I"⟩, 11) := ⟨⟨by decide +kernel, by decide +kernel⟩, List.mem_of_getElem? (i := 688) (by decide +kernel), List.mem_of_getElem? (i := 756) (by decide +kernel), List.mem_of_getElem? (i := 757) (by decide +kernel)⟩
theorem lw_p23 : lw_okq (⟨"CamMakerModel", "isStep", "(I)Z"⟩, 11) := ⟨⟨by decide +kernel, by decide +kernel⟩, List.mem_of_getElem? (i := 688) (by decide +kernel), List.mem_of_getElem? (i := 800) (by decide +kernel), List.mem_of_getElem? (i := 801) (by decide +kernel)⟩
theorem lw_p24 : lw_okq (⟨"CamMakerModel", "isMark", "(I)Z"⟩, 11) := ⟨⟨by decide +kernel, by decide +kernel⟩, List.mem_of_getElem? (i := 688) (by decide +kernel), List.mem_of_getElem? (i := 808) (by decide +kernel), List.mem_of_getElem? (i := 809) (by decide +kernel)⟩
theorem lw_p25 : lw_okq (⟨"CamMakerModel", "comesFrom", "(I)I"⟩, 11) := ⟨⟨by decide +kernel, by decide +kernel⟩, List.mem_of_getElem? (i := 688) (by decide +kernel), List.mem_of_getElem? (i := 820) (by decide +kernel), List.mem_of_getElem? (i := 821) (by decide +kernel)⟩
theorem lw_p26 : lw_okq (⟨"CamMakerModel", "begins", "(I)I"⟩, 11) := ⟨⟨by decide +kernel, by decide +kernel⟩, List.mem_of_getElem? (i := 688) (by decide +kernel), List.mem_of_getElem? (i := 824) (by decide +kernel), List.mem_of_getElem? (i := 825) (by decide +kernel)⟩
theorem lw_p27 : lw_okq (⟨"CamMakerModel", "isDwell", "(I)Z"⟩, 11) := ⟨⟨by decide +kernel, by decide +kernel⟩, List.mem_of_getElem? (i := 688) (by decide +kernel), List.mem_of_getElem? (i := 828) (by decide +kernel), List.mem_of_getElem? (i := 829) (by decide +kernel)⟩
theorem lw_p28 : lw_okq (⟨"CamMakerModel", "isLaid", "()Z"⟩, 11) := ⟨⟨by decide +kernel, by decide +kernel⟩, List.mem_of_getElem? (i := 688) (by decide +kernel), List.mem_of_getElem? (i := 836) (by decide +kernel), List.mem_of_getElem? (i := 837) (by decide +kernel)⟩
theorem lw_p29 : lw_okq (⟨"CamMakerModel", "isWhole", "()Z"⟩, 11) := ⟨⟨by decide +kernel, by decide +kernel⟩, List.mem_of_getElem? (i := 688) (by decide +kernel), List.mem_of_getElem? (i := 840) (by decide +kernel), List.mem_of_getElem? (i := 841) (by decide +kernel)⟩
theorem lw_p30 : lw_okq (⟨"CamMakerModel", "lays", "()V"⟩, 11) := ⟨⟨by decide +kernel, by decide +kernel⟩, List.mem_of_getElem? (i := 688) (by decide +kernel), List.mem_of_getElem? (i := 844) (by decide +kernel), List.mem_of_getElem? (i := 845) (by decide +kernel)⟩
theorem lw_p31 : lw_okq (⟨"CamMakerModel", "diffAt", "(II)I"⟩, 11) := ⟨⟨by decide +kernel, by decide +kernel⟩, List.mem_of_getElem? (i := 688) (by decide +kernel), List.mem_of_getElem? (i := 871) (by decide +kernel), List.mem_of_getElem? (i := 872) (by decide +kernel)⟩
def lw_privs_2 : List (MethodName × Nat) := [(⟨"CamMaker$Profile", "lowerToClear", "(II)I"⟩, 4), (⟨"CamMaker$Profile", "undercutBy", "(II)I"⟩, 4), (⟨"CamMaker$Profile", "clearUpTo", "(II)I"⟩, 4), (⟨"java/lang/Throwable", "fillInStackTrace", "(I)Ljava/lang/Throwable;"⟩, 6), (⟨"CamMakerModel", "keeps", "()V"⟩, 11), (⟨"CamMakerModel", "isSegment", "(I)Z"⟩, 11), (⟨"CamMakerModel", "tells", "(IZI)I"⟩, 11), (⟨"CamMakerModel", "isStep", "(I)Z"⟩, 11), (⟨"CamMakerModel", "isMark", "(I)Z"⟩, 11), (⟨"CamMakerModel", "comesFrom", "(I)I"⟩, 11), (⟨"CamMakerModel", "begins", "(I)I"⟩, 11), (⟨"CamMakerModel", "isDwell", "(I)Z"⟩, 11), (⟨"CamMakerModel", "isLaid", "()Z"⟩, 11), (⟨"CamMakerModel", "isWhole", "()Z"⟩, 11), (⟨"CamMakerModel", "lays", "()V"⟩, 11), (⟨"CamMakerModel", "diffAt", "(II)I"⟩, 11)]
theorem lw_r2 : ∀ q ∈ lw_privs_2, lw_okq q := List.forall_mem_cons.mpr ⟨lw_p16, List.forall_mem_cons.mpr ⟨lw_p17, List.forall_mem_cons.mpr ⟨lw_p18, List.forall_mem_cons.mpr ⟨lw_p19, List.forall_mem_cons.mpr ⟨lw_p20, List.forall_mem_cons.mpr ⟨lw_p21, List.forall_mem_cons.mpr ⟨lw_p22, List.forall_mem_cons.mpr ⟨lw_p23, List.forall_mem_cons.mpr ⟨lw_p24, List.forall_mem_cons.mpr ⟨lw_p25, List.forall_mem_cons.mpr ⟨lw_p26, List.forall_mem_cons.mpr ⟨lw_p27, List.forall_mem_cons.mpr ⟨lw_p28, List.forall_mem_cons.mpr ⟨lw_p29, List.forall_mem_cons.mpr ⟨lw_p30, List.forall_mem_cons.mpr ⟨lw_p31, fun _ h => absurd h List.not_mem_nil⟩⟩⟩⟩⟩⟩⟩⟩⟩⟩⟩⟩⟩⟩⟩⟩
theorem lw_p32 : lw_okq (⟨"CamMakerModel", "liftAt", "(I)I"⟩, 11) := ⟨⟨by decide +kernel, by decide +kernel⟩, List.mem_of_getElem? (i := 688) (by decide +kernel), List.mem_of_getElem? (i := 875) (by decide +kernel), List.mem_of_getElem? (i := 876) (by decide +kernel)⟩
theorem lw_p33 : lw_okq (⟨"CamMakerModel", "greatest", "(I)I"⟩, 11) := ⟨⟨by decide +kernel, by decide +kernel⟩, List.mem_of_getElem? (i := 688) (by decide +kernel), List.mem_of_getElem? (i := 883) (by decide +kernel), List.mem_of_getElem? (i := 884) (by decide +kernel)⟩
theorem lw_p34 : lw_okq (⟨"CamMakerModel", "farOf", "(I)J"⟩, 11) := ⟨⟨by decide +kernel, by decide +kernel⟩, List.mem_of_getElem? (i := 688) (by decide +kernel), List.mem_of_getElem? (i := 898) (by decide +kernel), List.mem_of_getElem? (i := 899) (by decide +kernel)⟩
theorem lw_p35 : lw_okq (⟨"CamMakerModel", "quick", "(I)J"⟩, 11) := ⟨⟨by decide +kernel, by decide +kernel⟩, List.mem_of_getElem? (i := 688) (by decide +kernel), List.mem_of_getElem? (i := 902) (by decide +kernel), List.mem_of_getElem? (i := 903) (by decide +kernel)⟩
theorem lw_p36 : lw_okq (⟨"CamMakerModel", "bent", "(I)J"⟩, 11) := ⟨⟨by decide +kernel, by decide +kernel⟩, List.mem_of_getElem? (i := 688) (by decide +kernel), List.mem_of_getElem? (i := 908) (by decide +kernel), List.mem_of_getElem? (i := 909) (by decide +kernel)⟩
theorem lw_p37 : lw_okq (⟨"CamMakerModel", "bend", "(I)J"⟩, 11) := ⟨⟨by decide +kernel, by decide +kernel⟩, List.mem_of_getElem? (i := 688) (by decide +kernel), List.mem_of_getElem? (i := 914) (by decide +kernel), List.mem_of_getElem? (i := 915) (by decide +kernel)⟩
theorem lw_p38 : lw_okq (⟨"CamMakerModel", "undercutAt", "(I)I"⟩, 11) := ⟨⟨by decide +kernel, by decide +kernel⟩, List.mem_of_getElem? (i := 688) (by decide +kernel), List.mem_of_getElem? (i := 922) (by decide +kernel), List.mem_of_getElem? (i := 923) (by decide +kernel)⟩
theorem lw_p39 : lw_okq (⟨"CamMakerModel", "pressAt", "(I)I"⟩, 11) := ⟨⟨by decide +kernel, by decide +kernel⟩, List.mem_of_getElem? (i := 688) (by decide +kernel), List.mem_of_getElem? (i := 935) (by decide +kernel), List.mem_of_getElem? (i := 936) (by decide +kernel)⟩
theorem lw_p40 : lw_okq (⟨"CamMakerModel", "forceAt", "(I)J"⟩, 11) := ⟨⟨by decide +kernel, by decide +kernel⟩, List.mem_of_getElem? (i := 688) (by decide +kernel), List.mem_of_getElem? (i := 944) (by decide +kernel), List.mem_of_getElem? (i := 945) (by decide +kernel)⟩
theorem lw_p41 : lw_okq (⟨"CamMakerModel", "isBad", "(II)Z"⟩, 11) := ⟨⟨by decide +kernel, by decide +kernel⟩, List.mem_of_getElem? (i := 688) (by decide +kernel), List.mem_of_getElem? (i := 952) (by decide +kernel), List.mem_of_getElem? (i := 953) (by decide +kernel)⟩
theorem lw_p42 : lw_okq (⟨"CamMakerModel", "metNow", "()I"⟩, 11) := ⟨⟨by decide +kernel, by decide +kernel⟩, List.mem_of_getElem? (i := 688) (by decide +kernel), List.mem_of_getElem? (i := 965) (by decide +kernel), List.mem_of_getElem? (i := 966) (by decide +kernel)⟩
theorem lw_p43 : lw_okq (⟨"CamMakerModel", "offAt", "(I)I"⟩, 11) := ⟨⟨by decide +kernel, by decide +kernel⟩, List.mem_of_getElem? (i := 688) (by decide +kernel), List.mem_of_getElem? (i := 969) (by decide +kernel), List.mem_of_getElem? (i := 970) (by decide +kernel)⟩
theorem lw_p44 : lw_okq (⟨"CamMakerModel", "turned", "()I"⟩, 11) := ⟨⟨by decide +kernel, by decide +kernel⟩, List.mem_of_getElem? (i := 688) (by decide +kernel), List.mem_of_getElem? (i := 982) (by decide +kernel), List.mem_of_getElem? (i := 983) (by decide +kernel)⟩
theorem lw_p45 : lw_okq (⟨"CamMakerModel", "laysBest", "(I)V"⟩, 11) := ⟨⟨by decide +kernel, by decide +kernel⟩, List.mem_of_getElem? (i := 688) (by decide +kernel), List.mem_of_getElem? (i := 986) (by decide +kernel), List.mem_of_getElem? (i := 987) (by decide +kernel)⟩
theorem lw_p46 : lw_okq (⟨"CamMakerModel", "gives", "(II)V"⟩, 11) := ⟨⟨by decide +kernel, by decide +kernel⟩, List.mem_of_getElem? (i := 688) (by decide +kernel), List.mem_of_getElem? (i := 990) (by decide +kernel), List.mem_of_getElem? (i := 991) (by decide +kernel)⟩
theorem lw_p47 : lw_okq (⟨"CamMakerModel", "isGood", "()Z"⟩, 11) := ⟨⟨by decide +kernel, by decide +kernel⟩, List.mem_of_getElem? (i := 688) (by decide +kernel), List.mem_of_getElem? (i := 994) (by decide +kernel), List.mem_of_getElem? (i := 995) (by decide +kernel)⟩
def lw_privs_3 : List (MethodName × Nat) := [(⟨"CamMakerModel", "liftAt", "(I)I"⟩, 11), (⟨"CamMakerModel", "greatest", "(I)I"⟩, 11), (⟨"CamMakerModel", "farOf", "(I)J"⟩, 11), (⟨"CamMakerModel", "quick", "(I)J"⟩, 11), (⟨"CamMakerModel", "bent", "(I)J"⟩, 11), (⟨"CamMakerModel", "bend", "(I)J"⟩, 11), (⟨"CamMakerModel", "undercutAt", "(I)I"⟩, 11), (⟨"CamMakerModel", "pressAt", "(I)I"⟩, 11), (⟨"CamMakerModel", "forceAt", "(I)J"⟩, 11), (⟨"CamMakerModel", "isBad", "(II)Z"⟩, 11), (⟨"CamMakerModel", "metNow", "()I"⟩, 11), (⟨"CamMakerModel", "offAt", "(I)I"⟩, 11), (⟨"CamMakerModel", "turned", "()I"⟩, 11), (⟨"CamMakerModel", "laysBest", "(I)V"⟩, 11), (⟨"CamMakerModel", "gives", "(II)V"⟩, 11), (⟨"CamMakerModel", "isGood", "()Z"⟩, 11)]
theorem lw_r3 : ∀ q ∈ lw_privs_3, lw_okq q := List.forall_mem_cons.mpr ⟨lw_p32, List.forall_mem_cons.mpr ⟨lw_p33, List.forall_mem_cons.mpr ⟨lw_p34, List.forall_mem_cons.mpr ⟨lw_p35, List.forall_mem_cons.mpr ⟨lw_p36, List.forall_mem_cons.mpr ⟨lw_p37, List.forall_mem_cons.mpr ⟨lw_p38, List.forall_mem_cons.mpr ⟨lw_p39, List.forall_mem_cons.mpr ⟨lw_p40, List.forall_mem_cons.mpr ⟨lw_p41, List.forall_mem_cons.mpr ⟨lw_p42, List.forall_mem_cons.mpr ⟨lw_p43, List.forall_mem_cons.mpr ⟨lw_p44, List.forall_mem_cons.mpr ⟨lw_p45, List.forall_mem_cons.mpr ⟨lw_p46, List.forall_mem_cons.mpr ⟨lw_p47, fun _ h => absurd h List.not_mem_nil⟩⟩⟩⟩⟩⟩⟩⟩⟩⟩⟩⟩⟩⟩⟩⟩
theorem lw_p48 : lw_okq (⟨"CamMakerModel", "takesWay", "()V"⟩, 11) := ⟨⟨by decide +kernel, by decide +kernel⟩, List.mem_of_getElem? (i := 688) (by decide +kernel), List.mem_of_getElem? (i := 998) (by decide +kernel), List.mem_of_getElem? (i := 999) (by decide +kernel)⟩
theorem lw_p49 : lw_okq (⟨"CamMakerModel", "isFree", "(III)Z"⟩, 11) := ⟨⟨by decide +kernel, by decide +kernel⟩, List.mem_of_getElem? (i := 688) (by decide +kernel), List.mem_of_getElem? (i := 1006) (by decide +kernel), List.mem_of_getElem? (i := 1007) (by decide +kernel)⟩
def lw_privs_4 : List (MethodName × Nat) := [(⟨"CamMakerModel", "takesWay", "()V"⟩, 11), (⟨"CamMakerModel", "isFree", "(III)Z"⟩, 11)]
theorem lw_r4 : ∀ q ∈ lw_privs_4, lw_okq q := List.forall_mem_cons.mpr ⟨lw_p48, List.forall_mem_cons.mpr ⟨lw_p49, fun _ h => absurd h List.not_mem_nil⟩⟩
def lw_privs : List (MethodName × Nat) := lw_privs_1 ++ (lw_privs_2 ++ (lw_privs_3 ++ (lw_privs_4)))
def lw_tbl : List Cond := k2_sels lw_privs ++ tables_1
theorem lw_privs_ok : ∀ q ∈ lw_privs, lw_okq q := by
  show ∀ q ∈ lw_privs_1 ++ (lw_privs_2 ++ (lw_privs_3 ++ (lw_privs_4))), lw_okq q
  exact List.forall_mem_append.mpr ⟨lw_r1, List.forall_mem_append.mpr ⟨lw_r2, List.forall_mem_append.mpr ⟨lw_r3, lw_r4⟩⟩⟩
end
section
/-- what the tables say of an array of arrays -/
def va_AOA (t : FieldType) (U : State) : Prop := (Cond.arrayOver (.array t)).before #[] U = true
theorem va_AOA.of {t : FieldType} {A : Array Value} {U : State} (h : (Cond.arrayOver (.array t)).before A U = true) : va_AOA t U := h
theorem va_AOA.use {t : FieldType} {A : Array Value} {U : State} (h : va_AOA t U) : (Cond.arrayOver (.array t)).before A U = true := h
/-! ===== BEGIN words of one list among another's, by their places ===== -/
theorem goodIn_r {big : List Cond} (ws : List Cond) (ps : List Nat) (hp : ws = ps.filterMap (fun i => big[i]?)) (h : ws.all goodWord = true) : GoodIn big ws := by
  intro w hw
  have h1 := List.all_eq_true.mp h w hw
  rw [hp] at hw
  obtain ⟨i, -, hi⟩ := List.mem_filterMap.mp hw
  have hm : w ∈ big := by first | exact List.mem_of_getElem? hi | exact List.getElem?_mem hi
  exact ⟨hm, good_of_word h1⟩
theorem goodIn_app {big a b : List Cond} (ha : GoodIn big a) (hb : GoodIn big b) : GoodIn big (a ++ b) := fun w h => (List.mem_append.mp h).elim (ha w) (hb w)
theorem goodIn_ca {big a b : List Cond} {c : Cond} (ha : GoodIn big (c :: a)) (hb : GoodIn big b) : GoodIn big (c :: (a ++ b)) := fun w h => (List.mem_cons.mp h).elim (fun e => ha w (List.mem_cons.mpr (Or.inl e))) (fun h => (List.mem_append.mp h).elim (fun h => ha w (List.mem_cons.mpr (Or.inr h))) (hb w))
theorem goodIn_sub {big ws : List Cond} (hm : ∀ w ∈ ws, w ∈ big) (h : ws.all goodWord = true) : GoodIn big ws := fun w hw => ⟨hm w hw, good_of_word (List.all_eq_true.mp h w hw)⟩
/-! ===== END ===== -/

/-! ===== BEGIN new T[n][m]: the outer array a place, the inner ones among the pooled ===== -/
/-- f, but v at every address of l -/
def vr_up {α : Type} (f : Nat → α) (l : List Nat) (v : α) : Nat → α := fun a => if a ∈ l then v else f a
theorem vr_up_in {α : Type} {f : Nat → α} {l : List Nat} {v : α} {a : Nat} (h : a ∈ l) : vr_up f l v a = v := if_pos h
theorem vr_up_ne {α : Type} {f : Nat → α} {l : List Nat} {v : α} {a : Nat} (h : a ∉ l) : vr_up f l v a = f a := if_neg h
theorem vr_rows {L l : List Nat} {f : Nat → va_E} {e : va_E} (h : ∀ a, a ∈ l → a ∉ L) : va_pl L f ++ l.map (fun a => (a, e)) = va_pl (L ++ l) (vr_up f l e) := by
  unfold va_pl
  rw [List.map_append]
  congr 1
  · apply List.map_congr_left
    intro a ha
    rw [vr_up_ne (fun q => h a q ha)]
  · apply List.map_congr_left
    intro a ha
    rw [vr_up_in ha]
theorem vr_lay {X rows : va_W} {x : Nat × va_E} {pl : va_W} {D : va_G} {cl : List vw_C} {H : Heap} (hP : va_P D cl (((X ++ pl) ++ [x]) ++ rows) H) : va_P D cl ((X ++ [x]) ++ (pl ++ rows)) H := by
  rw [List.append_assoc (X ++ pl)] at hP
  have h := va_P.swap hP
  rw [← List.append_assoc X] at h
  have h2 := va_P.swap h
  rw [List.append_assoc (X ++ [x])] at h2
  exact h2
theorem vr_layD {X rows : va_W} {x : Nat × va_E} {pl : va_W} {A : Nat → Prop} (hD : va_D A (((X ++ pl) ++ [x]) ++ rows)) : va_D A ((X ++ [x]) ++ (pl ++ rows)) := by
  rw [List.append_assoc (X ++ pl)] at hD
  have h := va_D.swap hD
  rw [← List.append_assoc X] at h
  have h2 := va_D.swap h
  rw [List.append_assoc (X ++ [x])] at h2
  exact h2
theorem vr_outer (c : ClassId) (N h0 : Nat) : ∀ i : Nat, Jvm.Free.Multi.outerC c N h0 i = arrV c N (fun j => va_rf (if j < i then some (h0 + 1 + j) else none))
  | 0 => by
    show ({ cls := c, slots := Array.replicate N .null, vm := .none } : Cell) = _
    rw [arrV_new]
    refine congrArg (arrV c N) (funext fun j => ?_)
    simp [va_rf]
  | i + 1 => by
    show (Jvm.Free.Multi.outerC c N h0 i).setSlot i (.ref (h0 + 1 + i)) = _
    rw [vr_outer c N h0 i, arrV_store]
    refine congrArg (arrV c N) (funext fun j => ?_)
    by_cases e : j = i
    · subst e
      simp [updV, va_rf]
    · by_cases h : j < i
      · simp [updV, e, h, Nat.lt_succ_of_lt h]
      · simp [updV, e, h, show ¬ j < i + 1 by omega]
section VGM
variable {p : Program} {l : Launch} {e : Env} {R : Room} {s : State} {m : MethodId} {args : Array Value} {below : List Frame} {meth : Method} {c : Code} {H : Heap} {locs : List Loc} {cells slots : Nat} {Q : State → Prop}
variable {cc : ByteArray} {pc : Nat} {ls : Array Slot} {rest : List Value} {D : va_G} {cl : List vw_C} {A : Nat → Prop} {a : Nat} {tys : List (ClassId × FieldType)} {ws : va_W} {H0 : Heap}
theorem va_mna {X : va_W} {L : List Nat} {f : Nat → va_E} {cc : ByteArray} (hexec : p.tables.exec = Jvm.exec) (hb : c.code = cc) {own : String} {index : Nat} {ty : FieldType} {cy : ClassId} (hown : s.vm.findClass own = some m.cls) (hclink : (Cond.classLink own index ("[" ++ (FieldType.array ty).toString)).before args s = true) (hover : va_AOA ty s) (harr : (Cond.arrayClass ty).before args s = true) (hcy : s.vm.findClass (FieldType.array ty).toString = some cy)
    (hK : va_K D cl tys s) (hP : va_P D cl (X ++ va_pl L f) H) (hD : va_D A (X ++ va_pl L f)) (hS : va_S A H0 H locs) (hA : ∀ q, H0.size ≤ q → A q) {n k : Int32} {N' K' : Nat} {z : vp_A} (hn : ¬ n < 0) (hk : ¬ k < 0) (hN : n.toNatClampNeg = N') (hM : k.toNatClampNeg = K')
    (hb1 : N' * 4 ≤ 536870912) (hb2 : K' * componentBytes ty ≤ 536870912) (hb3 : K' ≤ 536870912) (hdf : fits ty (defaultValue ty) = true) (hdd : (defaultValue ty).isDefault = true) (hcells : cells + (1 + N') ≤ R.cells) (hslots : slots + (N' + N' * K') ≤ R.slots) (hz : ∀ c : ClassId, Jvm.Free.Multi.innerC c K' (defaultValue ty) = vp_cell c z) (hdg : decode cc pc = .ok (.multianewarray index 2, 4))
    (kk : ∀ (q : Nat) (r : Nat → Nat) (cA : ClassId) (H1 : Heap), (∀ i j : Nat, i < N' → j < N' → r i = r j → i = j) → (∀ i : Nat, i < N' → r i ∉ L) → va_K D cl (tys ++ [(cA, .array ty)]) s →
      va_P D cl ((X ++ [(q, .inl (cA, N', .inr (.inr (.inr (.inr (fun i => if i < N' then some (r i) else none))))))]) ++ va_pl (L ++ (List.range N').map r) (vr_up f ((List.range N').map r) (.inl (cy, z)))) H1 → va_D A ((X ++ [(q, .inl (cA, N', .inr (.inr (.inr (.inr (fun i => if i < N' then some (r i) else none))))))]) ++ va_pl (L ++ (List.range N').map r) (vr_up f ((List.range N').map r) (.inl (cy, z)))) → va_S A H0 H1 locs →
      W p l e R s m args below meth c H1 locs (cells + 1 + N') (slots + N' + N' * K') Q (F0 m (pc + 4) ls (.ref q :: rest))) : W p l e R s m args below meth c H locs cells slots Q (F0 m pc ls (.int k :: .int n :: rest)) := by
  subst hN
  subst hM
  intro T hT Xs
  obtain ⟨vm₁, cA, comp, -, fA, fC, hO, -, X', step⟩ := Xs.multianewarray2F hexec hown hclink (va_AOA.use hover) harr (g := F0 m pc ls (.int k :: .int n :: rest)) rfl (by rw [hb]; exact hdg) rfl hn hk hb1 hb2 hb3 hdf hdd hcells hslots
  have ec : some cy = some comp := hcy.symm.trans fC
  cases ec
  generalize hF : Jvm.Free.Multi.fill (T.setVm vm₁) cA cy n.toNatClampNeg k.toNatClampNeg (defaultValue ty) n.toNatClampNeg = F at X' step
  have hTh : (T.setVm vm₁).heap = H := hT
  obtain ⟨f1, f2, -, -⟩ := Jvm.Free.Multi.fill_facts (T.setVm vm₁) cA cy n.toNatClampNeg k.toNatClampNeg (defaultValue ty) n.toNatClampNeg
  rw [hF, hTh] at f1 f2
  have hold : ∀ x : Nat, x < H.size → F.heap[x]? = H[x]? := fun x hx => by
    have := Jvm.Free.Multi.fill_old (T.setVm vm₁) cA cy n.toNatClampNeg k.toNatClampNeg (defaultValue ty) (a := x) (by rw [hTh]; exact hx) n.toNatClampNeg
    rw [hF, hTh] at this
    exact this
  have hrow : ∀ j : Nat, j < n.toNatClampNeg → F.heap[H.size + 1 + j]? = some (vp_cell cy z) := fun j hj => by
    have := Jvm.Free.Multi.fill_inner (T.setVm vm₁) cA cy n.toNatClampNeg k.toNatClampNeg (defaultValue ty) n.toNatClampNeg j hj
    rw [hF, hTh, hz] at this
    exact this
  have hout : Jvm.Free.Multi.outerC cA n.toNatClampNeg H.size n.toNatClampNeg = vp_cell cA (n.toNatClampNeg, .inr (.inr (.inr (.inr (fun i => if i < n.toNatClampNeg then some (H.size + 1 + i) else none))))) := by
    rw [vp_cell_q]
    exact vr_outer cA n.toNatClampNeg H.size n.toNatClampNeg
  rw [hout] at f2
  have hlt : ∀ a, a ∈ L → a < H.size := fun a ha => by
    obtain ⟨k9, hk9⟩ := va_pl_get (X := X) (f := f) ha
    exact (hP k9 _ hk9).lt
  have hnl : ∀ i : Nat, i < n.toNatClampNeg → H.size + 1 + i ∉ L := fun i _ h => by
    have := hlt _ h
    omega
  have hnm : ∀ a, a ∈ (List.range n.toNatClampNeg).map (fun i => H.size + 1 + i) → a ∉ L := fun a ha h => by
    obtain ⟨i, -, rfl⟩ := List.mem_map.mp ha
    have := hlt _ h
    omega
  have hP0 : va_P D cl (X ++ va_pl L f) F.heap := hP.kept (fun k9 x hx => hold x.1 ((hP k9 x hx).lt))
  have hP1 : va_P D cl ((X ++ va_pl L f) ++ [(H.size, .inl (cA, n.toNatClampNeg, .inr (.inr (.inr (.inr (fun i => if i < n.toNatClampNeg then some (H.size + 1 + i) else none))))))]) F.heap := hP0.app (fun k9 x hx => by
    have h0 : k9 < 1 := (List.getElem?_eq_some_iff.mp hx).1
    rw [show k9 = 0 by omega] at hx
    cases hx
    exact f2)
  have hP2 : va_P D cl (((X ++ va_pl L f) ++ [(H.size, .inl (cA, n.toNatClampNeg, .inr (.inr (.inr (.inr (fun i => if i < n.toNatClampNeg then some (H.size + 1 + i) else none))))))]) ++ ((List.range n.toNatClampNeg).map (fun i => H.size + 1 + i)).map (fun a => (a, .inl (cy, z)))) F.heap := hP1.app (fun k9 x hx => by
    obtain ⟨a, ha, rfl⟩ := List.mem_map.mp (List.mem_of_getElem? hx)
    obtain ⟨i, hi, rfl⟩ := List.mem_map.mp ha
    exact hrow i (List.mem_range.mp hi))
  have hD2 : va_D A (((X ++ va_pl L f) ++ [(H.size, .inl (cA, n.toNatClampNeg, .inr (.inr (.inr (.inr (fun i => if i < n.toNatClampNeg then some (H.size + 1 + i) else none))))))]) ++ ((List.range n.toNatClampNeg).map (fun i => H.size + 1 + i)).map (fun a => (a, .inl (cy, z)))) := by
    have hD1 := hD.push (e := .inl (cA, n.toNatClampNeg, .inr (.inr (.inr (.inr (fun i => if i < n.toNatClampNeg then some (H.size + 1 + i) else none)))))) hP rfl (hA _ hS.1)
    generalize hW1 : (X ++ va_pl L f) ++ [(H.size, .inl (cA, n.toNatClampNeg, .inr (.inr (.inr (.inr (fun i => if i < n.toNatClampNeg then some (H.size + 1 + i) else none))))))] = W1 at hD1 hP1 ⊢
    have hle : ∀ (k9 : Nat) (x : Nat × va_E), W1[k9]? = some x → x.1 ≤ H.size := fun k9 x hx => by
      rw [← hW1] at hx
      by_cases hl : k9 < (X ++ va_pl L f).length
      · rw [List.getElem?_append_left hl] at hx
        exact Nat.le_of_lt ((hP k9 x hx).lt)
      · rw [List.getElem?_append_right (by omega)] at hx
        have h0 : k9 - (X ++ va_pl L f).length < 1 := (List.getElem?_eq_some_iff.mp hx).1
        rw [show k9 - (X ++ va_pl L f).length = 0 by omega] at hx
        cases hx
        exact Nat.le_refl _
    have hr : ∀ (k9 : Nat) (x : Nat × va_E), (((List.range n.toNatClampNeg).map (fun i => H.size + 1 + i)).map (fun a => ((a, .inl (cy, z)) : Nat × va_E)))[k9]? = some x → x.1 = H.size + 1 + k9 := fun k9 x hx => by
      rw [List.getElem?_map, List.getElem?_map] at hx
      by_cases h9 : k9 < n.toNatClampNeg
      · rw [List.getElem?_range h9] at hx
        cases hx
        rfl
      · have hn0 : (List.range n.toNatClampNeg)[k9]? = none := List.getElem?_eq_none (by rw [List.length_range]; omega)
        rw [hn0] at hx
        cases hx
    refine ⟨fun i j x y hi hj hxy => ?_, fun k9 x hx => ?_⟩
    · by_cases h1 : i < W1.length <;> by_cases h2 : j < W1.length
      · rw [List.getElem?_append_left h1] at hi
        rw [List.getElem?_append_left h2] at hj
        exact hD1.1 i j x y hi hj hxy
      · rw [List.getElem?_append_left h1] at hi
        rw [List.getElem?_append_right (by omega)] at hj
        have := hle _ _ hi
        have := hr _ _ hj
        omega
      · rw [List.getElem?_append_right (by omega)] at hi
        rw [List.getElem?_append_left h2] at hj
        have := hle _ _ hj
        have := hr _ _ hi
        omega
      · rw [List.getElem?_append_right (by omega)] at hi hj
        have := hr _ _ hi
        have := hr _ _ hj
        omega
    · by_cases h1 : k9 < W1.length
      · rw [List.getElem?_append_left h1] at hx
        exact hD1.2 k9 x hx
      · rw [List.getElem?_append_right (by omega)] at hx
        have := hr _ _ hx
        exact hA _ (by have := hS.1; omega)
  have hAr : ArrOfT s cA (.array ty) := fun N9 z9 => by
    obtain ⟨-, k9, hk9, cm9, hkk9⟩ := (hO 0 0 0).1
    exact ⟨(fun q hq => by cases hq), k9, hk9, cm9, hkk9⟩
  have hK2 : va_K D cl (tys ++ [(cA, .array ty)]) s := ⟨hK.1, fun k9 x hx => by
    by_cases hl : k9 < tys.length
    · rw [List.getElem?_append_left hl] at hx
      exact hK.2 k9 x hx
    · rw [List.getElem?_append_right (by omega)] at hx
      have h0 : k9 - tys.length < 1 := (List.getElem?_eq_some_iff.mp hx).1
      rw [show k9 - tys.length = 0 by omega] at hx
      cases hx
      exact ⟨hAr, fA⟩⟩
  obtain ⟨t, a1, b1⟩ := kk H.size (fun i => H.size + 1 + i) cA F.heap (fun i j _ _ h => by have h9 : H.size + 1 + i = H.size + 1 + j := h; omega) hnl hK2 (by rw [← vr_rows hnm]; exact vr_lay hP2) (by rw [← vr_rows hnm]; exact vr_layD hD2) ⟨by rw [f1]; have := hS.1; omega, fun x h1 h2 => (hold x (Nat.lt_of_lt_of_le h1 hS.1)).trans (hS.2.1 x h1 h2), hS.2.2⟩ F rfl X'
  refine ⟨t, step t ?_, b1⟩
  have e : T.heap.size = H.size := by rw [hT]
  rw [e]
  exact a1
end VGM
/-! ===== END ===== -/

/-! ===== BEGIN exceptions that leave a method, and their catching by the caller (launches without stack traces) ===== -/
section VXA
/-! The laws vx_back, vx_callV, vx_callS, vx_callSW, vx_throw0, vx_throwS follow proofs of the library, with one case more: JvmDerived/Free/Laws.lean (Back.of_free), Shelf42/LK1.lean (callV, callS), Shelf/KitTraced.lean (throwNew0V, throwNewS). -/
/-- where a method has thrown q: the class by its name, the cell, what was written, the world -/
def vx_T (XC : String → State → State → Prop) (st : State) (q : Addr) (t : State) (mc ms : Nat) (free : Addr → Prop) : Prop :=
  ∃ (E : String) (ce : Cell) (L : List Loc), XC E st t ∧ t.heap[q]? = some ce ∧ ce.vm = .none ∧ st.vm.findClass E = some ce.cls ∧ st.WarmedH t.vm ∧ st.sameButNew ({ t with vm := st.vm } : State) L mc ms ∧ ∀ z ∈ L, free z.base
def vx_Q (Qc : Array Value → State → Outcome → State → Prop) (XC : String → State → State → Prop) (mc ms : Nat) (free : Addr → Prop) : Array Value → State → Outcome → State → Prop := fun a st o t =>
  (Qc a st o t ∧ ∃ L, FrameEnd st o t L mc ms ∧ ∀ q ∈ L, free q.base) ∨ ∃ q, o = .threw q ∧ vx_T XC st q t mc ms free
/-- a callee that returns or throws -/
def vx_Met (l : Launch) (y : MethodName) (ws : List Cond) (rm : Room) (Pc : Array Value → State → Prop) (Qc : Array Value → State → Outcome → State → Prop) (XC : String → State → State → Prop) (mc ms : Nat) (free : Addr → Prop) : Prop :=
  MetFree l y (headSpec ws rm) Pc (fun _ _ _ _ _ => True) (vx_Q Qc XC mc ms free)
def vx_Post (XC : String → State → State → Prop) (mc ms : Nat) (free : Addr → Prop) : Pt → Array Value → Addr → Pt → Prop := fun A a q B =>
  ∃ (g : JFrame) (mk : MethodId) (t : State) (L : List Loc) (E : String) (ce : Cell), B.U.heap = t.heap ∧ B.U.vm = t.vm ∧ XC E (A.U.calling g mk a) t ∧ t.heap[q]? = some ce ∧ ce.vm = .none ∧ A.U.vm.findClass E = some ce.cls ∧ B.locs = A.locs ++ L ∧ (∀ z ∈ L, free z.base) ∧ B.cells = A.cells + mc ∧ B.slots = A.slots + ms
def vx_Back (l : Launch) (R : Room) (p : Program) (e : Env) (below : List Frame) (s : State) (sargs : Array Value) (y : MethodName) (len W9 : Nat)
    (Pre : Pt → Array Value → Prop) (Post : Pt → Array Value → Option Value → Pt → Prop) (PostX : Pt → Array Value → Addr → Pt → Prop) : Prop :=
  ∀ (m : MethodId) (meth : Method) (c : Code) (A : Pt) (g : JFrame) (ig : Instr) (mk : MethodId) (a : Array Value),
    Stand p l e R s m sargs below meth c A.U A.locs A.cells A.slots → g.method = m → g.locals.size = c.maxLocals → decode c.code g.pc = .ok (ig, len) →
    2 * g.monitorRoom + (g.stack.map fun v => v.category).sum ≤ W9 → A.U.methodNamed? y = some mk → Pre A a →
    (∃ (v : Option Value) (B : Pt), Stand p l e R s m sargs below meth c B.U B.locs B.cells B.slots ∧ Post A a v B ∧
      Steps p.tables e below (doInvoke e (A.U.setTop g) [] mk a).1 (B.U.setTop { g with pc := g.pc + len, stack := v.toList ++ g.stack })) ∨
    (∃ (q : Addr) (B : Pt), Stand p l e R s m sargs below meth c B.U B.locs B.cells B.slots ∧ PostX A a q B ∧
      Steps p.tables e below (doInvoke e (A.U.setTop g) [] mk a).1 ((B.U.setTop g).pushFrame (.throwing q)))
section Payer
variable {l : Launch} {R : Room} {p : Program} {e : Env} {below : List Frame} {s : State} {sargs : Array Value} {y : MethodName} {len W9 : Nat}
theorem vx_back {ws : List Cond} {rm : Room} {Pc : Array Value → State → Prop} {Qc : Array Value → State → Outcome → State → Prop} {XC : String → State → State → Prop} {mc ms : Nat} {free : Addr → Prop} {bytes : ByteArray} {maxL : Nat} {ret : Option FieldType}
    (hM : vx_Met l y ws rm Pc Qc XC mc ms free) (hblind : FrameBlind Pc) (hrc : rm.cells = mc) (hrs : rm.slots = ms)
    (hframes : rm.frames + 1 ≤ R.frames) (hlocals : W9 + (maxL + 11) + rm.locals ≤ R.locals)
    (hws : ∀ w ∈ ws, ∀ a' U, s.WarmedH U.vm → w.before a' U = true) (hcode : Cond.code y bytes maxL ret ∈ ws) (hinit : ∀ a' U, s.WarmedH U.vm → (Cond.initialized y.cls).before a' U = true) :
    vx_Back l R p e below s sargs y len W9 (PreOf R mc ms Pc) (PostOf Qc mc ms free) (vx_Post XC mc ms free) := by
  intro m meth c A g ig mk a X hg hsize hdg hW hn hp
  have h1 : (headSpec ws rm).pre.before a A.U = true := atoms_intro fun w hw => hws w hw _ _ X.warmed
  have h2 : (Cond.code y bytes maxL ret).before a A.U = true := hws _ hcode _ _ X.warmed
  have h3 : (Cond.initialized y.cls).before a A.U = true := hinit _ _ X.warmed
  have h4 : A.cells + (headSpec ws rm).room.cells ≤ R.cells := by rw [show (headSpec ws rm).room.cells = mc from hrc]; exact hp.1
  have h5 : A.slots + (headSpec ws rm).room.slots ≤ R.slots := by rw [show (headSpec ws rm).room.slots = ms from hrs]; exact hp.2.1
  have hPc : Pc a (A.U.calling g mk a) := hblind _ _ _ _ hp.2.2
  obtain ⟨U, Ls, c0, s0⟩ := A
  dsimp only [Pt.U, Pt.locs, Pt.cells, Pt.slots] at h1 h2 h3 h4 h5 X hn hPc ⊢
  obtain ⟨methY, cY, hmY, hcY, -, hlY, -, -, -, -⟩ := Cond.code_spec hn h2
  obtain ⟨kY, hkY, -⟩ := className_of_methodNamed hn
  have hinitY : kY.init = .initialized := Cond.initialized_spec (findClass_of_methodNamed hn) hkY h3
  have h : At U g.method c below := by rw [hg]; exact X.here
  have hlocals9 : W9 + (maxL + 11) + (headSpec ws rm).room.locals ≤ R.locals := hlocals
  have happ : (headSpec ws rm).appliesLoose y e.platform (U.calling g mk a) = true :=
    Spec.appliesLoose_calling (g := g) h hdg hn hkY hinitY
      (X.room_calling (g := g) (R' := (headSpec ws rm).room) hsize hmY hcY hframes (by rw [hlY]; omega) h4 h5) h1
  obtain ⟨mid, hmid⟩ := h.above
  have hfr : (U.setTop g).frames = (.java g :: mid) ++ below := by rw [State.frames_setTop' g h.top, hmid]; rfl
  obtain ⟨o, s₂, hsteps, -, hend, hq⟩ := Steps.callFree hM p X.admits X.cas X.clock (acts := []) hfr happ hPc trivial
  have hq' : vx_Q Qc XC mc ms free a (U.calling g mk a) o s₂ := hq
  rw [State.frames_setTop' g h.top] at hend
  obtain ⟨g₀, hg0⟩ := Option.isSome_iff_exists.mp h.top
  obtain ⟨r, hr⟩ := State.topJava?_eq_some.mp hg0
  have hr' : (({ U with heap := s₂.heap, slotsUsed := s₂.slotsUsed } : State).setVm s₂.vm).frames = .java g₀ :: r := hr
  rcases hq' with ⟨hqc, L, hfe, hL⟩ | ⟨q, rfl, E, ce, L, hx, hce, hcv, hcl, hW₂, hsm, hL⟩
  · obtain ⟨⟨v, rfl⟩, hW₂, e2, q2, q3, q4, q5, q6⟩ := id hfe
    have e3 : s₂ = ({ (U.calling g mk a).setFrames s₂.frames with heap := s₂.heap, slotsUsed := s₂.slotsUsed } : State).setVm s₂.vm := by
      have : s₂ = ({ s₂ with vm := (U.calling g mk a).vm } : State).setVm s₂.vm := rfl
      rw [e2] at this
      exact this
    obtain ⟨c₂, i₂, len₂, hc₂, hd₂, hf₂⟩ := hend
    have hW' : U.WarmedH s₂.vm := hW₂
    have hcc : c₂ = c := by
      have h1 : s₂.code? g.method = U.code? g.method := by
        rw [State.code?_eq, State.code?_eq, hW'.alike.method?]
      exact Option.some.inj (hc₂.symm.trans (h1.trans h.code))
    subst hcc
    have hlen : len₂ = len := by rw [hdg] at hd₂; cases hd₂; rfl
    subst hlen
    have hs₂ : s₂ = (({ U with heap := s₂.heap, slotsUsed := s₂.slotsUsed } : State).setVm s₂.vm).setTop { g with pc := g.pc + len₂, stack := v.toList ++ g.stack } := by
      refine e3.trans ?_
      rw [hf₂, State.calling_eq h.top, State.setFrames_setFrames, State.setTop_of_frames _ hr', hr]
      rfl
    have hsame : U.sameButNew ({ U with heap := s₂.heap, slotsUsed := s₂.slotsUsed } : State) L mc ms := by
      refine ⟨?_, q2, q3, q4, q5, q6⟩
      obtain ⟨t, ht, -⟩ := State.frames_cons hr
      show ({ U with heap := s₂.heap, slotsUsed := s₂.slotsUsed } : State) = { U.setFrames U.frames with heap := s₂.heap, slotsUsed := s₂.slotsUsed }
      rw [State.setFrames_self ht]
    subst hg
    refine Or.inl ⟨v, ⟨(({ U with heap := s₂.heap, slotsUsed := s₂.slotsUsed } : State).setVm s₂.vm), Ls ++ L, c0 + mc, s0 + ms⟩,
      ⟨X.admits, X.cas, X.clock, X.frames, X.room, X.hears, X.method, X.code, (X.here.setHeapUsed s₂.heap s₂.slotsUsed).setVm hW'.alike, X.tail, State.WarmedH.trans X.warmed hW', X.limits, X.bytes, X.same.trans (hsame.setVm s.vm)⟩,
      ⟨g, mk, s₂, L, rfl, rfl, hqc, rfl, hL, rfl, rfl⟩, ?_⟩
    show Steps p.tables e below _ ((({ U with heap := s₂.heap, slotsUsed := s₂.slotsUsed } : State).setVm s₂.vm).setTop { g with pc := g.pc + len₂, stack := v.toList ++ g.stack })
    rw [← hs₂]
    exact hsteps
  · obtain ⟨e2, q2, q3, q4, q5, q6⟩ := id hsm
    have e3 : s₂ = ({ (U.calling g mk a).setFrames s₂.frames with heap := s₂.heap, slotsUsed := s₂.slotsUsed } : State).setVm s₂.vm := by
      have : s₂ = ({ s₂ with vm := (U.calling g mk a).vm } : State).setVm s₂.vm := rfl
      rw [e2] at this
      exact this
    have hf₂ : s₂.frames = .throwing q :: .java g :: U.frames.tail := hend
    have hW' : U.WarmedH s₂.vm := hW₂
    have hs₂ : s₂ = ((({ U with heap := s₂.heap, slotsUsed := s₂.slotsUsed } : State).setVm s₂.vm).setTop g).pushFrame (.throwing q) := by
      refine e3.trans ?_
      rw [hf₂, State.calling_eq h.top, State.setFrames_setFrames, State.pushFrame, State.frames_setTop _ hr', State.setTop_of_frames _ hr', State.setFrames_setFrames, hr]
      rfl
    have hsame : U.sameButNew ({ U with heap := s₂.heap, slotsUsed := s₂.slotsUsed } : State) L mc ms := by
      refine ⟨?_, q2, q3, q4, q5, q6⟩
      obtain ⟨t, ht, -⟩ := State.frames_cons hr
      show ({ U with heap := s₂.heap, slotsUsed := s₂.slotsUsed } : State) = { U.setFrames U.frames with heap := s₂.heap, slotsUsed := s₂.slotsUsed }
      rw [State.setFrames_self ht]
    subst hg
    refine Or.inr ⟨q, ⟨(({ U with heap := s₂.heap, slotsUsed := s₂.slotsUsed } : State).setVm s₂.vm), Ls ++ L, c0 + mc, s0 + ms⟩,
      ⟨X.admits, X.cas, X.clock, X.frames, X.room, X.hears, X.method, X.code, (X.here.setHeapUsed s₂.heap s₂.slotsUsed).setVm hW'.alike, X.tail, State.WarmedH.trans X.warmed hW', X.limits, X.bytes, X.same.trans (hsame.setVm s.vm)⟩,
      ⟨g, mk, s₂, L, E, ce, rfl, rfl, hx, hce, hcv, hcl, rfl, hL, rfl, rfl⟩, ?_⟩
    show Steps p.tables e below _ (((({ U with heap := s₂.heap, slotsUsed := s₂.slotsUsed } : State).setVm s₂.vm).setTop g).pushFrame (.throwing q))
    rw [← hs₂]
    exact hsteps
end Payer
section Calls
variable {p : Program} {l : Launch} {e : Env} {R : Room} {s : State} {m : MethodId} {args : Array Value} {below : List Frame} {meth : Method} {c : Code} {T : State} {locs : List Loc} {cells slots : Nat}
theorem vx_callV (X : Stand p l e R s m args below meth c T locs cells slots) (hexec : p.tables.exec = Jvm.exec) {own C : String} {index : Nat} {y : MethodName} {bytes : ByteArray} {maxL : Nat} {ret : Option FieldType}
    (hown : s.vm.findClass own = some m.cls) (hlink : (Cond.methodLink own index y).before args s = true) (hinst : (Cond.instanceMethod y).before args s = true) (hsel : (Cond.selects C y y).before args s = true)
    (hcode : (Cond.code y bytes maxL ret).before args s = true) (hy : y.cls ≠ "java/lang/invoke/MethodHandle" ∧ y.cls ≠ "java/lang/invoke/VarHandle")
    {W9 : Nat} {Pre : Pt → Array Value → Prop} {Post : Pt → Array Value → Option Value → Pt → Prop} {PostX : Pt → Array Value → Addr → Pt → Prop} (hK : vx_Back l R p e below s args y 3 W9 Pre Post PostX)
    {b : Addr} {cellB : Cell} (hcell : T.heap[b]? = some cellB) (hobj : cellB.vm.isStatics = false) (hcls : s.vm.findClass C = some cellB.cls)
    {g : JFrame} (hg : g.method = m) (hsize : g.locals.size = c.maxLocals) {argsL rest : List Value} (hlen : ∀ sig, parseMethodDescriptor y.desc = some sig → argsL.length = sig.parameters.length)
    (hstack : g.stack = argsL.reverse ++ .ref b :: rest) (hW : 2 * g.monitorRoom + (rest.map fun v => v.category).sum ≤ W9) (hdg : decode c.code g.pc = .ok (.invokevirtual index, 3))
    (hpre : ∀ vm₁, s.WarmedH vm₁ → Pre ⟨T.setVm vm₁, locs, cells, slots⟩ (Value.ref b :: argsL).toArray) :
    (∃ (v : Option Value) (vm₁ : Vm) (B : Pt), s.WarmedH vm₁ ∧ Stand p l e R s m args below meth c B.U B.locs B.cells B.slots ∧ Post ⟨T.setVm vm₁, locs, cells, slots⟩ (Value.ref b :: argsL).toArray v B ∧
      ∀ target, Steps p.tables e below (B.U.setTop { g with pc := g.pc + 3, stack := v.toList ++ rest }) target → Steps p.tables e below (T.setTop g) target) ∨
    (∃ (q : Addr) (vm₁ : Vm) (B : Pt), s.WarmedH vm₁ ∧ Stand p l e R s m args below meth c B.U B.locs B.cells B.slots ∧ PostX ⟨T.setVm vm₁, locs, cells, slots⟩ (Value.ref b :: argsL).toArray q B ∧
      Steps p.tables e below (T.setTop g) ((B.U.setTop { g with stack := rest }).pushFrame (.throwing q))) := by
  obtain ⟨mk, methM, hnamed, hmethM, hstM, habM⟩ := Cond.instanceMethod_spec hinst
  obtain ⟨methM', cM, hmethM', -, -, -, -, -, -, hsigM⟩ := Cond.code_spec hnamed hcode
  cases hmethM.symm.trans hmethM'
  obtain ⟨c2, r2, m2, q1, q2, q3, q4, kP, hkP, hkPi⟩ := Cond.selects_spec hsel
  cases hcls.symm.trans q1
  cases (State.methodFound?_of_named hnamed hy).symm.trans q2
  cases hnamed.symm.trans q3
  have hselP : selectMethod e.platform s.vm cellB.cls mk = .method mk := by rw [Launch.admits_selectMethod X.admits]; exact q4
  obtain ⟨vm₁, X₁, hstep₁⟩ := X.invokevirtual hexec hown hlink hnamed hmethM hstM hkP hkPi hy (a := b) (cell := cellB) hcell
    (fun z h => by rw [h] at hobj; cases hobj) hselP hmethM habM hkP hkPi (g := g) hg (argsL := argsL) (rest := rest) (hlen _ hsigM) hstack hdg
  rcases hK m meth c ⟨T.setVm vm₁, locs, cells, slots⟩ { g with stack := rest } (.invokevirtual index) mk (Value.ref b :: argsL).toArray X₁ hg hsize hdg hW (X₁.named hnamed) (hpre vm₁ X₁.warmed) with ⟨v, B, X', hpost, hsteps⟩ | ⟨q, B, X', hpost, hsteps⟩
  · exact Or.inl ⟨v, vm₁, B, X₁.warmed, X', hpost, fun target h => hstep₁ _ fun acts => by rw [doInvoke_state]; exact hsteps.trans h⟩
  · exact Or.inr ⟨q, vm₁, B, X₁.warmed, X', hpost, hstep₁ _ fun acts => by rw [doInvoke_state]; exact hsteps⟩
theorem vx_callS (X : Stand p l e R s m args below meth c T locs cells slots) (hexec : p.tables.exec = Jvm.exec) {own : String} {index : Nat} {y : MethodName} {bytes : ByteArray} {maxL : Nat} {ret : Option FieldType}
    (hown : s.vm.findClass own = some m.cls) (hlink : (Cond.methodLink own index y).before args s = true) (hstat : (Cond.static y).before args s = true) (hinit : (Cond.initialized y.cls).before args s = true)
    (hcode : (Cond.code y bytes maxL ret).before args s = true) (hy : y.cls ≠ "java/lang/invoke/MethodHandle" ∧ y.cls ≠ "java/lang/invoke/VarHandle")
    {W9 : Nat} {Pre : Pt → Array Value → Prop} {Post : Pt → Array Value → Option Value → Pt → Prop} {PostX : Pt → Array Value → Addr → Pt → Prop} (hK : vx_Back l R p e below s args y 3 W9 Pre Post PostX)
    {g : JFrame} (hg : g.method = m) (hsize : g.locals.size = c.maxLocals) {argsL rest : List Value} (hlen : ∀ sig, parseMethodDescriptor y.desc = some sig → argsL.length = sig.parameters.length)
    (hstack : g.stack = argsL.reverse ++ rest) (hW : 2 * g.monitorRoom + (rest.map fun v => v.category).sum ≤ W9) (hdg : decode c.code g.pc = .ok (.invokestatic index, 3))
    (hpre : ∀ vm₁, s.WarmedH vm₁ → Pre ⟨T.setVm vm₁, locs, cells, slots⟩ argsL.toArray) :
    (∃ (v : Option Value) (vm₁ : Vm) (B : Pt), s.WarmedH vm₁ ∧ Stand p l e R s m args below meth c B.U B.locs B.cells B.slots ∧ Post ⟨T.setVm vm₁, locs, cells, slots⟩ argsL.toArray v B ∧
      ∀ target, Steps p.tables e below (B.U.setTop { g with pc := g.pc + 3, stack := v.toList ++ rest }) target → Steps p.tables e below (T.setTop g) target) ∨
    (∃ (q : Addr) (vm₁ : Vm) (B : Pt), s.WarmedH vm₁ ∧ Stand p l e R s m args below meth c B.U B.locs B.cells B.slots ∧ PostX ⟨T.setVm vm₁, locs, cells, slots⟩ argsL.toArray q B ∧
      Steps p.tables e below (T.setTop g) ((B.U.setTop { g with stack := rest }).pushFrame (.throwing q))) := by
  obtain ⟨mk, hnamed⟩ := Cond.code_named hcode
  obtain ⟨methM, cM, hmethM, -, -, -, -, -, -, hsigM⟩ := Cond.code_spec hnamed hcode
  have hstatic : methM.isStatic = true := Cond.static_spec hnamed hmethM hstat
  obtain ⟨kP, hkP, -⟩ := className_of_methodNamed hnamed
  have hinitP : kP.init = .initialized := Cond.initialized_spec (findClass_of_methodNamed hnamed) hkP hinit
  obtain ⟨vm₁, X₁, hstep₁⟩ := X.invokestatic hexec hown hlink hnamed hmethM hstatic hkP hinitP hy (g := g) hg (argsL := argsL) (rest := rest) (hlen _ hsigM) hstack hdg
  rcases hK m meth c ⟨T.setVm vm₁, locs, cells, slots⟩ { g with stack := rest } (.invokestatic index) mk argsL.toArray X₁ hg hsize hdg hW (X₁.named hnamed) (hpre vm₁ X₁.warmed) with ⟨v, B, X', hpost, hsteps⟩ | ⟨q, B, X', hpost, hsteps⟩
  · exact Or.inl ⟨v, vm₁, B, X₁.warmed, X', hpost, fun target h => hstep₁ _ fun acts => by rw [doInvoke_state]; exact hsteps.trans h⟩
  · exact Or.inr ⟨q, vm₁, B, X₁.warmed, X', hpost, hstep₁ _ fun acts => by rw [doInvoke_state]; exact hsteps⟩
end Calls
theorem vx_cls {s : State} {T : State} {vm₁ : Vm} {E : String} {k : ClassId} (hW : s.WarmedH vm₁) (h : (T.setVm vm₁).vm.findClass E = some k) : s.vm.findClass E = some k := by
  have h1 : vm₁.findClass E = some k := h
  rw [hW.alike.findClass] at h1
  exact h1
/-- the method's frame g, with q thrown over it -/
def vx_W (p : Program) (l : Launch) (e : Env) (R : Room) (s : State) (m : MethodId) (args : Array Value) (below : List Frame) (meth : Method) (c : Code) (H : Heap) (locs : List Loc) (cells slots : Nat) (Q : State → Prop) (g : JFrame) (q : Addr) : Prop :=
  ∀ T : State, T.heap = H → Stand p l e R s m args below meth c T locs cells slots → ∃ t, Steps p.tables e below ((T.setTop g).pushFrame (.throwing q)) t ∧ Q t
def vx_Run (p : Program) (l : Launch) (e : Env) (R : Room) (s : State) (m : MethodId) (args : Array Value) (below : List Frame) (meth : Method) (c : Code) (H : Heap) (locs : List Loc) (cells slots mc ms : Nat) (g : JFrame) (rest : List Value) (Qa : State → Outcome → State → Prop) (XC : String → State → State → Prop) (free : Addr → Prop) : Prop :=
  ∀ T : State, T.heap = H → Stand p l e R s m args below meth c T locs cells slots →
    (∃ (v : Option Value) (st₀ t T' : State) (L : List Loc), st₀.heap = H ∧ Stand p l e R s m args below meth c T' (locs ++ L) (cells + mc) (slots + ms) ∧ (∀ q ∈ L, free q.base) ∧ T'.heap = t.heap ∧ T'.vm = t.vm ∧ Qa st₀ (.returned v) t ∧
      Goes p e below T g T' { g with pc := g.pc + 3, stack := v.toList ++ rest }) ∨
    (∃ (q : Addr) (st₀ t T' : State) (L : List Loc) (E : String) (ce : Cell), st₀.heap = H ∧ Stand p l e R s m args below meth c T' (locs ++ L) (cells + mc) (slots + ms) ∧ (∀ z ∈ L, free z.base) ∧ T'.heap = t.heap ∧ T'.vm = t.vm ∧ XC E st₀ t ∧ t.heap[q]? = some ce ∧ ce.vm = .none ∧ s.vm.findClass E = some ce.cls ∧
      Steps p.tables e below (T.setTop g) ((T'.setTop { g with stack := rest }).pushFrame (.throwing q)))
def vx_X {S : Type} (px : S → Prop) (B : String → S → State → Prop) (A : Nat → Prop) : String → State → State → Prop := fun E st t => ∃ u : S, px u ∧ B E u t ∧ va_F A st t
section Runs
variable {p : Program} {l : Launch} {e : Env} {R : Room} {s : State} {m : MethodId} {args : Array Value} {below : List Frame} {meth : Method} {c : Code} {H : Heap} {locs : List Loc} {cells slots : Nat}
variable {y : MethodName} {bytes cc : ByteArray} {maxL nL mc ms n index : Nat} {ret : Option FieldType} {ws : List Cond} {rm : Room} {Pc : Array Value → State → Prop} {Qc : Array Value → State → Outcome → State → Prop} {XC : String → State → State → Prop} {free : Addr → Prop} {Ts : List Cond} {own C : String} {b : Addr} {As rest : List Value} {g : JFrame}
theorem vx_callBack (cb : CallB R s args own index y bytes maxL ret ws rm mc ms n) (hM : vx_Met l y ws rm Pc Qc XC mc ms free) (hbl : FrameBlind Pc) : vx_Back l R p e below s args y 3 8 (PreOf R mc ms Pc) (PostOf Qc mc ms free) (vx_Post XC mc ms free) := by
  obtain ⟨hrc, hrs, hfr, hlo, hws, hcw, -, hini, -⟩ := cb
  exact vx_back (bytes := bytes) (maxL := maxL) (ret := ret) hM hbl hrc hrs hfr hlo hws hcw (fun a' U hW => word_at hW (Or.inl (by first | rfl | simp [Cond.onTables, Cond.keeps, Cond.steady])) hini)
theorem vx_runV (S : CallFix p m c cc nL s args Ts own) (hM : vx_Met l y ws rm Pc Qc XC mc ms free) (cw : CallW R s args own C index y bytes maxL ret ws rm mc ms n) (hp : PreV s H C b Pc As)
    (hg : g.method = m) (hn : As.length = n) (hsize : g.locals.size = nL) (hstack : g.stack = As.reverse ++ .ref b :: rest) (hW : 2 * g.monitorRoom + (rest.map fun v => v.category).sum ≤ 8) (hdg : decode cc g.pc = .ok (.invokevirtual index, 3)) (hf : cells + mc ≤ R.cells ∧ slots + ms ≤ R.slots) :
    vx_Run p l e R s m args below meth c H locs cells slots mc ms g rest (Qc (Value.ref b :: As).toArray) XC free := by
  have hK : vx_Back l R p e below s args y 3 8 (PreOf R mc ms Pc) (PostOf Qc mc ms free) (vx_Post XC mc ms free) := vx_callBack cw.1 hM hp.1
  obtain ⟨⟨-, -, -, -, -, -, hcode, -, hy, hlen, hl⟩, hin, hse⟩ := cw
  obtain ⟨hx, hb, hml, ho, -⟩ := S
  obtain ⟨-, ⟨cellB, hcB, hoB, hclB⟩, hPc⟩ := hp
  intro T hT X
  rcases vx_callV X hx (C := C) (bytes := bytes) (maxL := maxL) (ret := ret) ho hl hin hse hcode hy hK (by rw [hT]; exact hcB) hoB hclB hg (hsize.trans hml.symm) (argsL := As) (rest := rest) (fun sig h => hn.trans (hlen sig h)) hstack hW (by rw [hb]; exact hdg)
    (fun vm₁ hW₁ => ⟨hf.1, hf.2, hPc (T.setVm vm₁) hT hW₁⟩) with ⟨v, vm₁, ⟨U', l2, c2, s2⟩, hW₁, X', ⟨g', mk, t, L, e1, e2, hq, h1, hL, h2, h3⟩, st⟩ | ⟨q, vm₁, ⟨U', l2, c2, s2⟩, hW₁, X', ⟨g', mk, t, L, E, ce, e1, e2, hq, hce, hcv, hcl, h1, hL, h2, h3⟩, st⟩
  · dsimp only [Pt.U, Pt.locs, Pt.cells, Pt.slots] at X' e1 e2 h1 h2 h3 st
    subst h1; subst h2; subst h3
    exact Or.inl ⟨v, (T.setVm vm₁).calling g' mk (Value.ref b :: As).toArray, t, U', L, hT, X', hL, e1, e2, hq, st⟩
  · dsimp only [Pt.U, Pt.locs, Pt.cells, Pt.slots] at X' e1 e2 h1 h2 h3 st hcl
    subst h1; subst h2; subst h3
    exact Or.inr ⟨q, (T.setVm vm₁).calling g' mk (Value.ref b :: As).toArray, t, U', L, E, ce, hT, X', hL, e1, e2, hq, hce, hcv, vx_cls hW₁ hcl, st⟩
theorem vx_runS (S : CallFix p m c cc nL s args Ts own) (hM : vx_Met l y ws rm Pc Qc XC mc ms free) (cw : CallB R s args own index y bytes maxL ret ws rm mc ms n ∧ (Cond.static y).before args s = true) (hp : PreS s H Pc As)
    (hg : g.method = m) (hn : As.length = n) (hsize : g.locals.size = nL) (hstack : g.stack = As.reverse ++ rest) (hW : 2 * g.monitorRoom + (rest.map fun v => v.category).sum ≤ 8) (hdg : decode cc g.pc = .ok (.invokestatic index, 3)) (hf : cells + mc ≤ R.cells ∧ slots + ms ≤ R.slots) :
    vx_Run p l e R s m args below meth c H locs cells slots mc ms g rest (Qc As.toArray) XC free := by
  have hK : vx_Back l R p e below s args y 3 8 (PreOf R mc ms Pc) (PostOf Qc mc ms free) (vx_Post XC mc ms free) := vx_callBack cw.1 hM hp.1
  obtain ⟨⟨-, -, -, -, -, -, hcode, hini, hy, hlen, hl⟩, hstt⟩ := cw
  obtain ⟨hx, hb, hml, ho, -⟩ := S
  intro T hT X
  rcases vx_callS X hx (bytes := bytes) (maxL := maxL) (ret := ret) ho hl hstt hini hcode hy hK hg (hsize.trans hml.symm) (argsL := As) (rest := rest) (fun sig h => hn.trans (hlen sig h)) hstack hW (by rw [hb]; exact hdg)
    (fun vm₁ hW₁ => ⟨hf.1, hf.2, hp.2 (T.setVm vm₁) hT hW₁⟩) with ⟨v, vm₁, ⟨U', l2, c2, s2⟩, hW₁, X', ⟨g', mk, t, L, e1, e2, hq, h1, hL, h2, h3⟩, st⟩ | ⟨q, vm₁, ⟨U', l2, c2, s2⟩, hW₁, X', ⟨g', mk, t, L, E, ce, e1, e2, hq, hce, hcv, hcl, h1, hL, h2, h3⟩, st⟩
  · dsimp only [Pt.U, Pt.locs, Pt.cells, Pt.slots] at X' e1 e2 h1 h2 h3 st
    subst h1; subst h2; subst h3
    exact Or.inl ⟨v, (T.setVm vm₁).calling g' mk As.toArray, t, U', L, hT, X', hL, e1, e2, hq, st⟩
  · dsimp only [Pt.U, Pt.locs, Pt.cells, Pt.slots] at X' e1 e2 h1 h2 h3 st hcl
    subst h1; subst h2; subst h3
    exact Or.inr ⟨q, (T.setVm vm₁).calling g' mk As.toArray, t, U', L, E, ce, hT, X', hL, e1, e2, hq, hce, hcv, vx_cls hW₁ hcl, st⟩
end Runs
section Rows
variable {p : Program} {l : Launch} {e : Env} {R : Room} {s : State} {m : MethodId} {args : Array Value} {below : List Frame} {meth : Method} {c : Code} {H : Heap} {locs : List Loc} {cells slots : Nat} {Q : State → Prop}
variable {mc ms : Nat} {free : Addr → Prop} {A0 A1 : Nat → Prop} {H0 : Heap} {a : Array Value} {pc : Nat} {ls : Array Slot} {st0 rest : List Value}
theorem vx_keep {st₀ t T' : State} {L : List Loc} (h0 : st₀.heap = H) (e1 : T'.heap = t.heap) (hS : va_S A0 H0 H locs) (hA : ∀ q, q < H.size → A1 q → A0 q) (hf : ∀ q, free q → A0 q) (hL : ∀ q ∈ L, free q.base) (hF : va_F A1 st₀ t) :
    H.size ≤ T'.heap.size ∧ (∀ q : Nat, q < H.size → ¬ A1 q → T'.heap[q]? = H[q]?) ∧ va_S A0 H0 T'.heap (locs ++ L) := by
  obtain ⟨hz, hk⟩ := hF
  rw [h0] at hz hk
  exact ⟨by rw [e1]; exact hz, fun q h1 h2 => by rw [e1]; exact hk q h1 h2,
    ⟨Nat.le_trans hS.1 (by rw [e1]; exact hz), fun q h1 h2 => by rw [e1, hk q (Nat.lt_of_lt_of_le h1 hS.1) (fun z => h2 (hA q (Nat.lt_of_lt_of_le h1 hS.1) z))]; exact hS.2.1 q h1 h2, fun q hq => by
      rcases List.mem_append.mp hq with h | h
      · exact hS.2.2 q h
      · exact hf _ (hL q h)⟩⟩
theorem vx_calli {S SX : Type} {post : Int32 → S → Prop} {px : SX → Prop} {B : S → State → Prop} {BX : String → SX → State → Prop} {AX : Nat → Prop} (hr : vx_Run p l e R s m args below meth c H locs cells slots mc ms (F0 m pc ls st0) rest (va_Qi post B A1 a) (vx_X px BX AX) free) (hS : va_S A0 H0 H locs) (hA : ∀ q, q < H.size → A1 q → A0 q) (hf : ∀ q, free q → A0 q) (hAX : ∀ q, q < H.size → AX q → A0 q)
    (kx : ∀ (E : String) (ce : Cell) (q9 : Addr) (u : SX) (t : State) (H1 : Heap) (locs1 : List Loc), t.heap = H1 → s.vm.Alike t.vm → px u → BX E u t → H.size ≤ H1.size → (∀ q : Nat, q < H.size → ¬ AX q → H1[q]? = H[q]?) → va_S A0 H0 H1 locs1 → H1[q9]? = some ce → ce.vm = .none → s.vm.findClass E = some ce.cls → vx_W p l e R s m args below meth c H1 locs1 (cells + mc) (slots + ms) Q (F0 m pc ls rest) q9)
    (kk : ∀ (r : Int32) (u : S) (t : State) (H1 : Heap) (locs1 : List Loc), t.heap = H1 → s.vm.Alike t.vm → post r u → B u t → H.size ≤ H1.size → (∀ q : Nat, q < H.size → ¬ A1 q → H1[q]? = H[q]?) → va_S A0 H0 H1 locs1 → W p l e R s m args below meth c H1 locs1 (cells + mc) (slots + ms) Q (F0 m (pc + 3) ls (.int r :: rest))) : W p l e R s m args below meth c H locs cells slots Q (F0 m pc ls st0) := by
  intro T hT X
  rcases hr T hT X with ⟨v, st₀, t, T', L, h0, X', hL, e1, e2, ⟨⟨r, u, hv, hp, hb⟩, hF⟩, st⟩ | ⟨q, st₀, t, T', L, E, ce, h0, X', hL, e1, e2, ⟨u, hp, hb, hF⟩, hce, hcv, hcl, st⟩
  · cases hv
    obtain ⟨k1, k2, k3⟩ := vx_keep h0 e1 hS hA hf hL hF
    obtain ⟨t2, a1, b1⟩ := kk r u t T'.heap (locs ++ L) e1.symm (by rw [← e2]; exact X'.warmed.alike) hp hb k1 k2 k3 T' rfl X'
    exact ⟨t2, st t2 a1, b1⟩
  · obtain ⟨k1, k2, k3⟩ := vx_keep h0 e1 hS hAX hf hL hF
    obtain ⟨t2, a1, b1⟩ := kx E ce q u t T'.heap (locs ++ L) e1.symm (by rw [← e2]; exact X'.warmed.alike) hp hb k1 k2 k3 (by rw [e1]; exact hce) hcv hcl T' rfl X'
    exact ⟨t2, st.trans a1, b1⟩
theorem vx_calll {S SX : Type} {post : Int64 → S → Prop} {px : SX → Prop} {B : S → State → Prop} {BX : String → SX → State → Prop} {AX : Nat → Prop} (hr : vx_Run p l e R s m args below meth c H locs cells slots mc ms (F0 m pc ls st0) rest (va_Ql post B A1 a) (vx_X px BX AX) free) (hS : va_S A0 H0 H locs) (hA : ∀ q, q < H.size → A1 q → A0 q) (hf : ∀ q, free q → A0 q) (hAX : ∀ q, q < H.size → AX q → A0 q)
    (kx : ∀ (E : String) (ce : Cell) (q9 : Addr) (u : SX) (t : State) (H1 : Heap) (locs1 : List Loc), t.heap = H1 → s.vm.Alike t.vm → px u → BX E u t → H.size ≤ H1.size → (∀ q : Nat, q < H.size → ¬ AX q → H1[q]? = H[q]?) → va_S A0 H0 H1 locs1 → H1[q9]? = some ce → ce.vm = .none → s.vm.findClass E = some ce.cls → vx_W p l e R s m args below meth c H1 locs1 (cells + mc) (slots + ms) Q (F0 m pc ls rest) q9)
    (kk : ∀ (r : Int64) (u : S) (t : State) (H1 : Heap) (locs1 : List Loc), t.heap = H1 → s.vm.Alike t.vm → post r u → B u t → H.size ≤ H1.size → (∀ q : Nat, q < H.size → ¬ A1 q → H1[q]? = H[q]?) → va_S A0 H0 H1 locs1 → W p l e R s m args below meth c H1 locs1 (cells + mc) (slots + ms) Q (F0 m (pc + 3) ls (.long r :: rest))) : W p l e R s m args below meth c H locs cells slots Q (F0 m pc ls st0) := by
  intro T hT X
  rcases hr T hT X with ⟨v, st₀, t, T', L, h0, X', hL, e1, e2, ⟨⟨r, u, hv, hp, hb⟩, hF⟩, st⟩ | ⟨q, st₀, t, T', L, E, ce, h0, X', hL, e1, e2, ⟨u, hp, hb, hF⟩, hce, hcv, hcl, st⟩
  · cases hv
    obtain ⟨k1, k2, k3⟩ := vx_keep h0 e1 hS hA hf hL hF
    obtain ⟨t2, a1, b1⟩ := kk r u t T'.heap (locs ++ L) e1.symm (by rw [← e2]; exact X'.warmed.alike) hp hb k1 k2 k3 T' rfl X'
    exact ⟨t2, st t2 a1, b1⟩
  · obtain ⟨k1, k2, k3⟩ := vx_keep h0 e1 hS hAX hf hL hF
    obtain ⟨t2, a1, b1⟩ := kx E ce q u t T'.heap (locs ++ L) e1.symm (by rw [← e2]; exact X'.warmed.alike) hp hb k1 k2 k3 (by rw [e1]; exact hce) hcv hcl T' rfl X'
    exact ⟨t2, st.trans a1, b1⟩
theorem vx_callf {S SX : Type} {post : UInt32 → S → Prop} {px : SX → Prop} {B : S → State → Prop} {BX : String → SX → State → Prop} {AX : Nat → Prop} (hr : vx_Run p l e R s m args below meth c H locs cells slots mc ms (F0 m pc ls st0) rest (va_Qf post B A1 a) (vx_X px BX AX) free) (hS : va_S A0 H0 H locs) (hA : ∀ q, q < H.size → A1 q → A0 q) (hf : ∀ q, free q → A0 q) (hAX : ∀ q, q < H.size → AX q → A0 q)
    (kx : ∀ (E : String) (ce : Cell) (q9 : Addr) (u : SX) (t : State) (H1 : Heap) (locs1 : List Loc), t.heap = H1 → s.vm.Alike t.vm → px u → BX E u t → H.size ≤ H1.size → (∀ q : Nat, q < H.size → ¬ AX q → H1[q]? = H[q]?) → va_S A0 H0 H1 locs1 → H1[q9]? = some ce → ce.vm = .none → s.vm.findClass E = some ce.cls → vx_W p l e R s m args below meth c H1 locs1 (cells + mc) (slots + ms) Q (F0 m pc ls rest) q9)
    (kk : ∀ (r : UInt32) (u : S) (t : State) (H1 : Heap) (locs1 : List Loc), t.heap = H1 → s.vm.Alike t.vm → post r u → B u t → H.size ≤ H1.size → (∀ q : Nat, q < H.size → ¬ A1 q → H1[q]? = H[q]?) → va_S A0 H0 H1 locs1 → W p l e R s m args below meth c H1 locs1 (cells + mc) (slots + ms) Q (F0 m (pc + 3) ls (.float r :: rest))) : W p l e R s m args below meth c H locs cells slots Q (F0 m pc ls st0) := by
  intro T hT X
  rcases hr T hT X with ⟨v, st₀, t, T', L, h0, X', hL, e1, e2, ⟨⟨r, u, hv, hp, hb⟩, hF⟩, st⟩ | ⟨q, st₀, t, T', L, E, ce, h0, X', hL, e1, e2, ⟨u, hp, hb, hF⟩, hce, hcv, hcl, st⟩
  · cases hv
    obtain ⟨k1, k2, k3⟩ := vx_keep h0 e1 hS hA hf hL hF
    obtain ⟨t2, a1, b1⟩ := kk r u t T'.heap (locs ++ L) e1.symm (by rw [← e2]; exact X'.warmed.alike) hp hb k1 k2 k3 T' rfl X'
    exact ⟨t2, st t2 a1, b1⟩
  · obtain ⟨k1, k2, k3⟩ := vx_keep h0 e1 hS hAX hf hL hF
    obtain ⟨t2, a1, b1⟩ := kx E ce q u t T'.heap (locs ++ L) e1.symm (by rw [← e2]; exact X'.warmed.alike) hp hb k1 k2 k3 (by rw [e1]; exact hce) hcv hcl T' rfl X'
    exact ⟨t2, st.trans a1, b1⟩
theorem vx_calld {S SX : Type} {post : UInt64 → S → Prop} {px : SX → Prop} {B : S → State → Prop} {BX : String → SX → State → Prop} {AX : Nat → Prop} (hr : vx_Run p l e R s m args below meth c H locs cells slots mc ms (F0 m pc ls st0) rest (va_Qd post B A1 a) (vx_X px BX AX) free) (hS : va_S A0 H0 H locs) (hA : ∀ q, q < H.size → A1 q → A0 q) (hf : ∀ q, free q → A0 q) (hAX : ∀ q, q < H.size → AX q → A0 q)
    (kx : ∀ (E : String) (ce : Cell) (q9 : Addr) (u : SX) (t : State) (H1 : Heap) (locs1 : List Loc), t.heap = H1 → s.vm.Alike t.vm → px u → BX E u t → H.size ≤ H1.size → (∀ q : Nat, q < H.size → ¬ AX q → H1[q]? = H[q]?) → va_S A0 H0 H1 locs1 → H1[q9]? = some ce → ce.vm = .none → s.vm.findClass E = some ce.cls → vx_W p l e R s m args below meth c H1 locs1 (cells + mc) (slots + ms) Q (F0 m pc ls rest) q9)
    (kk : ∀ (r : UInt64) (u : S) (t : State) (H1 : Heap) (locs1 : List Loc), t.heap = H1 → s.vm.Alike t.vm → post r u → B u t → H.size ≤ H1.size → (∀ q : Nat, q < H.size → ¬ A1 q → H1[q]? = H[q]?) → va_S A0 H0 H1 locs1 → W p l e R s m args below meth c H1 locs1 (cells + mc) (slots + ms) Q (F0 m (pc + 3) ls (.double r :: rest))) : W p l e R s m args below meth c H locs cells slots Q (F0 m pc ls st0) := by
  intro T hT X
  rcases hr T hT X with ⟨v, st₀, t, T', L, h0, X', hL, e1, e2, ⟨⟨r, u, hv, hp, hb⟩, hF⟩, st⟩ | ⟨q, st₀, t, T', L, E, ce, h0, X', hL, e1, e2, ⟨u, hp, hb, hF⟩, hce, hcv, hcl, st⟩
  · cases hv
    obtain ⟨k1, k2, k3⟩ := vx_keep h0 e1 hS hA hf hL hF
    obtain ⟨t2, a1, b1⟩ := kk r u t T'.heap (locs ++ L) e1.symm (by rw [← e2]; exact X'.warmed.alike) hp hb k1 k2 k3 T' rfl X'
    exact ⟨t2, st t2 a1, b1⟩
  · obtain ⟨k1, k2, k3⟩ := vx_keep h0 e1 hS hAX hf hL hF
    obtain ⟨t2, a1, b1⟩ := kx E ce q u t T'.heap (locs ++ L) e1.symm (by rw [← e2]; exact X'.warmed.alike) hp hb k1 k2 k3 (by rw [e1]; exact hce) hcv hcl T' rfl X'
    exact ⟨t2, st.trans a1, b1⟩
theorem vx_callv {S SX : Type} {post : S → Prop} {px : SX → Prop} {B : S → State → Prop} {BX : String → SX → State → Prop} {AX : Nat → Prop} (hr : vx_Run p l e R s m args below meth c H locs cells slots mc ms (F0 m pc ls st0) rest (va_Qv post B A1 a) (vx_X px BX AX) free) (hS : va_S A0 H0 H locs) (hA : ∀ q, q < H.size → A1 q → A0 q) (hf : ∀ q, free q → A0 q) (hAX : ∀ q, q < H.size → AX q → A0 q)
    (kx : ∀ (E : String) (ce : Cell) (q9 : Addr) (u : SX) (t : State) (H1 : Heap) (locs1 : List Loc), t.heap = H1 → s.vm.Alike t.vm → px u → BX E u t → H.size ≤ H1.size → (∀ q : Nat, q < H.size → ¬ AX q → H1[q]? = H[q]?) → va_S A0 H0 H1 locs1 → H1[q9]? = some ce → ce.vm = .none → s.vm.findClass E = some ce.cls → vx_W p l e R s m args below meth c H1 locs1 (cells + mc) (slots + ms) Q (F0 m pc ls rest) q9)
    (kk : ∀ (u : S) (t : State) (H1 : Heap) (locs1 : List Loc), t.heap = H1 → s.vm.Alike t.vm → post u → B u t → H.size ≤ H1.size → (∀ q : Nat, q < H.size → ¬ A1 q → H1[q]? = H[q]?) → va_S A0 H0 H1 locs1 → W p l e R s m args below meth c H1 locs1 (cells + mc) (slots + ms) Q (F0 m (pc + 3) ls (rest))) : W p l e R s m args below meth c H locs cells slots Q (F0 m pc ls st0) := by
  intro T hT X
  rcases hr T hT X with ⟨v, st₀, t, T', L, h0, X', hL, e1, e2, ⟨⟨u, hv, hp, hb⟩, hF⟩, st⟩ | ⟨q, st₀, t, T', L, E, ce, h0, X', hL, e1, e2, ⟨u, hp, hb, hF⟩, hce, hcv, hcl, st⟩
  · cases hv
    obtain ⟨k1, k2, k3⟩ := vx_keep h0 e1 hS hA hf hL hF
    obtain ⟨t2, a1, b1⟩ := kk u t T'.heap (locs ++ L) e1.symm (by rw [← e2]; exact X'.warmed.alike) hp hb k1 k2 k3 T' rfl X'
    exact ⟨t2, st t2 a1, b1⟩
  · obtain ⟨k1, k2, k3⟩ := vx_keep h0 e1 hS hAX hf hL hF
    obtain ⟨t2, a1, b1⟩ := kx E ce q u t T'.heap (locs ++ L) e1.symm (by rw [← e2]; exact X'.warmed.alike) hp hb k1 k2 k3 (by rw [e1]; exact hce) hcv hcl T' rfl X'
    exact ⟨t2, st.trans a1, b1⟩
/-- caught by the row x of this method's table; the rows ahead don't take it -/
theorem vx_catch {own name : String} {E : String} {ce : Cell} {q : Addr} (hown : s.vm.findClass own = some m.cls) (pre : List ExceptionTableEntry) (x : ExceptionTableEntry) (suf : List ExceptionTableEntry) (hsplit : c.exceptionTable.toList = pre ++ x :: suf)
    (hpass : ∀ z ∈ pre, covers z pc = false ∨ (z.catchType ≠ 0 ∧ ∃ nm : String, (Cond.classLink own z.catchType nm).before args s = true ∧ va_Nc E nm s)) (hx : covers x pc = true) (h0 : x.catchType ≠ 0)
    (hlink : (Cond.classLink own x.catchType name).before args s = true) (hcast : (Cond.castable E name).before args s = true) (hcell : H[q]? = some ce) (hv : ce.vm = .none) (hcl : s.vm.findClass E = some ce.cls)
    (kk : W p l e R s m args below meth c H locs cells slots Q (F0 m x.handlerPc ls [.ref q])) : vx_W p l e R s m args below meth c H locs cells slots Q (F0 m pc ls rest) q := by
  intro T hT X
  have hpl : e.platform.magicAccessors = ({} : Platform).magicAccessors := by rw [X.admits.platform]
  obtain ⟨c3, c4, hc3, hc4, hasg⟩ := Cond.castable_spec hcast
  cases Option.some.inj (hc3.symm.trans hcl)
  obtain ⟨c5, hc5, hcl5⟩ := Cond.classLink_spec hown hlink e.platform hpl
  cases Option.some.inj (hc4.symm.trans hc5)
  obtain ⟨vm', X', st⟩ := X.thenCaughtThrough q (g := F0 m pc ls rest) rfl (Steps.refl _) (by rw [hT]; exact hcell) (by rw [hv]; rfl) (by obtain ⟨k9, h9, -⟩ := Vm.findClass_spec hcl; exact ⟨k9, h9⟩) pre x suf hsplit
    (fun z hz => by
      rcases hpass z hz with h | ⟨hz0, nm, hl1, hn1⟩
      · exact Or.inl h
      · obtain ⟨c6, hc6, hcl6⟩ := Cond.classLink_spec hown hl1 e.platform hpl
        obtain ⟨a8, b8, h1, h2, h3⟩ := hn1
        cases Option.some.inj (h1.symm.trans hcl)
        cases Option.some.inj (h2.symm.trans hc6)
        exact Or.inr ⟨hz0, _, hcl6, h3⟩) hx (Or.inr ⟨h0, c4, hcl5, hasg⟩)
  obtain ⟨t, a1, b1⟩ := kk (T.setVm vm') hT X'
  exact ⟨t, st.trans a1, b1⟩
end Rows
section Ends
variable {p : Program} {l : Launch} {e : Env} {R : Room} {s : State} {m : MethodId} {args : Array Value} {below : List Frame} {meth : Method} {c : Code} {H : Heap} {locs : List Loc} {cells slots : Nat} {Q : State → Prop}
variable {mc ms : Nat} {free : Addr → Prop} {A0 A1 : Nat → Prop} {H0 : Heap} {a : Array Value} {ls : Array Slot} {st0 rest : List Value}
variable {Qc : Array Value → State → Outcome → State → Prop} {XC : String → State → State → Prop}
/-- what a body that may throw owes at its end -/
def vx_MQ (below : List Frame) (Qc : Array Value → State → Outcome → State → Prop) (XC : String → State → State → Prop) (a : Array Value) (s : State) (mc ms : Nat) (free : Addr → Prop) : State → Prop := fun t =>
  ∃ o, t.status = .running ∧ Ended t below o ∧ vx_Q Qc XC mc ms free a s o t
theorem vx_ret {g : JFrame} {mc ms : Nat} (k : W p l e R s m args below meth c H locs cells slots (MQ below Qc args s mc ms free) g) : W p l e R s m args below meth c H locs cells slots (vx_MQ below Qc XC args s mc ms free) g := by
  intro T hT X
  obtain ⟨t, a1, o, b1, b2, b3, b4⟩ := k T hT X
  exact ⟨t, a1, o, b1, b2, Or.inl ⟨b3, b4⟩⟩
/-- not caught here: it goes on to the caller -/
theorem vx_widen {g : JFrame} {q : Addr} {k n : Nat} (h1 : cells ≤ k) (h2 : slots ≤ n) (kk : vx_W p l e R s m args below meth c H locs k n Q g q) : vx_W p l e R s m args below meth c H locs cells slots Q g q := fun T hT X => kk T hT (stand_widen X h1 h2)
theorem vx_out {pc : Nat} {E : String} {ce : Cell} {q : Addr} {mc ms : Nat} (hout : ∀ x ∈ c.exceptionTable.toList, covers x pc = false) (hlocks : meth.locks = false) (hcell : H[q]? = some ce) (hv : ce.vm = .none) (hcl : s.vm.findClass E = some ce.cls)
    (hx : ∀ t : State, t.heap = H → s.vm.Alike t.vm → XC E s t) (hf : ∀ z ∈ locs, free z.base) (hc : cells ≤ mc) (hs : slots ≤ ms) :
    vx_W p l e R s m args below meth c H locs cells slots (vx_MQ below Qc XC args s mc ms free) (F0 m pc ls rest) q := by
  intro T hT X
  obtain ⟨st1, hrun, hend, hW, hsm⟩ := X.leaveThrown q (g := F0 m pc ls rest) rfl rfl rfl hout hlocks
  have hcell9 : (T.setFrames (.throwing q :: below)).heap[q]? = some ce := by
    show T.heap[q]? = some ce
    rw [hT]; exact hcell
  exact ⟨_, st1, .threw q, hrun, hend, Or.inr ⟨q, rfl, E, ce, locs, hx _ hT hW.alike, hcell9, hv, hcl, hW, hsm.mono hc hs, hf⟩⟩
theorem vx_frame {U : State} {k n : Nat} (h : s.sameButNew ({ U with vm := s.vm } : State) locs k n) : s.heap.size ≤ U.heap.size ∧ ∀ q : Nat, q < s.heap.size → (∀ z ∈ locs, z.base ≠ q) → U.heap[q]? = s.heap[q]? := by
  obtain ⟨-, h2, -, -, -, h6⟩ := h
  refine ⟨h2, fun q hq hz => ?_⟩
  obtain ⟨c9, e1, e2, e3, e4⟩ := h6 q _ (Array.getElem?_eq_getElem hq)
  have hs : c9.slots = (s.heap[q]).slots := Array.ext_getElem? fun i => e4 i fun hm => hz _ hm rfl
  have h9 : c9 = s.heap[q] := by
    rw [hs] at e2
    exact e2
  have e5 : U.heap[q]? = some c9 := e1
  rw [e5, h9, Array.getElem?_eq_getElem hq]
/-- the words of a throw but the four that speak of the heap -/
def vx_no (w : Cond) : Bool := decide (w ≠ .isRef (.static Bundle.tN "UNASSIGNED_STACK" Bundle.steD)) && decide (w ≠ .isRef (.static Bundle.tN "SUPPRESSED_SENTINEL" Bundle.listD)) && decide (w ≠ .laysStatic Bundle.tN "UNASSIGNED_STACK" Bundle.steD) && decide (w ≠ .laysStatic Bundle.tN "SUPPRESSED_SENTINEL" Bundle.listD)
def vx_at0 (own : String) (ic : Nat) (X : String) (names : List String) : List Cond := (Bundle.ownAtoms0 own ic X names).filter vx_no
def vx_atS (own : String) (ic : Nat) (X : String) (names : List String) : List Cond := (Bundle.ownAtoms own ic X names).filter vx_no
/-- a word that the tables alone decide, or a good one -/
def vx_ot (w : Cond) : Bool := w.onTables || goodWord w
theorem vx_ot_at {args a' : Array Value} {s U : State} {w : Cond} (hW : s.WarmedH U.vm) (hvm : s.vm = U.vm) (hg : vx_ot w = true) (h : w.before args s = true) : w.before a' U = true := by
  simp only [vx_ot, Bool.or_eq_true] at hg
  rcases hg with hg | hg
  · exact va_tabs hg hvm h
  · exact word_at hW (good_of_word hg) h
/-- a list's words: the good ones out of the method's own list, the others by premises of their own -/
theorem vx_hat {args : Array Value} {s : State} {L B : List Cond} (h1 : ∀ w ∈ L.filter goodWord, w.before args s = true) (h2 : ∀ w ∈ L.filter (fun w => !goodWord w), w ∈ B) (h3 : ∀ w ∈ B, w.before args s = true) : ∀ w ∈ L, w.before args s = true := by
  intro w hw
  by_cases g : goodWord w = true
  · exact h1 w (List.mem_filter.mpr ⟨hw, g⟩)
  · refine h3 w (h2 w (List.mem_filter.mpr ⟨hw, ?_⟩))
    show (!goodWord w) = true
    cases hgw : goodWord w
    · rfl
    · exact absurd hgw g
theorem vx_c {args : Array Value} {s : State} {w : Cond} {B : List Cond} (h : w.before args s = true) (t : ∀ w ∈ B, w.before args s = true) : ∀ w' ∈ w :: B, w'.before args s = true := fun w' h' => (List.mem_cons.mp h').elim (fun e => by rw [e]; exact h) (t w')
theorem vx_n {args : Array Value} {s : State} : ∀ w ∈ ([] : List Cond), w.before args s = true := fun _ h => nomatch h
theorem vx_own {args : Array Value} {s : State} {L : List Cond} (h1 : ∀ w ∈ L.filter vx_no, w.before args s = true)
    (hU : (Cond.isRef (.static Bundle.tN "UNASSIGNED_STACK" Bundle.steD)).before args s = true) (hN : (Cond.isRef (.static Bundle.tN "SUPPRESSED_SENTINEL" Bundle.listD)).before args s = true)
    (lU : (Cond.laysStatic Bundle.tN "UNASSIGNED_STACK" Bundle.steD).before args s = true) (lN : (Cond.laysStatic Bundle.tN "SUPPRESSED_SENTINEL" Bundle.listD).before args s = true) : ∀ w ∈ L, w.before args s = true := by
  intro w hw
  by_cases e1 : w = .isRef (.static Bundle.tN "UNASSIGNED_STACK" Bundle.steD)
  · rw [e1]; exact hU
  · by_cases e2 : w = .isRef (.static Bundle.tN "SUPPRESSED_SENTINEL" Bundle.listD)
    · rw [e2]; exact hN
    · by_cases e3 : w = .laysStatic Bundle.tN "UNASSIGNED_STACK" Bundle.steD
      · rw [e3]; exact lU
      · by_cases e4 : w = .laysStatic Bundle.tN "SUPPRESSED_SENTINEL" Bundle.listD
        · rw [e4]; exact lN
        · exact h1 w (List.mem_filter.mpr ⟨hw, by unfold vx_no; rw [decide_eq_true e1, decide_eq_true e2, decide_eq_true e3, decide_eq_true e4]; rfl⟩)
/-- where a static field lies, its class's statics cell in H -/
def vx_L (C n d : String) (A : Nat → Prop) (U : State) (H : Heap) : Prop := ∃ (c : ClassId) (k : Class) (i : Nat) (f : Field) (a : Nat) (cell : Cell), U.vm.findClass C = some c ∧ U.fieldFound? C n d = some (c, k, i, f) ∧ f.isStatic = true ∧ k.statics = some a ∧ H[a]? = some cell ∧ cell.vm.isStatics = true ∧ cell.cls = c ∧ f.slot < cell.slots.size ∧ k.staticTypes[f.slot]? = some f.type ∧ ¬ A a
theorem vx_L.moved {C n d : String} {A : Nat → Prop} {u U : State} {H : Heap} (hvm : u.vm.Alike U.vm) (h : vx_L C n d A u H) : vx_L C n d A U H := by
  obtain ⟨c, k, i, f, a, cell, h1, h2, h3, h4, h5, h6, h7, h8, h9, h10⟩ := h
  obtain ⟨k', hi', he⟩ := State.fieldFound?_setVm hvm h2
  exact ⟨c, k', i, f, a, cell, by rw [hvm.findClass]; exact h1, hi', h3, by rw [he]; exact h4, h5, h6, h7, h8, by rw [he]; exact h9, h10⟩
theorem vx_L.kept {C n d : String} {A : Nat → Prop} {U : State} {H H1 : Heap} (h : vx_L C n d A U H) (hq : ∀ a : Nat, a < H.size → ¬ A a → H1[a]? = H[a]?) : vx_L C n d A U H1 := by
  obtain ⟨c, k, i, f, a, cell, h1, h2, h3, h4, h5, h6, h7, h8, h9, h10⟩ := h
  exact ⟨c, k, i, f, a, cell, h1, h2, h3, h4, by rw [hq a (Array.getElem?_eq_some_iff.mp h5).1 h10]; exact h5, h6, h7, h8, h9, h10⟩
theorem vx_L.narrow {C n d : String} {A B : Nat → Prop} {U : State} {H : Heap} (h : vx_L C n d A U H) (hAB : ∀ q, B q → A q) : vx_L C n d B U H := by
  obtain ⟨c, k, i, f, a, cell, h1, h2, h3, h4, h5, h6, h7, h8, h9, h10⟩ := h
  exact ⟨c, k, i, f, a, cell, h1, h2, h3, h4, h5, h6, h7, h8, h9, fun z => h10 (hAB _ z)⟩
theorem vx_L.word {C n d : String} {A : Nat → Prop} {s : State} {args : Array Value} (h : vx_L C n d A s s.heap) : (Cond.laysStatic C n d).before args s = true := by
  obtain ⟨c, k, i, f, a, cell, h1, h2, h3, h4, h5, h6, h7, h8, h9, -⟩ := h
  show (Cond.laysStatic C n d).holds args s none s [] = true
  exact Cond.laysStatic_of h1 h2 h3 h4 h5 h6 h7 h8 h9
/-- .. and what it holds: null or some reference -/
def vx_Zq (C n d : String) (A : Nat → Prop) (U : State) (H : Heap) : Prop := va_Zq C n d A U H ∧ vx_L C n d A U H
theorem vx_Zq.moved {C n d : String} {A : Nat → Prop} {u U : State} {H : Heap} (hvm : u.vm.Alike U.vm) (h : vx_Zq C n d A u H) : vx_Zq C n d A U H := ⟨va_Zq.moved hvm h.1, vx_L.moved hvm h.2⟩
theorem vx_Zq.kept {C n d : String} {A : Nat → Prop} {U : State} {H H1 : Heap} (h : vx_Zq C n d A U H) (hq : ∀ a : Nat, a < H.size → ¬ A a → H1[a]? = H[a]?) : vx_Zq C n d A U H1 := ⟨va_Zq.kept h.1 hq, vx_L.kept h.2 hq⟩
theorem vx_Zq.narrow {C n d : String} {A B : Nat → Prop} {U : State} {H : Heap} (h : vx_Zq C n d A U H) (hAB : ∀ q, B q → A q) : vx_Zq C n d B U H := ⟨va_Zq.narrow h.1 hAB, vx_L.narrow h.2 hAB⟩
theorem vx_Zqof {args : Array Value} {s : State} {C n d : String} {A : Nat → Prop} (hl : (Cond.laysStatic C n d).before args s = true) (hini : (Cond.initialized C).before args s = true) (h : (Cond.isRef (.static C n d)).before args s = true) (hA : ∀ a : Nat, a < s.heap.size → ¬ A a) : vx_Zq C n d A s s.heap := by
  refine ⟨va_Zqof hl hini h hA, ?_⟩
  obtain ⟨c, k, i, f, a, cell, h1, h2, h3, h4, h5, h6, h7, h8, h9⟩ := Cond.laysStatic_spec hl
  exact ⟨c, k, i, f, a, cell, h1, h2, h3, h4, h5, h6, h7, h8, h9, hA a (Array.getElem?_eq_some_iff.mp h5).1⟩
theorem vx_isRef {C n d : String} {v : Value} {A : Nat → Prop} {s : State} {args : Array Value} (h : va_Z C n d v A s s.heap) (hv : v.isRef = true) : (Cond.isRef (.static C n d)).before args s = true := by
  obtain ⟨cf, kf, fi, f, a, cell, h1, h2, h3, h4, h5, h6, h7, -⟩ := h
  have he : (Term.static C n d).eval args s none [] s = some v := by
    simp [Term.eval, State.fieldNamed?, h1, h2, h4, h5, h6, h7]
  simp only [Cond.before, Cond.holds, Cond.value, he]
  cases v <;> simp_all [Value.isRef]
theorem vx_isRefq {C n d : String} {A : Nat → Prop} {s : State} {args : Array Value} (h : va_Zq C n d A s s.heap) : (Cond.isRef (.static C n d)).before args s = true := by
  rcases h with h | ⟨t, h⟩
  · exact vx_isRef h rfl
  · exact vx_isRef h rfl
/-- the same frame, seen from here: as if the method were called anew in this heap -/
theorem vx_rebase {T : State} (X : Stand p l e R s m args below meth c T locs cells slots) {R' : Room} (hf : R'.frames ≤ R.frames) (hl : R'.locals ≤ R.locals) (hc : cells + R'.cells ≤ R.cells) (hs : slots + R'.slots ≤ R.slots) :
    Stand p l e R' ((T.setVm s.vm).setFrames (.invoking m args :: below)) m args below meth c T [] 0 0 := by
  have htop : (T.setVm s.vm).topJava?.isSome := X.here.top
  have hF : ((T.setVm s.vm).setFrames (.invoking m args :: below)).frames = .invoking m args :: below := State.frames_setFrames _ (State.cur_lt_of_top htop)
  obtain ⟨g₀, hg0⟩ := Option.isSome_iff_exists.mp htop
  obtain ⟨r, hr⟩ := State.topJava?_eq_some.mp hg0
  have hl9 : e.platform.stackLimits (T.setVm s.vm).me = e.platform.stackLimits s.me := X.limits
  have hb9 : (T.setVm s.vm).me.stackBytes = s.me.stackBytes := X.bytes
  refine ⟨X.admits, X.cas, X.clock, hF, ?_, X.hears, X.method, X.code, X.here, X.tail, X.warmed, ?_, ?_, ?_⟩
  · have h := X.room
    have hU : ((T.setVm s.vm).setFrames (.invoking m args :: below)).localsInUse = s.localsInUse := by
      rw [State.localsInUse_invoking hF (meth := meth) (c := c) X.method X.code, State.localsInUse_invoking X.frames X.method X.code]
    simp only [State.hasRoom, Bool.and_eq_true, decide_eq_true_eq] at h ⊢
    obtain ⟨⟨⟨⟨h1, h2, h3, h4, h5, h6⟩, h7⟩, h8⟩, h9⟩ := h
    rw [X.frames, List.length_cons] at h2 h3
    have q1 := X.heapSize
    have q2 := X.used
    simp only [hF, hU, List.length_cons, State.stackLimits_setFrames, State.stackBytes_setFrames, hl9, hb9]
    refine ⟨⟨⟨⟨by omega, by omega, by omega, by omega, by omega, h6⟩, ?_⟩, ?_⟩, X.book⟩
    · show T.heap.size + R'.cells ≤ e.platform.maxCells
      omega
    · show T.slotsUsed + R'.slots ≤ e.platform.maxSlots
      omega
  · rw [State.stackLimits_setFrames]; rfl
  · rw [State.stackBytes_setFrames]; rfl
  · refine ⟨?_, Nat.le_refl _, Nat.le_refl _, ?_, ?_, fun a c9 h9 => ⟨c9, h9, rfl, rfl, fun _ _ => rfl⟩⟩
    · obtain ⟨t, ht, -⟩ := State.frames_cons hr
      show T.setVm s.vm = { ((T.setVm s.vm).setFrames (.invoking m args :: below)).setFrames (T.setVm s.vm).frames with heap := T.heap, slotsUsed := T.slotsUsed }
      rw [State.setFrames_setFrames, State.setFrames_self ht]
      rfl
    · show T.slotsUsed = T.slotsUsed + ((T.heap.toList.drop T.heap.size).map (·.slots.size)).sum
      rw [List.drop_eq_nil_of_le (Nat.le_of_eq Array.length_toList)]
      rfl
    · show ((T.heap.toList.drop T.heap.size).map (·.slots.size)).sum ≤ 0
      rw [List.drop_eq_nil_of_le (Nat.le_of_eq Array.length_toList)]
      exact Nat.le_refl _
/-- 'throw new E()': new; dup; invokespecial; athrow -/
theorem vx_throw0 {cc : ByteArray} {pc : Nat} (hexec : p.tables.exec = Jvm.exec) (hb : c.code = cc) (hl : l.stackTraces = false) {own cls : String} {names : List String} {ik ic mc ms : Nat} {A : Nat → Prop}
    (hown : s.vm.findClass own = some m.cls) (hcls : Bundle.fit cls = true) (hnames : ∀ n ∈ names, Bundle.fit n = true)
    (hk : (Cond.classLink own ik cls).before args s = true) (hini : (Cond.initialized cls).before args s = true) (hat : ∀ w ∈ vx_at0 own ic cls names, w.before args s = true)
    (hgood : ∀ w ∈ Cond.classLink own ik cls :: Cond.initialized cls :: vx_at0 own ic cls names, vx_ot w = true)
    (hU : vx_Zq Bundle.tN "UNASSIGNED_STACK" Bundle.steD A s s.heap) (hN : vx_Zq Bundle.tN "SUPPRESSED_SENTINEL" Bundle.listD A s s.heap) (hS : va_S A s.heap H locs) (hsize : ls.size = c.maxLocals)
    (d0 : decode cc pc = .ok (.new ik, 3)) (d3 : decode cc (pc + 3) = .ok (.dup, 1)) (d4 : decode cc (pc + 4) = .ok (.invokespecial ic, 3)) (d7 : decode cc (pc + 7) = .ok (.athrow, 1))
    (hout : ∀ x ∈ c.exceptionTable.toList, covers x (pc + 7) = false)
    (hRframes : names.length + 3 < R.frames) (hRlocals : (rest.map fun v => v.category).sum + (13 * (names.length + 1) + 42) ≤ R.locals) (hRcells : cells + 1 ≤ R.cells) (hRslots : slots + 6 ≤ R.slots) (hlocks : meth.locks = false)
    (hx : ∀ t : State, s.vm.Alike t.vm → H.size ≤ t.heap.size → (∀ q : Nat, q < H.size → t.heap[q]? = H[q]?) → XC cls s t)
    (hf : ∀ z ∈ locs, free z.base) (hc : cells + 1 ≤ mc) (hs : slots + 6 ≤ ms) :
    W p l e R s m args below meth c H locs cells slots (vx_MQ below Qc XC args s mc ms free) (F0 m pc ls rest) := by
  intro T hT X
  have htr : e.platform.stackTraces = false := (show e.platform.stackTraces = l.stackTraces by rw [X.admits.platform]).trans hl
  have Y := vx_rebase X (R' := { frames := R.frames, locals := R.locals, cells := 1, slots := 6 }) (Nat.le_refl _) (Nat.le_refl _) hRcells hRslots
  obtain ⟨s', hA⟩ : ∃ z, z = (T.setVm s.vm).setFrames (.invoking m args :: below) := ⟨_, rfl⟩
  rw [← hA] at Y
  have hvm : s'.vm = s.vm := by rw [hA]; rfl
  have hhp : s'.heap = H := by rw [hA]; exact hT
  have hW0 : s.WarmedH s'.vm := by rw [hvm]; exact State.WarmedH.refl s
  have hat' : ∀ w ∈ vx_at0 own ic cls names, w.before args s' = true := fun w hw => vx_ot_at hW0 hvm.symm (hgood w (List.mem_cons_of_mem _ (List.mem_cons_of_mem _ hw))) (hat w hw)
  have hk' : (Cond.classLink own ik cls).before args s' = true := vx_ot_at hW0 hvm.symm (hgood _ List.mem_cons_self) hk
  have hini' : (Cond.initialized cls).before args s' = true := vx_ot_at hW0 hvm.symm (hgood _ (List.mem_cons_of_mem _ List.mem_cons_self)) hini
  have hU' : vx_Zq Bundle.tN "UNASSIGNED_STACK" Bundle.steD A s' s'.heap := by rw [hhp]; exact vx_Zq.moved hW0.alike (hU.kept hS.2.1)
  have hN' : vx_Zq Bundle.tN "SUPPRESSED_SENTINEL" Bundle.listD A s' s'.heap := by rw [hhp]; exact vx_Zq.moved hW0.alike (hN.kept hS.2.1)
  have h : ∀ w ∈ Bundle.ownAtoms0 own ic cls names, w.before args s' = true := vx_own hat' (vx_isRefq hU'.1) (vx_isRefq hN'.1) hU'.2.word hN'.2.word
  have hown' : s'.vm.findClass own = some m.cls := by rw [hvm]; exact hown
  have hins : (Cond.instantiable cls 6).before args s' = true := h _ (by simp [Bundle.ownAtoms0])
  obtain ⟨vm₁, cX, kX, hfX, hkX, -, -, X₁, st1⟩ := Y.newCold hexec (own := own) (C := cls) (index := ik) (n := 6) hown' hk' hins hini'
    (g := F0 m pc ls rest) rfl (by rw [hb]; exact d0) (Nat.le_refl _) (Nat.le_refl _)
  generalize hT1 : (T.setVm vm₁).pushCell { cls := cX, slots := kX.instanceTypes.map defaultValue, vm := .none } = T1 at X₁ st1
  have hcat : (Value.ref T.heap.size).category = 1 := rfl
  have hcellA : T1.heap[T.heap.size]? = some (freshCell cX kX) := by rw [← hT1]; exact State.heap_pushCell_size _ _
  have d3' : decode c.code (pc + 3) = .ok (.dup, 1) := by rw [hb]; exact d3
  obtain ⟨U, hsteps, hrun, hend, hW, hsame, ce, hce, hO⟩ := X₁.ctorThrow0 hexec htr (own := own) (cls := cls) (names := names) (ic := ic) hown' hcls hnames h (fun x hx => nomatch hx) hfX hkX hcellA (by rw [hhp, hT]; exact Nat.le_refl _)
    (g := { method := m, pc := pc + 4, locals := ls, stack := .ref T.heap.size :: .ref T.heap.size :: rest, locked := none }) rfl hsize rfl rfl (rest := rest) rfl
    (by rw [hb]; exact d4) (by rw [hb]; exact d7) hout hRframes (by simp only [List.map_cons, List.sum_cons, hcat]; omega) hlocks
  obtain ⟨f1, f2⟩ := vx_frame hsame
  rw [hhp] at f1 f2
  have hWs : s.WarmedH U.vm := State.WarmedH.trans hW0 hW
  have hcl : s.vm.findClass cls = some ce.cls := by
    have h9 := hO.cls
    rw [hvm] at h9
    exact h9
  have hall : s.sameButNew ({ U with vm := s.vm } : State) locs mc ms := by
    subst hA
    obtain ⟨e1, e2⟩ := hsame
    rw [State.setFrames_setFrames] at e1
    have h2 : (T.setVm s.vm).sameButNew ({ U with vm := s.vm } : State) [] (0 + 1) (0 + 6) := ⟨e1, e2⟩
    have h3 := X.same.trans h2
    rw [List.append_nil] at h3
    exact h3.mono hc hs
  refine ⟨U, ?_, .threw T.heap.size, hrun, hend, Or.inr ⟨T.heap.size, rfl, cls, ce, locs, hx U hWs.alike f1 (fun q hq => f2 q hq (fun z hz => nomatch hz)), hce, hO.vm, hcl, hWs, hall, hf⟩⟩
  refine st1 _ ?_
  show Steps p.tables e below (T1.setTop { method := m, pc := pc + 3, locals := ls, stack := .ref T.heap.size :: rest, locked := none }) _
  jvm_step X₁.here [X₁.here.top, hexec, d3', Value.category]
  exact hsteps
/-- 'throw new E("text")': new; dup; ldc; invokespecial; athrow -/
theorem vx_throwS {cc : ByteArray} {pc : Nat} (hexec : p.tables.exec = Jvm.exec) (hb : c.code = cc) (hl : l.stackTraces = false) {own cls text : String} {names : List String} {ik is ic mc ms sa : Nat} {A : Nat → Prop}
    (hown : s.vm.findClass own = some m.cls) (hcls : Bundle.fit cls = true) (hnames : ∀ n ∈ names, Bundle.fit n = true)
    (hk : (Cond.classLink own ik cls).before args s = true) (hini : (Cond.initialized cls).before args s = true) (hstr : vk_R own is text sa s) (hat : ∀ w ∈ vx_atS own ic cls names, w.before args s = true)
    (hgood : ∀ w ∈ Cond.classLink own ik cls :: Cond.initialized cls :: vx_atS own ic cls names, vx_ot w = true)
    (hU : vx_Zq Bundle.tN "UNASSIGNED_STACK" Bundle.steD A s s.heap) (hN : vx_Zq Bundle.tN "SUPPRESSED_SENTINEL" Bundle.listD A s s.heap) (hS : va_S A s.heap H locs) (hsize : ls.size = c.maxLocals)
    (d0 : decode cc pc = .ok (.new ik, 3)) (d3 : decode cc (pc + 3) = .ok (.dup, 1)) (d4 : decode cc (pc + 4) = .ok (.ldc is, 2)) (d6 : decode cc (pc + 6) = .ok (.invokespecial ic, 3)) (d9 : decode cc (pc + 9) = .ok (.athrow, 1))
    (hout : ∀ x ∈ c.exceptionTable.toList, covers x (pc + 9) = false)
    (hRframes : names.length + 3 < R.frames) (hRlocals : (rest.map fun v => v.category).sum + (13 * (names.length + 1) + 43) ≤ R.locals) (hRcells : cells + 1 ≤ R.cells) (hRslots : slots + 6 ≤ R.slots) (hlocks : meth.locks = false)
    (hx : ∀ t : State, s.vm.Alike t.vm → H.size ≤ t.heap.size → (∀ q : Nat, q < H.size → t.heap[q]? = H[q]?) → XC cls s t)
    (hf : ∀ z ∈ locs, free z.base) (hc : cells + 1 ≤ mc) (hs : slots + 6 ≤ ms) :
    W p l e R s m args below meth c H locs cells slots (vx_MQ below Qc XC args s mc ms free) (F0 m pc ls rest) := by
  intro T hT X
  have htr : e.platform.stackTraces = false := (show e.platform.stackTraces = l.stackTraces by rw [X.admits.platform]).trans hl
  have Y := vx_rebase X (R' := { frames := R.frames, locals := R.locals, cells := 1, slots := 6 }) (Nat.le_refl _) (Nat.le_refl _) hRcells hRslots
  obtain ⟨s', hA⟩ : ∃ z, z = (T.setVm s.vm).setFrames (.invoking m args :: below) := ⟨_, rfl⟩
  rw [← hA] at Y
  have hvm : s'.vm = s.vm := by rw [hA]; rfl
  have hhp : s'.heap = H := by rw [hA]; exact hT
  have hW0 : s.WarmedH s'.vm := by rw [hvm]; exact State.WarmedH.refl s
  have hat' : ∀ w ∈ vx_atS own ic cls names, w.before args s' = true := fun w hw => vx_ot_at hW0 hvm.symm (hgood w (List.mem_cons_of_mem _ (List.mem_cons_of_mem _ hw))) (hat w hw)
  have hk' : (Cond.classLink own ik cls).before args s' = true := vx_ot_at hW0 hvm.symm (hgood _ List.mem_cons_self) hk
  have hini' : (Cond.initialized cls).before args s' = true := vx_ot_at hW0 hvm.symm (hgood _ (List.mem_cons_of_mem _ List.mem_cons_self)) hini
  have hU' : vx_Zq Bundle.tN "UNASSIGNED_STACK" Bundle.steD A s' s'.heap := by rw [hhp]; exact vx_Zq.moved hW0.alike (hU.kept hS.2.1)
  have hN' : vx_Zq Bundle.tN "SUPPRESSED_SENTINEL" Bundle.listD A s' s'.heap := by rw [hhp]; exact vx_Zq.moved hW0.alike (hN.kept hS.2.1)
  have h : ∀ w ∈ Bundle.ownAtoms own ic cls names, w.before args s' = true := vx_own hat' (vx_isRefq hU'.1) (vx_isRefq hN'.1) hU'.2.word hN'.2.word
  have hown' : s'.vm.findClass own = some m.cls := by rw [hvm]; exact hown
  have hins : (Cond.instantiable cls 6).before args s' = true := h _ (by simp [Bundle.ownAtoms])
  obtain ⟨vm₁, cX, kX, hfX, hkX, -, -, X₁, st1⟩ := Y.newCold hexec (own := own) (C := cls) (index := ik) (n := 6) hown' hk' hins hini'
    (g := F0 m pc ls rest) rfl (by rw [hb]; exact d0) (Nat.le_refl _) (Nat.le_refl _)
  generalize hT1 : (T.setVm vm₁).pushCell { cls := cX, slots := kX.instanceTypes.map defaultValue, vm := .none } = T1 at X₁ st1
  have hcat : (Value.ref T.heap.size).category = 1 := rfl
  have hcellA : T1.heap[T.heap.size]? = some (freshCell cX kX) := by rw [← hT1]; exact State.heap_pushCell_size _ _
  have d3' : decode c.code (pc + 3) = .ok (.dup, 1) := by rw [hb]; exact d3
  have d4' : decode c.code (pc + 4) = .ok (.ldc is, 2) := by rw [hb]; exact d4
  have hstr' : vk_R own is text sa s' := vk_R.warm hW0 hstr
  obtain ⟨U, hsteps, hrun, hend, hW, hsame, ce, hce, hO⟩ := X₁.ctorThrowS hexec htr (own := own) (cls := cls) (names := names) (ic := ic) hown' hcls hnames h (fun x hx => nomatch hx) hfX hkX hcellA (by rw [hhp, hT]; exact Nat.le_refl _) (msg := .ref sa) rfl
    (g := { method := m, pc := pc + 6, locals := ls, stack := .ref sa :: .ref T.heap.size :: .ref T.heap.size :: rest, locked := none }) rfl hsize rfl rfl (rest := rest) rfl
    (by rw [hb]; exact d6) (by rw [hb]; exact d9) hout hRframes (by simp only [List.map_cons, List.sum_cons, hcat]; omega) hlocks
  obtain ⟨f1, f2⟩ := vx_frame hsame
  rw [hhp] at f1 f2
  have hWs : s.WarmedH U.vm := State.WarmedH.trans hW0 hW
  have hcl : s.vm.findClass cls = some ce.cls := by
    have h9 := hO.cls
    rw [hvm] at h9
    exact h9
  have hall : s.sameButNew ({ U with vm := s.vm } : State) locs mc ms := by
    subst hA
    obtain ⟨e1, e2⟩ := hsame
    rw [State.setFrames_setFrames] at e1
    have h2 : (T.setVm s.vm).sameButNew ({ U with vm := s.vm } : State) [] (0 + 1) (0 + 6) := ⟨e1, e2⟩
    have h3 := X.same.trans h2
    rw [List.append_nil] at h3
    exact h3.mono hc hs
  refine ⟨U, ?_, .threw T.heap.size, hrun, hend, Or.inr ⟨T.heap.size, rfl, cls, ce, locs, hx U hWs.alike f1 (fun q hq => f2 q hq (fun z hz => nomatch hz)), hce, hO.vm, hcl, hWs, hall, hf⟩⟩
  refine st1 _ ?_
  show Steps p.tables e below (T1.setTop { method := m, pc := pc + 3, locals := ls, stack := .ref T.heap.size :: rest, locked := none }) _
  jvm_step X₁.here [X₁.here.top, hexec, d3', Value.category]
  exact X₁.ldcString hexec (own := own) (text := text) (index := is) (a := sa) hown' hstr'.1 hstr'.2
    (g := { method := m, pc := pc + 4, locals := ls, stack := .ref T.heap.size :: .ref T.heap.size :: rest, locked := none }) rfl d4' _ hsteps
/-- 'throw new E("text")', the text by a wide index -/
theorem vx_throwSW {cc : ByteArray} {pc : Nat} (hexec : p.tables.exec = Jvm.exec) (hb : c.code = cc) (hl : l.stackTraces = false) {own cls text : String} {names : List String} {ik is ic mc ms sa : Nat} {A : Nat → Prop}
    (hown : s.vm.findClass own = some m.cls) (hcls : Bundle.fit cls = true) (hnames : ∀ n ∈ names, Bundle.fit n = true)
    (hk : (Cond.classLink own ik cls).before args s = true) (hini : (Cond.initialized cls).before args s = true) (hstr : vk_R own is text sa s) (hat : ∀ w ∈ vx_atS own ic cls names, w.before args s = true)
    (hgood : ∀ w ∈ Cond.classLink own ik cls :: Cond.initialized cls :: vx_atS own ic cls names, vx_ot w = true)
    (hU : vx_Zq Bundle.tN "UNASSIGNED_STACK" Bundle.steD A s s.heap) (hN : vx_Zq Bundle.tN "SUPPRESSED_SENTINEL" Bundle.listD A s s.heap) (hS : va_S A s.heap H locs) (hsize : ls.size = c.maxLocals)
    (d0 : decode cc pc = .ok (.new ik, 3)) (d3 : decode cc (pc + 3) = .ok (.dup, 1)) (d4 : decode cc (pc + 4) = .ok (.ldc_w is, 3)) (d7 : decode cc (pc + 7) = .ok (.invokespecial ic, 3)) (d10 : decode cc (pc + 10) = .ok (.athrow, 1))
    (hout : ∀ x ∈ c.exceptionTable.toList, covers x (pc + 10) = false)
    (hRframes : names.length + 3 < R.frames) (hRlocals : (rest.map fun v => v.category).sum + (13 * (names.length + 1) + 43) ≤ R.locals) (hRcells : cells + 1 ≤ R.cells) (hRslots : slots + 6 ≤ R.slots) (hlocks : meth.locks = false)
    (hx : ∀ t : State, s.vm.Alike t.vm → H.size ≤ t.heap.size → (∀ q : Nat, q < H.size → t.heap[q]? = H[q]?) → XC cls s t)
    (hf : ∀ z ∈ locs, free z.base) (hc : cells + 1 ≤ mc) (hs : slots + 6 ≤ ms) :
    W p l e R s m args below meth c H locs cells slots (vx_MQ below Qc XC args s mc ms free) (F0 m pc ls rest) := by
  intro T hT X
  have htr : e.platform.stackTraces = false := (show e.platform.stackTraces = l.stackTraces by rw [X.admits.platform]).trans hl
  have Y := vx_rebase X (R' := { frames := R.frames, locals := R.locals, cells := 1, slots := 6 }) (Nat.le_refl _) (Nat.le_refl _) hRcells hRslots
  obtain ⟨s', hA⟩ : ∃ z, z = (T.setVm s.vm).setFrames (.invoking m args :: below) := ⟨_, rfl⟩
  rw [← hA] at Y
  have hvm : s'.vm = s.vm := by rw [hA]; rfl
  have hhp : s'.heap = H := by rw [hA]; exact hT
  have hW0 : s.WarmedH s'.vm := by rw [hvm]; exact State.WarmedH.refl s
  have hat' : ∀ w ∈ vx_atS own ic cls names, w.before args s' = true := fun w hw => vx_ot_at hW0 hvm.symm (hgood w (List.mem_cons_of_mem _ (List.mem_cons_of_mem _ hw))) (hat w hw)
  have hk' : (Cond.classLink own ik cls).before args s' = true := vx_ot_at hW0 hvm.symm (hgood _ List.mem_cons_self) hk
  have hini' : (Cond.initialized cls).before args s' = true := vx_ot_at hW0 hvm.symm (hgood _ (List.mem_cons_of_mem _ List.mem_cons_self)) hini
  have hU' : vx_Zq Bundle.tN "UNASSIGNED_STACK" Bundle.steD A s' s'.heap := by rw [hhp]; exact vx_Zq.moved hW0.alike (hU.kept hS.2.1)
  have hN' : vx_Zq Bundle.tN "SUPPRESSED_SENTINEL" Bundle.listD A s' s'.heap := by rw [hhp]; exact vx_Zq.moved hW0.alike (hN.kept hS.2.1)
  have h : ∀ w ∈ Bundle.ownAtoms own ic cls names, w.before args s' = true := vx_own hat' (vx_isRefq hU'.1) (vx_isRefq hN'.1) hU'.2.word hN'.2.word
  have hown' : s'.vm.findClass own = some m.cls := by rw [hvm]; exact hown
  have hins : (Cond.instantiable cls 6).before args s' = true := h _ (by simp [Bundle.ownAtoms])
  obtain ⟨vm₁, cX, kX, hfX, hkX, -, -, X₁, st1⟩ := Y.newCold hexec (own := own) (C := cls) (index := ik) (n := 6) hown' hk' hins hini'
    (g := F0 m pc ls rest) rfl (by rw [hb]; exact d0) (Nat.le_refl _) (Nat.le_refl _)
  generalize hT1 : (T.setVm vm₁).pushCell { cls := cX, slots := kX.instanceTypes.map defaultValue, vm := .none } = T1 at X₁ st1
  have hcat : (Value.ref T.heap.size).category = 1 := rfl
  have hcellA : T1.heap[T.heap.size]? = some (freshCell cX kX) := by rw [← hT1]; exact State.heap_pushCell_size _ _
  have d3' : decode c.code (pc + 3) = .ok (.dup, 1) := by rw [hb]; exact d3
  have d4' : decode c.code (pc + 4) = .ok (.ldc_w is, 3) := by rw [hb]; exact d4
  have hstr' : vk_R own is text sa s' := vk_R.warm hW0 hstr
  obtain ⟨U, hsteps, hrun, hend, hW, hsame, ce, hce, hO⟩ := X₁.ctorThrowS hexec htr (own := own) (cls := cls) (names := names) (ic := ic) hown' hcls hnames h (fun x hx => nomatch hx) hfX hkX hcellA (by rw [hhp, hT]; exact Nat.le_refl _) (msg := .ref sa) rfl
    (g := { method := m, pc := pc + 7, locals := ls, stack := .ref sa :: .ref T.heap.size :: .ref T.heap.size :: rest, locked := none }) rfl hsize rfl rfl (rest := rest) rfl
    (by rw [hb]; exact d7) (by rw [hb]; exact d10) hout hRframes (by simp only [List.map_cons, List.sum_cons, hcat]; omega) hlocks
  obtain ⟨f1, f2⟩ := vx_frame hsame
  rw [hhp] at f1 f2
  have hWs : s.WarmedH U.vm := State.WarmedH.trans hW0 hW
  have hcl : s.vm.findClass cls = some ce.cls := by
    have h9 := hO.cls
    rw [hvm] at h9
    exact h9
  have hall : s.sameButNew ({ U with vm := s.vm } : State) locs mc ms := by
    subst hA
    obtain ⟨e1, e2⟩ := hsame
    rw [State.setFrames_setFrames] at e1
    have h2 : (T.setVm s.vm).sameButNew ({ U with vm := s.vm } : State) [] (0 + 1) (0 + 6) := ⟨e1, e2⟩
    have h3 := X.same.trans h2
    rw [List.append_nil] at h3
    exact h3.mono hc hs
  refine ⟨U, ?_, .threw T.heap.size, hrun, hend, Or.inr ⟨T.heap.size, rfl, cls, ce, locs, hx U hWs.alike f1 (fun q hq => f2 q hq (fun z hz => nomatch hz)), hce, hO.vm, hcl, hWs, hall, hf⟩⟩
  refine st1 _ ?_
  show Steps p.tables e below (T1.setTop { method := m, pc := pc + 3, locals := ls, stack := .ref T.heap.size :: rest, locked := none }) _
  jvm_step X₁.here [X₁.here.top, hexec, d3', Value.category]
  exact X₁.ldcStringW hexec (own := own) (text := text) (index := is) (a := sa) hown' hstr'.1 hstr'.2
    (g := { method := m, pc := pc + 4, locals := ls, stack := .ref T.heap.size :: .ref T.heap.size :: rest, locked := none }) rfl d4' _ hsteps
end Ends
section Bodies
variable {l : Launch}
theorem vx_ofW {y : MethodName} {ws ws' : List Cond} {rm : Room} {Pc : Array Value → State → Prop} {Qc : Array Value → State → Outcome → State → Prop} {XC : String → State → State → Prop} {mc ms : Nat} {free : Addr → Prop} {cc : ByteArray} {maxL : Nat} {ret : Option FieldType}
    (hy : plainName y.cls = true) (hw : ws = Cond.code y cc maxL ret :: ws')
    (body : ∀ p e s m args below meth c s₁, BodyLoose p l y (headSpec ws rm) cc maxL ret e s m args below meth c s₁ → c.maxLocals = maxL → (∀ x ∈ c.exceptionTable.toList, False) → Pc args s →
      W p l e (headSpec ws rm).room s m args below meth c s.heap [] 0 0 (vx_MQ below Qc XC args s mc ms free) (entryFrame m args maxL)) : vx_Met l y ws rm Pc Qc XC mc ms free := by
  refine MetFree.of_bodyS (code := cc) (maxLocals := maxL) (ret := ret) hy ?_ ?_
  · intro args s m h hn
    obtain ⟨meth, c, h1, h2, h3, h4, h5, h6, -, -⟩ := Cond.code_spec hn (atoms_spec (ws := ws) h _ (by rw [hw]; exact List.mem_cons_self))
    exact ⟨meth, c, h1, h2, h3, h4, h5, h6⟩
  · intro p e s m args below meth c s₁ B hml hP _
    have hh0 : s₁.heap = s.heap := by rw [B.state]; rfl
    have ht : ∀ x ∈ c.exceptionTable.toList, False := by
      obtain ⟨meth9, c9, h1, h2, -, -, -, -, h7, -⟩ := Cond.code_spec B.named (atoms_spec (ws := ws) B.pre _ (by rw [hw]; exact List.mem_cons_self))
      cases Option.some.inj (h1.symm.trans B.method)
      cases Option.some.inj (h2.symm.trans (Stand.of_body B).code)
      intro x hx
      rw [Array.isEmpty_iff.mp h7] at hx
      cases hx
    obtain ⟨t, a1, o, b1, b2, b3⟩ := body p e s m args below meth c s₁ B hml ht hP s₁ hh0 (Stand.of_body B)
    exact ⟨t, o, a1, b1, b2, b3⟩
/-- the table of a body with handlers -/
theorem vx_table {p : Program} {x y : MethodName} {S : Spec} {cc bytes : ByteArray} {maxL maxL' : Nat} {ret ret' : Option FieldType} {e : Env} {s s₁ : State} {m : MethodId} {args : Array Value} {below : List Frame} {meth : Method} {c : Code} {hh : List (Nat × Nat × Nat × Nat)}
    (B : BodyLoose p l y S cc maxL ret e s m args below meth c s₁) (h : (Cond.codeWith y bytes maxL' ret' hh).before args s = true) : c.exceptionTable.toList = tableOf hh := by
  obtain ⟨m9, meth9, c9, hn9, h1, h2, -, -, h6, -⟩ := Cond.codeWith_spec h
  cases Option.some.inj (hn9.symm.trans B.named)
  cases Option.some.inj (h1.symm.trans B.method)
  cases Option.some.inj (h2.symm.trans (Stand.of_body B).code)
  rw [← h6, table_eq]
end Bodies
end VXA
/-! ===== END ===== -/
/-! ===== BEGIN a static call of a method with an exception table ===== -/
section VXS
variable {p : Program} {l : Launch} {e : Env} {R : Room} {s : State} {m : MethodId} {args : Array Value} {below : List Frame} {meth : Method} {c : Code} {T : State} {H : Heap} {locs : List Loc} {cells slots : Nat}
abbrev vx_CSW (R : Room) (s : State) (args : Array Value) (own : String) (index : Nat) (y : MethodName) (bytes : ByteArray) (maxL : Nat) (ret : Option FieldType) (hh : List (Nat × Nat × Nat × Nat)) (ws : List Cond) (rm : Room) (mc ms n : Nat) : Prop :=
  (rm.cells = mc ∧ rm.slots = ms ∧ rm.frames + 1 ≤ R.frames ∧ 8 + (maxL + 11) + rm.locals ≤ R.locals ∧ (∀ w ∈ ws, ∀ (a' : Array Value) (U : State), s.WarmedH U.vm → w.before a' U = true) ∧ Cond.codeWith y bytes maxL ret hh ∈ ws) ∧
  (Cond.codeWith y bytes maxL ret hh).before args s = true ∧ (Cond.initialized y.cls).before args s = true ∧ (y.cls ≠ "java/lang/invoke/MethodHandle" ∧ y.cls ≠ "java/lang/invoke/VarHandle") ∧
  (∀ sig, parseMethodDescriptor y.desc = some sig → n = sig.parameters.length) ∧ (Cond.methodLink own index y).before args s = true ∧ (Cond.static y).before args s = true
theorem vx_cwSW {own : String} {index maxL mc ms : Nat} {y : MethodName} {bytes : ByteArray} {ret : Option FieldType} {hh : List (Nat × Nat × Nat × Nat)} {Ts ws ws' : List Cond} {rm : Room} (n : Nat) (ht : ∀ w ∈ Ts, w.before args s = true) (hT : GoodIn Ts (va_wsS own index y ws)) (hw : ws = Cond.codeWith y bytes maxL ret hh :: ws') (hrc : rm.cells = mc) (hrs : rm.slots = ms)
    (hd : y.cls ≠ "java/lang/invoke/MethodHandle" ∧ y.cls ≠ "java/lang/invoke/VarHandle" ∧ (parseMethodDescriptor y.desc).map (fun d => d.parameters.length) = some n) (hR : rm.frames + 1 ≤ R.frames ∧ 8 + (maxL + 11) + rm.locals ≤ R.locals) :
    vx_CSW R s args own index y bytes maxL ret hh ws rm mc ms n := by
  have ok : ∀ w ∈ va_wsS own index y ws, w.before args s = true := fun w h => ht w (hT w h).1
  have hG : GoodIn Ts ws := fun w h => hT w (by unfold va_wsS; exact List.mem_append_right _ h)
  have hc : Cond.codeWith y bytes maxL ret hh ∈ ws := by rw [hw]; exact List.mem_cons_self
  refine ⟨⟨hrc, hrs, hR.1, hR.2, pay_in ht hG, hc⟩, ht _ (hG _ hc).1, ok _ (by simp [va_wsS]), ⟨hd.1, hd.2.1⟩, fun sig h => ?_, ok _ (by simp [va_wsS]), ok _ (by simp [va_wsS])⟩
  have h2 := hd.2.2
  rw [h] at h2
  exact (Option.some.inj h2).symm
theorem vx_callSW (X : Stand p l e R s m args below meth c T locs cells slots) (hexec : p.tables.exec = Jvm.exec) {own : String} {index : Nat} {y : MethodName} {bytes : ByteArray} {maxL : Nat} {ret : Option FieldType} {hh : List (Nat × Nat × Nat × Nat)}
    (hown : s.vm.findClass own = some m.cls) (hlink : (Cond.methodLink own index y).before args s = true) (hstat : (Cond.static y).before args s = true) (hinit : (Cond.initialized y.cls).before args s = true)
    (hcode : (Cond.codeWith y bytes maxL ret hh).before args s = true) (hy : y.cls ≠ "java/lang/invoke/MethodHandle" ∧ y.cls ≠ "java/lang/invoke/VarHandle")
    {W9 : Nat} {Pre : Pt → Array Value → Prop} {Post : Pt → Array Value → Option Value → Pt → Prop} (hK : Back l R p e below s args y 3 W9 Pre Post)
    {g : JFrame} (hg : g.method = m) (hsize : g.locals.size = c.maxLocals) {argsL rest : List Value} (hlen : ∀ sig, parseMethodDescriptor y.desc = some sig → argsL.length = sig.parameters.length)
    (hstack : g.stack = argsL.reverse ++ rest) (hW : 2 * g.monitorRoom + (rest.map fun v => v.category).sum ≤ W9) (hdg : decode c.code g.pc = .ok (.invokestatic index, 3))
    (hpre : ∀ vm₁, s.WarmedH vm₁ → Pre ⟨T.setVm vm₁, locs, cells, slots⟩ argsL.toArray) :
    ∃ (v : Option Value) (vm₁ : Vm) (B : Pt), s.WarmedH vm₁ ∧ Stand p l e R s m args below meth c B.U B.locs B.cells B.slots ∧ Post ⟨T.setVm vm₁, locs, cells, slots⟩ argsL.toArray v B ∧
      ∀ target, Steps p.tables e below (B.U.setTop { g with pc := g.pc + 3, stack := v.toList ++ rest }) target → Steps p.tables e below (T.setTop g) target := by
  obtain ⟨mk, methM, cM, hnamed, hmethM, -, -, -, -, -, -, hsigM⟩ := Cond.codeWith_spec hcode
  have hstatic : methM.isStatic = true := Cond.static_spec hnamed hmethM hstat
  obtain ⟨kP, hkP, -⟩ := className_of_methodNamed hnamed
  have hinitP : kP.init = .initialized := Cond.initialized_spec (findClass_of_methodNamed hnamed) hkP hinit
  obtain ⟨vm₁, X₁, hstep₁⟩ := X.invokestatic hexec hown hlink hnamed hmethM hstatic hkP hinitP hy (g := g) hg (argsL := argsL) (rest := rest) (hlen _ hsigM) hstack hdg
  obtain ⟨v, B, X', hpost, hsteps⟩ := hK m meth c ⟨T.setVm vm₁, locs, cells, slots⟩ { g with stack := rest } (.invokestatic index) mk argsL.toArray X₁ hg hsize hdg hW (X₁.named hnamed) (hpre vm₁ X₁.warmed)
  exact ⟨v, vm₁, B, X₁.warmed, X', hpost, fun target h => hstep₁ _ fun acts => by rw [doInvoke_state]; exact hsteps.trans h⟩
theorem vx_runSW {y : MethodName} {bytes cc : ByteArray} {maxL nL mc ms n index : Nat} {ret : Option FieldType} {hh : List (Nat × Nat × Nat × Nat)} {ws : List Cond} {rm : Room} {Pc : Array Value → State → Prop} {Qc : Array Value → State → Outcome → State → Prop} {free : Addr → Prop} {Ts : List Cond} {own : String} {As rest : List Value} {g : JFrame}
    (S : CallFix p m c cc nL s args Ts own) (hM : Met l y ws rm Pc Qc mc ms free) (cw : vx_CSW R s args own index y bytes maxL ret hh ws rm mc ms n) (hp : PreS s H Pc As)
    (hg : g.method = m) (hn : As.length = n) (hsize : g.locals.size = nL) (hstack : g.stack = As.reverse ++ rest) (hW : 2 * g.monitorRoom + (rest.map fun v => v.category).sum ≤ 8) (hdg : decode cc g.pc = .ok (.invokestatic index, 3)) (hf : cells + mc ≤ R.cells ∧ slots + ms ≤ R.slots) :
    va_Run p l e R s m args below meth c H locs cells slots mc ms g rest (Qc As.toArray) (free) := by
  obtain ⟨⟨hrc, hrs, hfr, hlo, hws, hcw⟩, hcode, hini, hy, hlen, hl, hstt⟩ := cw
  have hK : Back l R p e below s args y 3 8 (PreOf R mc ms Pc) (PostOf Qc mc ms free) := va_backW (hh := hh) (bytes := bytes) (maxL := maxL) (ret := ret) hM hp.1 hrc hrs hfr hlo hws hcw (fun a' U hW => word_at hW (Or.inl (by first | rfl | simp [Cond.onTables, Cond.keeps, Cond.steady])) hini)
  obtain ⟨hx, hb, hml, ho, -⟩ := S
  intro T hT X
  obtain ⟨v, vm₁, ⟨U', l2, c2, s2⟩, hW₁, X', ⟨g', mk, t, L, e1, e2, hq, h1, hL, h2, h3⟩, st⟩ := vx_callSW X hx (hh := hh) (bytes := bytes) (maxL := maxL) (ret := ret) ho hl hstt hini hcode hy hK hg (hsize.trans hml.symm) (argsL := As) (rest := rest) (fun sig h => hn.trans (hlen sig h)) hstack hW (by rw [hb]; exact hdg)
    (fun vm₁ hW₁ => ⟨hf.1, hf.2, hp.2 (T.setVm vm₁) hT hW₁⟩)
  dsimp only [Pt.U, Pt.locs, Pt.cells, Pt.slots] at X' e1 e2 h1 h2 h3 st
  subst h1; subst h2; subst h3
  exact ⟨v, (T.setVm vm₁).calling g' mk As.toArray, t, U', L, hT, X', hL, e1, e2, hq, st⟩
/-- not caught here, past rows that name other classes: it goes on to the caller -/
theorem vx_outP {p : Program} {l : Launch} {e : Env} {R : Room} {s : State} {m : MethodId} {args : Array Value} {below : List Frame} {meth : Method} {c : Code} {H : Heap} {locs : List Loc} {cells slots : Nat} {free : Addr → Prop} {ls : Array Slot} {rest : List Value} {Qc : Array Value → State → Outcome → State → Prop} {XC : String → State → State → Prop}
    {pc : Nat} {own E : String} {ce : Cell} {q : Addr} {mc ms : Nat} (hown : s.vm.findClass own = some m.cls) (hlocks : meth.locks = false)
    (hpass : ∀ z ∈ c.exceptionTable.toList, covers z pc = false ∨ (z.catchType ≠ 0 ∧ ∃ nm : String, (Cond.classLink own z.catchType nm).before args s = true ∧ va_Nc E nm s)) (hcell : H[q]? = some ce) (hv : ce.vm = .none) (hcl : s.vm.findClass E = some ce.cls)
    (hx : ∀ t : State, t.heap = H → s.vm.Alike t.vm → XC E s t) (hf : ∀ z ∈ locs, free z.base) (hc : cells ≤ mc) (hs : slots ≤ ms) :
    vx_W p l e R s m args below meth c H locs cells slots (vx_MQ below Qc XC args s mc ms free) (F0 m pc ls rest) q := by
  intro T hT X
  have hpl : e.platform.magicAccessors = ({} : Platform).magicAccessors := by rw [X.admits.platform]
  obtain ⟨vm', hW', X', st⟩ := X.outThrough hlocks q (g := F0 m pc ls rest) rfl rfl rfl (cell := ce) (by rw [hT]; exact hcell) (by rw [hv]; rfl)
    (by obtain ⟨k9, h9, -⟩ := Vm.findClass_spec hcl; exact ⟨k9, h9⟩) (fun z hz => by
      rcases hpass z hz with h | ⟨hz0, nm, hl1, hn1⟩
      · exact Or.inl h
      · obtain ⟨c6, hc6, hcl6⟩ := Cond.classLink_spec hown hl1 e.platform hpl
        obtain ⟨a8, b8, h1, h2, h3⟩ := hn1
        cases Option.some.inj (h1.symm.trans hcl)
        cases Option.some.inj (h2.symm.trans hc6)
        exact Or.inr ⟨hz0, _, hcl6, h3⟩)
  obtain ⟨g₀, hfr⟩ := X'.frames_eq
  have hcell9 : ((T.setVm vm').setFrames (.throwing q :: below)).heap[q]? = some ce := by
    show T.heap[q]? = some ce
    rw [hT]; exact hcell
  have hend : Ended ((T.setVm vm').setFrames (.throwing q :: below)) below (.threw q) := State.frames_setFrames _ (State.cur_lt_of_frames hfr)
  refine ⟨(T.setVm vm').setFrames (.throwing q :: below), ?_, .threw q, X'.here.running, hend, Or.inr ⟨q, rfl, E, ce, locs, hx _ hT (X'.ends _).1.alike, hcell9, hv, hcl, (X'.ends _).1, (X'.ends _).2.mono hc hs, hf⟩⟩
  rw [X.pushThrowing_eq]
  exact st
/-- a thing of a world lies in the heap -/
theorem vx_lt {D : va_G} {cl : List vw_C} {ws : va_W} {H1 : Heap} (h : va_P D cl ws H1) {k : Nat} {q : Nat × va_E} (hk : ws[k]? = some q) : q.1 < H1.size := (h k q hk).lt
end VXS
/-! ===== END ===== -/
/-! ===== BEGIN methods with a table of their own: called by a name, returning or throwing ===== -/
section VXH
/-! vx_backW, vx_callVX, vx_callSX, vx_callVW, vx_runVW, vx_runVX, vx_runSX, vx_ofWH follow the same proofs as their sisters above (Free/Laws.lean, Shelf42/LK1.lean); vx_outP calls Shelf42/NT130.lean (outThrough). -/
section
variable {l : Launch} {R : Room} {p : Program} {e : Env} {below : List Frame} {s : State} {sargs : Array Value} {y : MethodName} {len W9 : Nat}
theorem vx_backW {ws : List Cond} {rm : Room} {Pc : Array Value → State → Prop} {Qc : Array Value → State → Outcome → State → Prop} {XC : String → State → State → Prop} {mc ms : Nat} {free : Addr → Prop} {bytes : ByteArray} {maxL : Nat} {ret : Option FieldType} {hh : List (Nat × Nat × Nat × Nat)}
    (hM : vx_Met l y ws rm Pc Qc XC mc ms free) (hblind : FrameBlind Pc) (hrc : rm.cells = mc) (hrs : rm.slots = ms)
    (hframes : rm.frames + 1 ≤ R.frames) (hlocals : W9 + (maxL + 11) + rm.locals ≤ R.locals)
    (hws : ∀ w ∈ ws, ∀ a' U, s.WarmedH U.vm → w.before a' U = true) (hcode : Cond.codeWith y bytes maxL ret hh ∈ ws) (hinit : ∀ a' U, s.WarmedH U.vm → (Cond.initialized y.cls).before a' U = true) :
    vx_Back l R p e below s sargs y len W9 (PreOf R mc ms Pc) (PostOf Qc mc ms free) (vx_Post XC mc ms free) := by
  intro m meth c A g ig mk a X hg hsize hdg hW hn hp
  have h1 : (headSpec ws rm).pre.before a A.U = true := atoms_intro fun w hw => hws w hw _ _ X.warmed
  have h2 : (Cond.codeWith y bytes maxL ret hh).before a A.U = true := hws _ hcode _ _ X.warmed
  have h3 : (Cond.initialized y.cls).before a A.U = true := hinit _ _ X.warmed
  have h4 : A.cells + (headSpec ws rm).room.cells ≤ R.cells := by rw [show (headSpec ws rm).room.cells = mc from hrc]; exact hp.1
  have h5 : A.slots + (headSpec ws rm).room.slots ≤ R.slots := by rw [show (headSpec ws rm).room.slots = ms from hrs]; exact hp.2.1
  have hPc : Pc a (A.U.calling g mk a) := hblind _ _ _ _ hp.2.2
  obtain ⟨U, Ls, c0, s0⟩ := A
  dsimp only [Pt.U, Pt.locs, Pt.cells, Pt.slots] at h1 h2 h3 h4 h5 X hn hPc ⊢
  obtain ⟨m9, methY, cY, hn9, hmY, hcY, -, hlY, -⟩ := Cond.codeWith_spec h2
  cases Option.some.inj (hn9.symm.trans hn)
  obtain ⟨kY, hkY, -⟩ := className_of_methodNamed hn
  have hinitY : kY.init = .initialized := Cond.initialized_spec (findClass_of_methodNamed hn) hkY h3
  have h : At U g.method c below := by rw [hg]; exact X.here
  have hlocals9 : W9 + (maxL + 11) + (headSpec ws rm).room.locals ≤ R.locals := hlocals
  have happ : (headSpec ws rm).appliesLoose y e.platform (U.calling g mk a) = true :=
    Spec.appliesLoose_calling (g := g) h hdg hn hkY hinitY
      (X.room_calling (g := g) (R' := (headSpec ws rm).room) hsize hmY hcY hframes (by rw [hlY]; omega) h4 h5) h1
  obtain ⟨mid, hmid⟩ := h.above
  have hfr : (U.setTop g).frames = (.java g :: mid) ++ below := by rw [State.frames_setTop' g h.top, hmid]; rfl
  obtain ⟨o, s₂, hsteps, -, hend, hq⟩ := Steps.callFree hM p X.admits X.cas X.clock (acts := []) hfr happ hPc trivial
  have hq' : vx_Q Qc XC mc ms free a (U.calling g mk a) o s₂ := hq
  rw [State.frames_setTop' g h.top] at hend
  obtain ⟨g₀, hg0⟩ := Option.isSome_iff_exists.mp h.top
  obtain ⟨r, hr⟩ := State.topJava?_eq_some.mp hg0
  have hr' : (({ U with heap := s₂.heap, slotsUsed := s₂.slotsUsed } : State).setVm s₂.vm).frames = .java g₀ :: r := hr
  rcases hq' with ⟨hqc, L, hfe, hL⟩ | ⟨q, rfl, E, ce, L, hx, hce, hcv, hcl, hW₂, hsm, hL⟩
  · obtain ⟨⟨v, rfl⟩, hW₂, e2, q2, q3, q4, q5, q6⟩ := id hfe
    have e3 : s₂ = ({ (U.calling g mk a).setFrames s₂.frames with heap := s₂.heap, slotsUsed := s₂.slotsUsed } : State).setVm s₂.vm := by
      have : s₂ = ({ s₂ with vm := (U.calling g mk a).vm } : State).setVm s₂.vm := rfl
      rw [e2] at this
      exact this
    obtain ⟨c₂, i₂, len₂, hc₂, hd₂, hf₂⟩ := hend
    have hW' : U.WarmedH s₂.vm := hW₂
    have hcc : c₂ = c := by
      have h1 : s₂.code? g.method = U.code? g.method := by
        rw [State.code?_eq, State.code?_eq, hW'.alike.method?]
      exact Option.some.inj (hc₂.symm.trans (h1.trans h.code))
    subst hcc
    have hlen : len₂ = len := by rw [hdg] at hd₂; cases hd₂; rfl
    subst hlen
    have hs₂ : s₂ = (({ U with heap := s₂.heap, slotsUsed := s₂.slotsUsed } : State).setVm s₂.vm).setTop { g with pc := g.pc + len₂, stack := v.toList ++ g.stack } := by
      refine e3.trans ?_
      rw [hf₂, State.calling_eq h.top, State.setFrames_setFrames, State.setTop_of_frames _ hr', hr]
      rfl
    have hsame : U.sameButNew ({ U with heap := s₂.heap, slotsUsed := s₂.slotsUsed } : State) L mc ms := by
      refine ⟨?_, q2, q3, q4, q5, q6⟩
      obtain ⟨t, ht, -⟩ := State.frames_cons hr
      show ({ U with heap := s₂.heap, slotsUsed := s₂.slotsUsed } : State) = { U.setFrames U.frames with heap := s₂.heap, slotsUsed := s₂.slotsUsed }
      rw [State.setFrames_self ht]
    subst hg
    refine Or.inl ⟨v, ⟨(({ U with heap := s₂.heap, slotsUsed := s₂.slotsUsed } : State).setVm s₂.vm), Ls ++ L, c0 + mc, s0 + ms⟩,
      ⟨X.admits, X.cas, X.clock, X.frames, X.room, X.hears, X.method, X.code, (X.here.setHeapUsed s₂.heap s₂.slotsUsed).setVm hW'.alike, X.tail, State.WarmedH.trans X.warmed hW', X.limits, X.bytes, X.same.trans (hsame.setVm s.vm)⟩,
      ⟨g, mk, s₂, L, rfl, rfl, hqc, rfl, hL, rfl, rfl⟩, ?_⟩
    show Steps p.tables e below _ ((({ U with heap := s₂.heap, slotsUsed := s₂.slotsUsed } : State).setVm s₂.vm).setTop { g with pc := g.pc + len₂, stack := v.toList ++ g.stack })
    rw [← hs₂]
    exact hsteps
  · obtain ⟨e2, q2, q3, q4, q5, q6⟩ := id hsm
    have e3 : s₂ = ({ (U.calling g mk a).setFrames s₂.frames with heap := s₂.heap, slotsUsed := s₂.slotsUsed } : State).setVm s₂.vm := by
      have : s₂ = ({ s₂ with vm := (U.calling g mk a).vm } : State).setVm s₂.vm := rfl
      rw [e2] at this
      exact this
    have hf₂ : s₂.frames = .throwing q :: .java g :: U.frames.tail := hend
    have hW' : U.WarmedH s₂.vm := hW₂
    have hs₂ : s₂ = ((({ U with heap := s₂.heap, slotsUsed := s₂.slotsUsed } : State).setVm s₂.vm).setTop g).pushFrame (.throwing q) := by
      refine e3.trans ?_
      rw [hf₂, State.calling_eq h.top, State.setFrames_setFrames, State.pushFrame, State.frames_setTop _ hr', State.setTop_of_frames _ hr', State.setFrames_setFrames, hr]
      rfl
    have hsame : U.sameButNew ({ U with heap := s₂.heap, slotsUsed := s₂.slotsUsed } : State) L mc ms := by
      refine ⟨?_, q2, q3, q4, q5, q6⟩
      obtain ⟨t, ht, -⟩ := State.frames_cons hr
      show ({ U with heap := s₂.heap, slotsUsed := s₂.slotsUsed } : State) = { U.setFrames U.frames with heap := s₂.heap, slotsUsed := s₂.slotsUsed }
      rw [State.setFrames_self ht]
    subst hg
    refine Or.inr ⟨q, ⟨(({ U with heap := s₂.heap, slotsUsed := s₂.slotsUsed } : State).setVm s₂.vm), Ls ++ L, c0 + mc, s0 + ms⟩,
      ⟨X.admits, X.cas, X.clock, X.frames, X.room, X.hears, X.method, X.code, (X.here.setHeapUsed s₂.heap s₂.slotsUsed).setVm hW'.alike, X.tail, State.WarmedH.trans X.warmed hW', X.limits, X.bytes, X.same.trans (hsame.setVm s.vm)⟩,
      ⟨g, mk, s₂, L, E, ce, rfl, rfl, hx, hce, hcv, hcl, rfl, hL, rfl, rfl⟩, ?_⟩
    show Steps p.tables e below _ (((({ U with heap := s₂.heap, slotsUsed := s₂.slotsUsed } : State).setVm s₂.vm).setTop g).pushFrame (.throwing q))
    rw [← hs₂]
    exact hsteps
end
variable {p : Program} {l : Launch} {e : Env} {R : Room} {s : State} {m : MethodId} {args : Array Value} {below : List Frame} {meth : Method} {c : Code} {T : State} {H : Heap} {locs : List Loc} {cells slots : Nat}
theorem vx_callVX (X : Stand p l e R s m args below meth c T locs cells slots) (hexec : p.tables.exec = Jvm.exec) {own C : String} {index : Nat} {y : MethodName} {bytes : ByteArray} {maxL : Nat} {ret : Option FieldType} {hh : List (Nat × Nat × Nat × Nat)}
    (hown : s.vm.findClass own = some m.cls) (hlink : (Cond.methodLink own index y).before args s = true) (hinst : (Cond.instanceMethod y).before args s = true) (hsel : (Cond.selects C y y).before args s = true)
    (hcode : (Cond.codeWith y bytes maxL ret hh).before args s = true) (hy : y.cls ≠ "java/lang/invoke/MethodHandle" ∧ y.cls ≠ "java/lang/invoke/VarHandle")
    {W9 : Nat} {Pre : Pt → Array Value → Prop} {Post : Pt → Array Value → Option Value → Pt → Prop} {PostX : Pt → Array Value → Addr → Pt → Prop} (hK : vx_Back l R p e below s args y 3 W9 Pre Post PostX)
    {b : Addr} {cellB : Cell} (hcell : T.heap[b]? = some cellB) (hobj : cellB.vm.isStatics = false) (hcls : s.vm.findClass C = some cellB.cls)
    {g : JFrame} (hg : g.method = m) (hsize : g.locals.size = c.maxLocals) {argsL rest : List Value} (hlen : ∀ sig, parseMethodDescriptor y.desc = some sig → argsL.length = sig.parameters.length)
    (hstack : g.stack = argsL.reverse ++ .ref b :: rest) (hW : 2 * g.monitorRoom + (rest.map fun v => v.category).sum ≤ W9) (hdg : decode c.code g.pc = .ok (.invokevirtual index, 3))
    (hpre : ∀ vm₁, s.WarmedH vm₁ → Pre ⟨T.setVm vm₁, locs, cells, slots⟩ (Value.ref b :: argsL).toArray) :
    (∃ (v : Option Value) (vm₁ : Vm) (B : Pt), s.WarmedH vm₁ ∧ Stand p l e R s m args below meth c B.U B.locs B.cells B.slots ∧ Post ⟨T.setVm vm₁, locs, cells, slots⟩ (Value.ref b :: argsL).toArray v B ∧
      ∀ target, Steps p.tables e below (B.U.setTop { g with pc := g.pc + 3, stack := v.toList ++ rest }) target → Steps p.tables e below (T.setTop g) target) ∨
    (∃ (q : Addr) (vm₁ : Vm) (B : Pt), s.WarmedH vm₁ ∧ Stand p l e R s m args below meth c B.U B.locs B.cells B.slots ∧ PostX ⟨T.setVm vm₁, locs, cells, slots⟩ (Value.ref b :: argsL).toArray q B ∧
      Steps p.tables e below (T.setTop g) ((B.U.setTop { g with stack := rest }).pushFrame (.throwing q))) := by
  obtain ⟨mk, methM, hnamed, hmethM, hstM, habM⟩ := Cond.instanceMethod_spec hinst
  obtain ⟨m8, methM', cM, hn8, hmethM', -, -, -, -, -, -, hsigM⟩ := Cond.codeWith_spec hcode
  cases Option.some.inj (hn8.symm.trans hnamed)
  cases hmethM.symm.trans hmethM'
  obtain ⟨c2, r2, m2, q1, q2, q3, q4, kP, hkP, hkPi⟩ := Cond.selects_spec hsel
  cases hcls.symm.trans q1
  cases (State.methodFound?_of_named hnamed hy).symm.trans q2
  cases hnamed.symm.trans q3
  have hselP : selectMethod e.platform s.vm cellB.cls mk = .method mk := by rw [Launch.admits_selectMethod X.admits]; exact q4
  obtain ⟨vm₁, X₁, hstep₁⟩ := X.invokevirtual hexec hown hlink hnamed hmethM hstM hkP hkPi hy (a := b) (cell := cellB) hcell
    (fun z h => by rw [h] at hobj; cases hobj) hselP hmethM habM hkP hkPi (g := g) hg (argsL := argsL) (rest := rest) (hlen _ hsigM) hstack hdg
  rcases hK m meth c ⟨T.setVm vm₁, locs, cells, slots⟩ { g with stack := rest } (.invokevirtual index) mk (Value.ref b :: argsL).toArray X₁ hg hsize hdg hW (X₁.named hnamed) (hpre vm₁ X₁.warmed) with ⟨v, B, X', hpost, hsteps⟩ | ⟨q, B, X', hpost, hsteps⟩
  · exact Or.inl ⟨v, vm₁, B, X₁.warmed, X', hpost, fun target h => hstep₁ _ fun acts => by rw [doInvoke_state]; exact hsteps.trans h⟩
  · exact Or.inr ⟨q, vm₁, B, X₁.warmed, X', hpost, hstep₁ _ fun acts => by rw [doInvoke_state]; exact hsteps⟩
theorem vx_callSX (X : Stand p l e R s m args below meth c T locs cells slots) (hexec : p.tables.exec = Jvm.exec) {own : String} {index : Nat} {y : MethodName} {bytes : ByteArray} {maxL : Nat} {ret : Option FieldType} {hh : List (Nat × Nat × Nat × Nat)}
    (hown : s.vm.findClass own = some m.cls) (hlink : (Cond.methodLink own index y).before args s = true) (hstat : (Cond.static y).before args s = true) (hinit : (Cond.initialized y.cls).before args s = true)
    (hcode : (Cond.codeWith y bytes maxL ret hh).before args s = true) (hy : y.cls ≠ "java/lang/invoke/MethodHandle" ∧ y.cls ≠ "java/lang/invoke/VarHandle")
    {W9 : Nat} {Pre : Pt → Array Value → Prop} {Post : Pt → Array Value → Option Value → Pt → Prop} {PostX : Pt → Array Value → Addr → Pt → Prop} (hK : vx_Back l R p e below s args y 3 W9 Pre Post PostX)
    {g : JFrame} (hg : g.method = m) (hsize : g.locals.size = c.maxLocals) {argsL rest : List Value} (hlen : ∀ sig, parseMethodDescriptor y.desc = some sig → argsL.length = sig.parameters.length)
    (hstack : g.stack = argsL.reverse ++ rest) (hW : 2 * g.monitorRoom + (rest.map fun v => v.category).sum ≤ W9) (hdg : decode c.code g.pc = .ok (.invokestatic index, 3))
    (hpre : ∀ vm₁, s.WarmedH vm₁ → Pre ⟨T.setVm vm₁, locs, cells, slots⟩ argsL.toArray) :
    (∃ (v : Option Value) (vm₁ : Vm) (B : Pt), s.WarmedH vm₁ ∧ Stand p l e R s m args below meth c B.U B.locs B.cells B.slots ∧ Post ⟨T.setVm vm₁, locs, cells, slots⟩ argsL.toArray v B ∧
      ∀ target, Steps p.tables e below (B.U.setTop { g with pc := g.pc + 3, stack := v.toList ++ rest }) target → Steps p.tables e below (T.setTop g) target) ∨
    (∃ (q : Addr) (vm₁ : Vm) (B : Pt), s.WarmedH vm₁ ∧ Stand p l e R s m args below meth c B.U B.locs B.cells B.slots ∧ PostX ⟨T.setVm vm₁, locs, cells, slots⟩ argsL.toArray q B ∧
      Steps p.tables e below (T.setTop g) ((B.U.setTop { g with stack := rest }).pushFrame (.throwing q))) := by
  obtain ⟨mk, methM, cM, hnamed, hmethM, -, -, -, -, -, -, hsigM⟩ := Cond.codeWith_spec hcode
  have hstatic : methM.isStatic = true := Cond.static_spec hnamed hmethM hstat
  obtain ⟨kP, hkP, -⟩ := className_of_methodNamed hnamed
  have hinitP : kP.init = .initialized := Cond.initialized_spec (findClass_of_methodNamed hnamed) hkP hinit
  obtain ⟨vm₁, X₁, hstep₁⟩ := X.invokestatic hexec hown hlink hnamed hmethM hstatic hkP hinitP hy (g := g) hg (argsL := argsL) (rest := rest) (hlen _ hsigM) hstack hdg
  rcases hK m meth c ⟨T.setVm vm₁, locs, cells, slots⟩ { g with stack := rest } (.invokestatic index) mk argsL.toArray X₁ hg hsize hdg hW (X₁.named hnamed) (hpre vm₁ X₁.warmed) with ⟨v, B, X', hpost, hsteps⟩ | ⟨q, B, X', hpost, hsteps⟩
  · exact Or.inl ⟨v, vm₁, B, X₁.warmed, X', hpost, fun target h => hstep₁ _ fun acts => by rw [doInvoke_state]; exact hsteps.trans h⟩
  · exact Or.inr ⟨q, vm₁, B, X₁.warmed, X', hpost, hstep₁ _ fun acts => by rw [doInvoke_state]; exact hsteps⟩
theorem vx_callVW (X : Stand p l e R s m args below meth c T locs cells slots) (hexec : p.tables.exec = Jvm.exec) {own C : String} {index : Nat} {y : MethodName} {bytes : ByteArray} {maxL : Nat} {ret : Option FieldType} {hh : List (Nat × Nat × Nat × Nat)}
    (hown : s.vm.findClass own = some m.cls) (hlink : (Cond.methodLink own index y).before args s = true) (hinst : (Cond.instanceMethod y).before args s = true) (hsel : (Cond.selects C y y).before args s = true)
    (hcode : (Cond.codeWith y bytes maxL ret hh).before args s = true) (hy : y.cls ≠ "java/lang/invoke/MethodHandle" ∧ y.cls ≠ "java/lang/invoke/VarHandle")
    {W9 : Nat} {Pre : Pt → Array Value → Prop} {Post : Pt → Array Value → Option Value → Pt → Prop} (hK : Back l R p e below s args y 3 W9 Pre Post)
    {b : Addr} {cellB : Cell} (hcell : T.heap[b]? = some cellB) (hobj : cellB.vm.isStatics = false) (hcls : s.vm.findClass C = some cellB.cls)
    {g : JFrame} (hg : g.method = m) (hsize : g.locals.size = c.maxLocals) {argsL rest : List Value} (hlen : ∀ sig, parseMethodDescriptor y.desc = some sig → argsL.length = sig.parameters.length)
    (hstack : g.stack = argsL.reverse ++ .ref b :: rest) (hW : 2 * g.monitorRoom + (rest.map fun v => v.category).sum ≤ W9) (hdg : decode c.code g.pc = .ok (.invokevirtual index, 3))
    (hpre : ∀ vm₁, s.WarmedH vm₁ → Pre ⟨T.setVm vm₁, locs, cells, slots⟩ (Value.ref b :: argsL).toArray) :
    ∃ (v : Option Value) (vm₁ : Vm) (B : Pt), s.WarmedH vm₁ ∧ Stand p l e R s m args below meth c B.U B.locs B.cells B.slots ∧ Post ⟨T.setVm vm₁, locs, cells, slots⟩ (Value.ref b :: argsL).toArray v B ∧
      ∀ target, Steps p.tables e below (B.U.setTop { g with pc := g.pc + 3, stack := v.toList ++ rest }) target → Steps p.tables e below (T.setTop g) target := by
  obtain ⟨mk, methM, hnamed, hmethM, hstM, habM⟩ := Cond.instanceMethod_spec hinst
  obtain ⟨m8, methM', cM, hn8, hmethM', -, -, -, -, -, -, hsigM⟩ := Cond.codeWith_spec hcode
  cases Option.some.inj (hn8.symm.trans hnamed)
  cases hmethM.symm.trans hmethM'
  obtain ⟨c2, r2, m2, q1, q2, q3, q4, kP, hkP, hkPi⟩ := Cond.selects_spec hsel
  cases hcls.symm.trans q1
  cases (State.methodFound?_of_named hnamed hy).symm.trans q2
  cases hnamed.symm.trans q3
  have hselP : selectMethod e.platform s.vm cellB.cls mk = .method mk := by rw [Launch.admits_selectMethod X.admits]; exact q4
  obtain ⟨vm₁, X₁, hstep₁⟩ := X.invokevirtual hexec hown hlink hnamed hmethM hstM hkP hkPi hy (a := b) (cell := cellB) hcell
    (fun z h => by rw [h] at hobj; cases hobj) hselP hmethM habM hkP hkPi (g := g) hg (argsL := argsL) (rest := rest) (hlen _ hsigM) hstack hdg
  obtain ⟨v, B, X', hpost, hsteps⟩ := hK m meth c ⟨T.setVm vm₁, locs, cells, slots⟩ { g with stack := rest } (.invokevirtual index) mk (Value.ref b :: argsL).toArray X₁ hg hsize hdg hW (X₁.named hnamed) (hpre vm₁ X₁.warmed)
  exact ⟨v, vm₁, B, X₁.warmed, X', hpost, fun target h => hstep₁ _ fun acts => by rw [doInvoke_state]; exact hsteps.trans h⟩
abbrev vx_CVW (R : Room) (s : State) (args : Array Value) (own C : String) (index : Nat) (y : MethodName) (bytes : ByteArray) (maxL : Nat) (ret : Option FieldType) (hh : List (Nat × Nat × Nat × Nat)) (ws : List Cond) (rm : Room) (mc ms n : Nat) : Prop :=
  (rm.cells = mc ∧ rm.slots = ms ∧ rm.frames + 1 ≤ R.frames ∧ 8 + (maxL + 11) + rm.locals ≤ R.locals ∧ (∀ w ∈ ws, ∀ (a' : Array Value) (U : State), s.WarmedH U.vm → w.before a' U = true) ∧ Cond.codeWith y bytes maxL ret hh ∈ ws) ∧
  (Cond.codeWith y bytes maxL ret hh).before args s = true ∧ (Cond.initialized y.cls).before args s = true ∧ (y.cls ≠ "java/lang/invoke/MethodHandle" ∧ y.cls ≠ "java/lang/invoke/VarHandle") ∧
  (∀ sig, parseMethodDescriptor y.desc = some sig → n = sig.parameters.length) ∧ (Cond.methodLink own index y).before args s = true ∧ (Cond.instanceMethod y).before args s = true ∧ (Cond.selects C y y).before args s = true
theorem vx_cwVW {own C : String} {index maxL mc ms : Nat} {y : MethodName} {bytes : ByteArray} {ret : Option FieldType} {hh : List (Nat × Nat × Nat × Nat)} {Ts ws ws' : List Cond} {rm : Room} (n : Nat) (ht : ∀ w ∈ Ts, w.before args s = true) (hT : GoodIn Ts (wsV own index C y ws)) (hw : ws = Cond.codeWith y bytes maxL ret hh :: ws') (hrc : rm.cells = mc) (hrs : rm.slots = ms)
    (hd : y.cls = C ∧ y.cls ≠ "java/lang/invoke/MethodHandle" ∧ y.cls ≠ "java/lang/invoke/VarHandle" ∧ (parseMethodDescriptor y.desc).map (fun d => d.parameters.length) = some n) (hR : rm.frames + 1 ≤ R.frames ∧ 8 + (maxL + 11) + rm.locals ≤ R.locals) :
    vx_CVW R s args own C index y bytes maxL ret hh ws rm mc ms n := by
  obtain ⟨hC, hd⟩ := hd
  subst hC
  have ok : ∀ w ∈ wsV own index y.cls y ws, w.before args s = true := fun w h => ht w (hT w h).1
  have hG : GoodIn Ts ws := fun w h => hT w (by unfold wsV; exact List.mem_append_right _ h)
  have hc : Cond.codeWith y bytes maxL ret hh ∈ ws := by rw [hw]; exact List.mem_cons_self
  refine ⟨⟨hrc, hrs, hR.1, hR.2, pay_in ht hG, hc⟩, ht _ (hG _ hc).1, ok _ (by simp [wsV]), ⟨hd.1, hd.2.1⟩, fun sig h => ?_, ok _ (by simp [wsV]), ok _ (by simp [wsV]), ok _ (by simp [wsV])⟩
  have h2 := hd.2.2
  rw [h] at h2
  exact (Option.some.inj h2).symm
theorem vx_runVW {y : MethodName} {bytes cc : ByteArray} {maxL nL mc ms n index : Nat} {ret : Option FieldType} {hh : List (Nat × Nat × Nat × Nat)} {ws : List Cond} {rm : Room} {Pc : Array Value → State → Prop} {Qc : Array Value → State → Outcome → State → Prop} {free : Addr → Prop} {Ts : List Cond} {own C : String} {b : Addr} {As rest : List Value} {g : JFrame}
    (S : CallFix p m c cc nL s args Ts own) (hM : Met l y ws rm Pc Qc mc ms free) (cw : vx_CVW R s args own C index y bytes maxL ret hh ws rm mc ms n) (hp : PreV s H C b Pc As)
    (hg : g.method = m) (hn : As.length = n) (hsize : g.locals.size = nL) (hstack : g.stack = As.reverse ++ .ref b :: rest) (hW : 2 * g.monitorRoom + (rest.map fun v => v.category).sum ≤ 8) (hdg : decode cc g.pc = .ok (.invokevirtual index, 3)) (hf : cells + mc ≤ R.cells ∧ slots + ms ≤ R.slots) :
    va_Run p l e R s m args below meth c H locs cells slots mc ms g rest (Qc (Value.ref b :: As).toArray) free := by
  obtain ⟨⟨hrc, hrs, hfr, hlo, hws, hcw⟩, hcode, hini, hy, hlen, hl, hin, hse⟩ := cw
  have hK : Back l R p e below s args y 3 8 (PreOf R mc ms Pc) (PostOf Qc mc ms free) := va_backW (hh := hh) (bytes := bytes) (maxL := maxL) (ret := ret) hM hp.1 hrc hrs hfr hlo hws hcw (fun a' U hW => word_at hW (Or.inl (by first | rfl | simp [Cond.onTables, Cond.keeps, Cond.steady])) hini)
  obtain ⟨hx, hb, hml, ho, -⟩ := S
  obtain ⟨-, ⟨cellB, hcB, hoB, hclB⟩, hPc⟩ := hp
  intro T hT X
  obtain ⟨v, vm₁, ⟨U', l2, c2, s2⟩, hW₁, X', ⟨g', mk, t, L, e1, e2, hq, h1, hL, h2, h3⟩, st⟩ := vx_callVW X hx (C := C) (hh := hh) (bytes := bytes) (maxL := maxL) (ret := ret) ho hl hin hse hcode hy hK (by rw [hT]; exact hcB) hoB hclB hg (hsize.trans hml.symm) (argsL := As) (rest := rest) (fun sig h => hn.trans (hlen sig h)) hstack hW (by rw [hb]; exact hdg)
    (fun vm₁ hW₁ => ⟨hf.1, hf.2, hPc (T.setVm vm₁) hT hW₁⟩)
  dsimp only [Pt.U, Pt.locs, Pt.cells, Pt.slots] at X' e1 e2 h1 h2 h3 st
  subst h1; subst h2; subst h3
  exact ⟨v, (T.setVm vm₁).calling g' mk (Value.ref b :: As).toArray, t, U', L, hT, X', hL, e1, e2, hq, st⟩
section
variable {y : MethodName} {bytes cc : ByteArray} {maxL nL mc ms n index : Nat} {ret : Option FieldType} {ws : List Cond} {rm : Room} {Pc : Array Value → State → Prop} {Qc : Array Value → State → Outcome → State → Prop} {XC : String → State → State → Prop} {free : Addr → Prop} {Ts : List Cond} {own C : String} {b : Addr} {As rest : List Value} {g : JFrame}
theorem vx_runVX {hh : List (Nat × Nat × Nat × Nat)} (S : CallFix p m c cc nL s args Ts own) (hM : vx_Met l y ws rm Pc Qc XC mc ms free) (cw : vx_CVW R s args own C index y bytes maxL ret hh ws rm mc ms n) (hp : PreV s H C b Pc As)
    (hg : g.method = m) (hn : As.length = n) (hsize : g.locals.size = nL) (hstack : g.stack = As.reverse ++ .ref b :: rest) (hW : 2 * g.monitorRoom + (rest.map fun v => v.category).sum ≤ 8) (hdg : decode cc g.pc = .ok (.invokevirtual index, 3)) (hf : cells + mc ≤ R.cells ∧ slots + ms ≤ R.slots) :
    vx_Run p l e R s m args below meth c H locs cells slots mc ms g rest (Qc (Value.ref b :: As).toArray) XC free := by
  obtain ⟨⟨hrc, hrs, hfr, hlo, hws, hcw⟩, hcode, hini, hy, hlen, hl, hin, hse⟩ := cw
  have hK : vx_Back l R p e below s args y 3 8 (PreOf R mc ms Pc) (PostOf Qc mc ms free) (vx_Post XC mc ms free) := vx_backW (hh := hh) (bytes := bytes) (maxL := maxL) (ret := ret) hM hp.1 hrc hrs hfr hlo hws hcw (fun a' U hW => word_at hW (Or.inl (by first | rfl | simp [Cond.onTables, Cond.keeps, Cond.steady])) hini)
  obtain ⟨hx, hb, hml, ho, -⟩ := S
  obtain ⟨-, ⟨cellB, hcB, hoB, hclB⟩, hPc⟩ := hp
  intro T hT X
  rcases vx_callVX X hx (C := C) (hh := hh) (bytes := bytes) (maxL := maxL) (ret := ret) ho hl hin hse hcode hy hK (by rw [hT]; exact hcB) hoB hclB hg (hsize.trans hml.symm) (argsL := As) (rest := rest) (fun sig h => hn.trans (hlen sig h)) hstack hW (by rw [hb]; exact hdg)
    (fun vm₁ hW₁ => ⟨hf.1, hf.2, hPc (T.setVm vm₁) hT hW₁⟩) with ⟨v, vm₁, ⟨U', l2, c2, s2⟩, hW₁, X', ⟨g', mk, t, L, e1, e2, hq, h1, hL, h2, h3⟩, st⟩ | ⟨q, vm₁, ⟨U', l2, c2, s2⟩, hW₁, X', ⟨g', mk, t, L, E, ce, e1, e2, hq, hce, hcv, hcl, h1, hL, h2, h3⟩, st⟩
  · dsimp only [Pt.U, Pt.locs, Pt.cells, Pt.slots] at X' e1 e2 h1 h2 h3 st
    subst h1; subst h2; subst h3
    exact Or.inl ⟨v, (T.setVm vm₁).calling g' mk (Value.ref b :: As).toArray, t, U', L, hT, X', hL, e1, e2, hq, st⟩
  · dsimp only [Pt.U, Pt.locs, Pt.cells, Pt.slots] at X' e1 e2 h1 h2 h3 st hcl
    subst h1; subst h2; subst h3
    exact Or.inr ⟨q, (T.setVm vm₁).calling g' mk (Value.ref b :: As).toArray, t, U', L, E, ce, hT, X', hL, e1, e2, hq, hce, hcv, vx_cls hW₁ hcl, st⟩
theorem vx_runSX {hh : List (Nat × Nat × Nat × Nat)} (S : CallFix p m c cc nL s args Ts own) (hM : vx_Met l y ws rm Pc Qc XC mc ms free) (cw : vx_CSW R s args own index y bytes maxL ret hh ws rm mc ms n) (hp : PreS s H Pc As)
    (hg : g.method = m) (hn : As.length = n) (hsize : g.locals.size = nL) (hstack : g.stack = As.reverse ++ rest) (hW : 2 * g.monitorRoom + (rest.map fun v => v.category).sum ≤ 8) (hdg : decode cc g.pc = .ok (.invokestatic index, 3)) (hf : cells + mc ≤ R.cells ∧ slots + ms ≤ R.slots) :
    vx_Run p l e R s m args below meth c H locs cells slots mc ms g rest (Qc As.toArray) XC free := by
  obtain ⟨⟨hrc, hrs, hfr, hlo, hws, hcw⟩, hcode, hini, hy, hlen, hl, hstt⟩ := cw
  have hK : vx_Back l R p e below s args y 3 8 (PreOf R mc ms Pc) (PostOf Qc mc ms free) (vx_Post XC mc ms free) := vx_backW (hh := hh) (bytes := bytes) (maxL := maxL) (ret := ret) hM hp.1 hrc hrs hfr hlo hws hcw (fun a' U hW => word_at hW (Or.inl (by first | rfl | simp [Cond.onTables, Cond.keeps, Cond.steady])) hini)
  obtain ⟨hx, hb, hml, ho, -⟩ := S
  intro T hT X
  rcases vx_callSX X hx (hh := hh) (bytes := bytes) (maxL := maxL) (ret := ret) ho hl hstt hini hcode hy hK hg (hsize.trans hml.symm) (argsL := As) (rest := rest) (fun sig h => hn.trans (hlen sig h)) hstack hW (by rw [hb]; exact hdg)
    (fun vm₁ hW₁ => ⟨hf.1, hf.2, hp.2 (T.setVm vm₁) hT hW₁⟩) with ⟨v, vm₁, ⟨U', l2, c2, s2⟩, hW₁, X', ⟨g', mk, t, L, e1, e2, hq, h1, hL, h2, h3⟩, st⟩ | ⟨q, vm₁, ⟨U', l2, c2, s2⟩, hW₁, X', ⟨g', mk, t, L, E, ce, e1, e2, hq, hce, hcv, hcl, h1, hL, h2, h3⟩, st⟩
  · dsimp only [Pt.U, Pt.locs, Pt.cells, Pt.slots] at X' e1 e2 h1 h2 h3 st
    subst h1; subst h2; subst h3
    exact Or.inl ⟨v, (T.setVm vm₁).calling g' mk As.toArray, t, U', L, hT, X', hL, e1, e2, hq, st⟩
  · dsimp only [Pt.U, Pt.locs, Pt.cells, Pt.slots] at X' e1 e2 h1 h2 h3 st hcl
    subst h1; subst h2; subst h3
    exact Or.inr ⟨q, (T.setVm vm₁).calling g' mk As.toArray, t, U', L, E, ce, hT, X', hL, e1, e2, hq, hce, hcv, vx_cls hW₁ hcl, st⟩
end
end VXH
theorem vx_ofWH {l : Launch} {y : MethodName} {ws ws' : List Cond} {rm : Room} {Pc : Array Value → State → Prop} {Qc : Array Value → State → Outcome → State → Prop} {XC : String → State → State → Prop} {mc ms : Nat} {free : Addr → Prop} {cc : ByteArray} {maxL : Nat} {ret : Option FieldType} {hh : List (Nat × Nat × Nat × Nat)}
    (hy : plainName y.cls = true) (hw : ws = Cond.codeWith y cc maxL ret hh :: ws')
    (body : ∀ p e s m args below meth c s₁, BodyLoose p l y (headSpec ws rm) cc maxL ret e s m args below meth c s₁ → c.maxLocals = maxL → Pc args s →
      W p l e (headSpec ws rm).room s m args below meth c s.heap [] 0 0 (vx_MQ below Qc XC args s mc ms free) (entryFrame m args maxL)) : vx_Met l y ws rm Pc Qc XC mc ms free := by
  refine MetFree.of_bodyS (code := cc) (maxLocals := maxL) (ret := ret) hy ?_ ?_
  · intro args s m h hn
    obtain ⟨m9, meth, c, hn9, h1, h2, h3, h4, -, h5, h6, -⟩ := Cond.codeWith_spec (atoms_spec (ws := ws) h _ (by rw [hw]; exact List.mem_cons_self))
    cases hn.symm.trans hn9
    exact ⟨meth, c, h1, h2, h3, h4, h5, h6⟩
  · intro p e s m args below meth c s₁ B hml hP _
    have hh0 : s₁.heap = s.heap := by rw [B.state]; rfl
    obtain ⟨t, a1, o, b1, b2, b3⟩ := body p e s m args below meth c s₁ B hml hP s₁ hh0 (Stand.of_body B)
    exact ⟨t, o, a1, b1, b2, b3⟩
/-! ===== END ===== -/
end
section
def RX0 : String := "CamMaker$Choice"
def TX0 : u_T := fun k => match k with
  | 0 => ("CamMaker$Choice", "plan", "LCamMaker$Plan;", true)
  | 1 => ("CamMaker$Choice", "trial", "LCamMaker$Profile;", true)
  | 2 => ("CamMaker$Choice", "bent", "[I", true)
  | 3 => ("CamMaker$Choice", "seconds", "[I", true)
  | 4 => ("CamMaker$Choice", "thirds", "[I", true)
  | 5 => ("CamMaker$Choice", "goods", "[Z", true)
  | 6 => ("CamMaker$Choice", "size", "I", false)
  | 7 => ("CamMaker$Choice", "links", "I", false)
  | 8 => ("CamMaker$Choice", "bestWay", "I", false)
  | 9 => ("CamMaker$Choice", "bestSecond", "I", false)
  | 10 => ("CamMaker$Choice", "bestThird", "I", false)
  | 11 => ("CamMaker$Choice", "bestGood", "Z", false)
  | _ => ("CamMaker$Choice", "fresh", "Z", false)
def tyX0 : Nat → FieldType := fun k => match k with
  | 0 => .object "CamMaker$Plan"
  | 1 => .object "CamMaker$Profile"
  | 2 => .array .int
  | 3 => .array .int
  | 4 => .array .int
  | 5 => .array .boolean
  | 6 => .int
  | 7 => .int
  | 8 => .int
  | 9 => .int
  | 10 => .int
  | 11 => .boolean
  | _ => .boolean
abbrev wsX00 : List Cond := u_ws RX0 TX0 13
theorem nmX0 : ∀ a, a < 13 → ∀ b, b < 13 → a ≠ b → (TX0 a).2.1 ≠ (TX0 b).2.1 := by decide +kernel
theorem tyX0_ok : ∀ k, k < 13 → parseFieldDescriptor (TX0 k).2.2.1 = some (tyX0 k) := by decide +kernel
abbrev cX0_init : ByteArray := prog_2_method_1_code
def yX0_init : MethodName := ⟨RX0, "<init>", "(LCamMaker$Plan;LCamMaker$Profile;)V"⟩
abbrev cX0_outdate : ByteArray := prog_2_method_2_code
def yX0_outdate : MethodName := ⟨RX0, "outdate", "()V"⟩
abbrev cX0_refresh : ByteArray := prog_2_method_3_code
def yX0_refresh : MethodName := ⟨RX0, "refresh", "()V"⟩
abbrev cX0_second : ByteArray := prog_2_method_4_code
def yX0_second : MethodName := ⟨RX0, "second", "()I"⟩
abbrev cX0_third : ByteArray := prog_2_method_5_code
def yX0_third : MethodName := ⟨RX0, "third", "()I"⟩
abbrev cX0_isGood : ByteArray := prog_2_method_6_code
def yX0_isGood : MethodName := ⟨RX0, "isGood", "()Z"⟩
abbrev cX0_lawOf : ByteArray := prog_2_method_7_code
def yX0_lawOf : MethodName := ⟨RX0, "lawOf", "(I)I"⟩
abbrev cX0_findBent : ByteArray := prog_2_method_8_code
def yX0_findBent : MethodName := ⟨RX0, "findBent", "()V"⟩
abbrev cX0_measureLink : ByteArray := prog_2_method_9_code
def yX0_measureLink : MethodName := ⟨RX0, "measureLink", "(I)V"⟩
abbrev cX0_measurePair : ByteArray := prog_2_method_10_code
def yX0_measurePair : MethodName := ⟨RX0, "measurePair", "(III)V"⟩
abbrev cX0_lawIn : ByteArray := prog_2_method_11_code
def yX0_lawIn : MethodName := ⟨RX0, "lawIn", "(II)I"⟩
abbrev cX0_compareAll : ByteArray := prog_2_method_12_code
def yX0_compareAll : MethodName := ⟨RX0, "compareAll", "()V"⟩
abbrev cX0_compare : ByteArray := prog_2_method_13_code
def yX0_compare : MethodName := ⟨RX0, "compare", "(I)V"⟩
abbrev cX0_isBetter : ByteArray := prog_2_method_14_code
def yX0_isBetter : MethodName := ⟨RX0, "isBetter", "(ZII)Z"⟩
def RX1 : String := "CamMaker$History"
def TX1 : u_T := fun k => match k with
  | 0 => ("CamMaker$History", "rows", "[I", true)
  | 1 => ("CamMaker$History", "kept", "I", false)
  | _ => ("CamMaker$History", "next", "I", false)
def tyX1 : Nat → FieldType := fun k => match k with
  | 0 => .array .int
  | 1 => .int
  | _ => .int
abbrev wsX10 : List Cond := u_ws RX1 TX1 3
theorem nmX1 : ∀ a, a < 3 → ∀ b, b < 3 → a ≠ b → (TX1 a).2.1 ≠ (TX1 b).2.1 := by decide +kernel
theorem tyX1_ok : ∀ k, k < 3 → parseFieldDescriptor (TX1 k).2.2.1 = some (tyX1 k) := by decide +kernel
abbrev cX1_init : ByteArray := prog_3_method_1_code
def yX1_init : MethodName := ⟨RX1, "<init>", "()V"⟩
abbrev cX1_size : ByteArray := prog_3_method_2_code
def yX1_size : MethodName := ⟨RX1, "size", "()I"⟩
abbrev cX1_forget : ByteArray := prog_3_method_3_code
def yX1_forget : MethodName := ⟨RX1, "forget", "()V"⟩
abbrev cX1_keep : ByteArray := prog_3_method_4_code
def yX1_keep : MethodName := ⟨RX1, "keep", "(LCamMaker$Plan;)V"⟩
abbrev cX1_restore : ByteArray := prog_3_method_5_code
def yX1_restore : MethodName := ⟨RX1, "restore", "(LCamMaker$Plan;)V"⟩
def RX2 : String := "CamMaker$Plan"
def TX2 : u_T := fun k => match k with
  | _ => ("CamMaker$Plan", "row", "[I", true)
def tyX2 : Nat → FieldType := fun k => match k with
  | _ => .array .int
abbrev wsX20 : List Cond := u_ws RX2 TX2 1
theorem nmX2 : ∀ a, a < 1 → ∀ b, b < 1 → a ≠ b → (TX2 a).2.1 ≠ (TX2 b).2.1 := by decide +kernel
theorem tyX2_ok : ∀ k, k < 1 → parseFieldDescriptor (TX2 k).2.2.1 = some (tyX2 k) := by decide +kernel
abbrev cX2_init : ByteArray := prog_4_method_1_code
def yX2_init : MethodName := ⟨RX2, "<init>", "()V"⟩
abbrev cX2_placeOf : ByteArray := prog_4_method_2_code
def yX2_placeOf : MethodName := ⟨RX2, "placeOf", "(II)I"⟩
abbrev cX2_placeOfMark : ByteArray := prog_4_method_3_code
def yX2_placeOfMark : MethodName := ⟨RX2, "placeOfMark", "(II)I"⟩
abbrev cX2_get : ByteArray := prog_4_method_4_code
def yX2_get : MethodName := ⟨RX2, "get", "(I)I"⟩
abbrev cX2_put : ByteArray := prog_4_method_5_code
def yX2_put : MethodName := ⟨RX2, "put", "(II)V"⟩
abbrev cX2_exchange : ByteArray := prog_4_method_6_code
def yX2_exchange : MethodName := ⟨RX2, "exchange", "(II)I"⟩
abbrev cX2_hasStep : ByteArray := prog_4_method_7_code
def yX2_hasStep : MethodName := ⟨RX2, "hasStep", "(I)Z"⟩
abbrev cX2_hasSegment : ByteArray := prog_4_method_8_code
def yX2_hasSegment : MethodName := ⟨RX2, "hasSegment", "(I)Z"⟩
abbrev cX2_hasMark : ByteArray := prog_4_method_9_code
def yX2_hasMark : MethodName := ⟨RX2, "hasMark", "(I)Z"⟩
abbrev cX2_removeMark : ByteArray := prog_4_method_10_code
def yX2_removeMark : MethodName := ⟨RX2, "removeMark", "(I)V"⟩
abbrev cX2_origin : ByteArray := prog_4_method_11_code
def yX2_origin : MethodName := ⟨RX2, "origin", "(I)I"⟩
abbrev cX2_longAheadOf : ByteArray := prog_4_method_12_code
def yX2_longAheadOf : MethodName := ⟨RX2, "longAheadOf", "(I)I"⟩
abbrev cX2_dwells : ByteArray := prog_4_method_13_code
def yX2_dwells : MethodName := ⟨RX2, "dwells", "(I)Z"⟩
abbrev cX2_countMoving : ByteArray := prog_4_method_14_code
def yX2_countMoving : MethodName := ⟨RX2, "countMoving", "()I"⟩
abbrev cX2_isWhole : ByteArray := prog_4_method_15_code
def yX2_isWhole : MethodName := ⟨RX2, "isWhole", "()Z"⟩
abbrev cX2_copyTo : ByteArray := prog_4_method_16_code
def yX2_copyTo : MethodName := ⟨RX2, "copyTo", "([II)V"⟩
abbrev cX2_copyFrom : ByteArray := prog_4_method_17_code
def yX2_copyFrom : MethodName := ⟨RX2, "copyFrom", "([II)V"⟩
def RX3 : String := "CamMaker$Profile"
def TX3 : u_T := fun k => match k with
  | 0 => ("CamMaker$Profile", "plan", "LCamMaker$Plan;", true)
  | 1 => ("CamMaker$Profile", "held", "[[J", true)
  | 2 => ("CamMaker$Profile", "steps", "I", false)
  | _ => ("CamMaker$Profile", "fresh", "Z", false)
def tyX3 : Nat → FieldType := fun k => match k with
  | 0 => .object "CamMaker$Plan"
  | 1 => .array (.array .long)
  | 2 => .int
  | _ => .boolean
abbrev wsX30 : List Cond := u_ws RX3 TX3 4
theorem nmX3 : ∀ a, a < 4 → ∀ b, b < 4 → a ≠ b → (TX3 a).2.1 ≠ (TX3 b).2.1 := by decide +kernel
theorem tyX3_ok : ∀ k, k < 4 → parseFieldDescriptor (TX3 k).2.2.1 = some (tyX3 k) := by decide +kernel
abbrev cX3_init : ByteArray := prog_5_method_1_code
def yX3_init : MethodName := ⟨RX3, "<init>", "(LCamMaker$Plan;)V"⟩
abbrev cX3_outdate : ByteArray := prog_5_method_2_code
def yX3_outdate : MethodName := ⟨RX3, "outdate", "()V"⟩
abbrev cX3_refresh : ByteArray := prog_5_method_3_code
def yX3_refresh : MethodName := ⟨RX3, "refresh", "()V"⟩
abbrev cX3_at : ByteArray := prog_5_method_4_code
def yX3_at : MethodName := ⟨RX3, "at", "(II)J"⟩
abbrev cX3_put : ByteArray := prog_5_method_5_code
def yX3_put : MethodName := ⟨RX3, "put", "(IIJ)V"⟩
abbrev cX3_draw : ByteArray := prog_5_method_6_code
def yX3_draw : MethodName := ⟨RX3, "draw", "()V"⟩
abbrev cX3_drawBy : ByteArray := prog_5_method_7_code
def yX3_drawBy : MethodName := ⟨RX3, "drawBy", "(II)V"⟩
abbrev cX3_riseBy : ByteArray := prog_5_method_8_code
def yX3_riseBy : MethodName := ⟨RX3, "riseBy", "(IJJJ)J"⟩
abbrev cX3_measure : ByteArray := prog_5_method_9_code
def yX3_measure : MethodName := ⟨RX3, "measure", "(I)V"⟩
abbrev cX3_measureRoller : ByteArray := prog_5_method_10_code
def yX3_measureRoller : MethodName := ⟨RX3, "measureRoller", "(IJJ)V"⟩
abbrev cX3_bend : ByteArray := prog_5_method_11_code
def yX3_bend : MethodName := ⟨RX3, "bend", "(JJJ)J"⟩
abbrev cX3_undercutOf : ByteArray := prog_5_method_12_code
def yX3_undercutOf : MethodName := ⟨RX3, "undercutOf", "(JJJ)I"⟩
abbrev cX3_rest : ByteArray := prog_5_method_13_code
def yX3_rest : MethodName := ⟨RX3, "rest", "(I)J"⟩
abbrev cX3_greatestSize : ByteArray := prog_5_method_14_code
def yX3_greatestSize : MethodName := ⟨RX3, "greatestSize", "(I)I"⟩
abbrev cX3_firstOfSize : ByteArray := prog_5_method_15_code
def yX3_firstOfSize : MethodName := ⟨RX3, "firstOfSize", "(II)I"⟩
abbrev cX3_timesOfSize : ByteArray := prog_5_method_16_code
def yX3_timesOfSize : MethodName := ⟨RX3, "timesOfSize", "(II)I"⟩
abbrev cX3_evenness : ByteArray := prog_5_method_17_code
def yX3_evenness : MethodName := ⟨RX3, "evenness", "(I)I"⟩
abbrev cX3_isBad : ByteArray := prog_5_method_18_code
def yX3_isBad : MethodName := ⟨RX3, "isBad", "(II)Z"⟩
abbrev cX3_countBad : ByteArray := prog_5_method_19_code
def yX3_countBad : MethodName := ⟨RX3, "countBad", "(I)I"⟩
abbrev cX3_findBad : ByteArray := prog_5_method_20_code
def yX3_findBad : MethodName := ⟨RX3, "findBad", "(II)I"⟩
abbrev cX3_firstGreatest : ByteArray := prog_5_method_21_code
def yX3_firstGreatest : MethodName := ⟨RX3, "firstGreatest", "(I)I"⟩
abbrev cX3_firstLeast : ByteArray := prog_5_method_22_code
def yX3_firstLeast : MethodName := ⟨RX3, "firstLeast", "(I)I"⟩
abbrev cX3_liftTogether : ByteArray := prog_5_method_23_code
def yX3_liftTogether : MethodName := ⟨RX3, "liftTogether", "()I"⟩
abbrev cX3_missOf : ByteArray := prog_5_method_24_code
def yX3_missOf : MethodName := ⟨RX3, "missOf", "(I)I"⟩
abbrev cX3_metBits : ByteArray := prog_5_method_25_code
def yX3_metBits : MethodName := ⟨RX3, "metBits", "()I"⟩
abbrev cX3_isGoodAt : ByteArray := prog_5_method_26_code
def yX3_isGoodAt : MethodName := ⟨RX3, "isGoodAt", "(I)Z"⟩
abbrev cX3_isGood : ByteArray := prog_5_method_27_code
def yX3_isGood : MethodName := ⟨RX3, "isGood", "()Z"⟩
abbrev cX3_greatestRoller : ByteArray := prog_5_method_28_code
def yX3_greatestRoller : MethodName := ⟨RX3, "greatestRoller", "()I"⟩
abbrev cX3_isCalm : ByteArray := prog_5_method_29_code
def yX3_isCalm : MethodName := ⟨RX3, "isCalm", "(I)Z"⟩
abbrev cX3_lowerToClear : ByteArray := prog_5_method_30_code
def yX3_lowerToClear : MethodName := ⟨RX3, "lowerToClear", "(II)I"⟩
abbrev cX3_clearUpTo : ByteArray := prog_5_method_31_code
def yX3_clearUpTo : MethodName := ⟨RX3, "clearUpTo", "(II)I"⟩
abbrev cX3_undercutBy : ByteArray := prog_5_method_32_code
def yX3_undercutBy : MethodName := ⟨RX3, "undercutBy", "(II)I"⟩
abbrev cX3_leastBase : ByteArray := prog_5_method_33_code
def yX3_leastBase : MethodName := ⟨RX3, "leastBase", "()I"⟩
abbrev cX3_greatestSpeed : ByteArray := prog_5_method_34_code
def yX3_greatestSpeed : MethodName := ⟨RX3, "greatestSpeed", "()I"⟩
def RX4 : String := "CamMaker"
def TX4 : u_T := fun k => match k with
  | 0 => ("CamMaker", "plan", "LCamMaker$Plan;", true)
  | 1 => ("CamMaker", "history", "LCamMaker$History;", true)
  | 2 => ("CamMaker", "profile", "LCamMaker$Profile;", true)
  | _ => ("CamMaker", "choice", "LCamMaker$Choice;", true)
def tyX4 : Nat → FieldType := fun k => match k with
  | 0 => .object "CamMaker$Plan"
  | 1 => .object "CamMaker$History"
  | 2 => .object "CamMaker$Profile"
  | _ => .object "CamMaker$Choice"
abbrev wsX40 : List Cond := u_ws RX4 TX4 4
theorem nmX4 : ∀ a, a < 4 → ∀ b, b < 4 → a ≠ b → (TX4 a).2.1 ≠ (TX4 b).2.1 := by decide +kernel
theorem tyX4_ok : ∀ k, k < 4 → parseFieldDescriptor (TX4 k).2.2.1 = some (tyX4 k) := by decide +kernel
abbrev cX4_init : ByteArray := prog_1_method_1_code
def yX4_init : MethodName := ⟨RX4, "<init>", "()V"⟩
abbrev cX4_steps : ByteArray := prog_1_method_2_code
def yX4_steps : MethodName := ⟨RX4, "steps", "(I)I"⟩
abbrev cX4_segment : ByteArray := prog_1_method_3_code
def yX4_segment : MethodName := ⟨RX4, "segment", "(III)I"⟩
abbrev cX4_alter : ByteArray := prog_1_method_4_code
def yX4_alter : MethodName := ⟨RX4, "alter", "(III)I"⟩
abbrev cX4_drop : ByteArray := prog_1_method_5_code
def yX4_drop : MethodName := ⟨RX4, "drop", "()I"⟩
abbrev cX4_start : ByteArray := prog_1_method_6_code
def yX4_start : MethodName := ⟨RX4, "start", "(I)I"⟩
abbrev cX4_base : ByteArray := prog_1_method_7_code
def yX4_base : MethodName := ⟨RX4, "base", "(I)I"⟩
abbrev cX4_roller : ByteArray := prog_1_method_8_code
def yX4_roller : MethodName := ⟨RX4, "roller", "(I)I"⟩
abbrev cX4_spring : ByteArray := prog_1_method_9_code
def yX4_spring : MethodName := ⟨RX4, "spring", "(III)Z"⟩
abbrev cX4_speed : ByteArray := prog_1_method_10_code
def yX4_speed : MethodName := ⟨RX4, "speed", "(I)I"⟩
abbrev cX4_steepest : ByteArray := prog_1_method_11_code
def yX4_steepest : MethodName := ⟨RX4, "steepest", "(I)I"⟩
abbrev cX4_slack : ByteArray := prog_1_method_12_code
def yX4_slack : MethodName := ⟨RX4, "slack", "(I)I"⟩
abbrev cX4_mark : ByteArray := prog_1_method_13_code
def yX4_mark : MethodName := ⟨RX4, "mark", "(III)I"⟩
abbrev cX4_unmark : ByteArray := prog_1_method_14_code
def yX4_unmark : MethodName := ⟨RX4, "unmark", "(I)Z"⟩
abbrev cX4_back : ByteArray := prog_1_method_15_code
def yX4_back : MethodName := ⟨RX4, "back", "()Z"⟩
abbrev cX4_of : ByteArray := prog_1_method_16_code
def yX4_of : MethodName := ⟨RX4, "of", "(II)I"⟩
abbrev cX4_lift : ByteArray := prog_1_method_17_code
def yX4_lift : MethodName := ⟨RX4, "lift", "(I)I"⟩
abbrev cX4_diff : ByteArray := prog_1_method_18_code
def yX4_diff : MethodName := ⟨RX4, "diff", "(II)I"⟩
abbrev cX4_most : ByteArray := prog_1_method_19_code
def yX4_most : MethodName := ⟨RX4, "most", "(II)I"⟩
abbrev cX4_border : ByteArray := prog_1_method_20_code
def yX4_border : MethodName := ⟨RX4, "border", "(I)I"⟩
abbrev cX4_shape : ByteArray := prog_1_method_21_code
def yX4_shape : MethodName := ⟨RX4, "shape", "(II)J"⟩
abbrev cX4_undercut : ByteArray := prog_1_method_22_code
def yX4_undercut : MethodName := ⟨RX4, "undercut", "(I)I"⟩
abbrev cX4_press : ByteArray := prog_1_method_23_code
def yX4_press : MethodName := ⟨RX4, "press", "(I)I"⟩
abbrev cX4_force : ByteArray := prog_1_method_24_code
def yX4_force : MethodName := ⟨RX4, "force", "(I)J"⟩
abbrev cX4_bad : ByteArray := prog_1_method_25_code
def yX4_bad : MethodName := ⟨RX4, "bad", "(II)I"⟩
abbrev cX4_top : ByteArray := prog_1_method_26_code
def yX4_top : MethodName := ⟨RX4, "top", "(I)I"⟩
abbrev cX4_met : ByteArray := prog_1_method_27_code
def yX4_met : MethodName := ⟨RX4, "met", "()I"⟩
abbrev cX4_marked : ByteArray := prog_1_method_28_code
def yX4_marked : MethodName := ⟨RX4, "marked", "(II)I"⟩
abbrev cX4_best : ByteArray := prog_1_method_29_code
def yX4_best : MethodName := ⟨RX4, "best", "(I)I"⟩
abbrev cX4_limit : ByteArray := prog_1_method_30_code
def yX4_limit : MethodName := ⟨RX4, "limit", "(I)I"⟩
abbrev cX4_count : ByteArray := prog_1_method_31_code
def yX4_count : MethodName := ⟨RX4, "count", "(I)I"⟩
abbrev cX4_change : ByteArray := prog_1_method_32_code
def yX4_change : MethodName := ⟨RX4, "change", "(II)I"⟩
abbrev cX4_remember : ByteArray := prog_1_method_33_code
def yX4_remember : MethodName := ⟨RX4, "remember", "()V"⟩
abbrev cX4_outdate : ByteArray := prog_1_method_34_code
def yX4_outdate : MethodName := ⟨RX4, "outdate", "()V"⟩
abbrev cX4_isDrawn : ByteArray := prog_1_method_35_code
def yX4_isDrawn : MethodName := ⟨RX4, "isDrawn", "()Z"⟩
abbrev cX4_isDifference : ByteArray := prog_1_method_36_code
def yX4_isDifference : MethodName := ⟨RX4, "isDifference", "(I)Z"⟩
abbrev cX4_fits : ByteArray := prog_1_method_37_code
def yX4_fits : MethodName := ⟨RX4, "fits", "(II)Z"⟩
abbrev cX4_fitsPart : ByteArray := prog_1_method_38_code
def yX4_fitsPart : MethodName := ⟨RX4, "fitsPart", "(II)Z"⟩
abbrev cX4_lies : ByteArray := prog_1_method_39_code
def yX4_lies : MethodName := ⟨RX4, "lies", "(II[I[I)Z"⟩
def RX5 : String := "CamMakerModel"
def TX5 : u_T := fun k => match k with
  | 0 => ("CamMakerModel", "thrown", "I", false)
  | 1 => ("CamMakerModel", "steps", "I", false)
  | 2 => ("CamMakerModel", "row", "[I", true)
  | 3 => ("CamMakerModel", "backs", "[I", true)
  | 4 => ("CamMakerModel", "backMany", "I", false)
  | 5 => ("CamMakerModel", "lift", "[I", true)
  | 6 => ("CamMakerModel", "laws", "[I", true)
  | 7 => ("CamMakerModel", "bestLaws", "[I", true)
  | 8 => ("CamMakerModel", "bestGood", "Z", false)
  | 9 => ("CamMakerModel", "bestSecond", "I", false)
  | _ => ("CamMakerModel", "bestThird", "I", false)
def tyX5 : Nat → FieldType := fun k => match k with
  | 0 => .int
  | 1 => .int
  | 2 => .array .int
  | 3 => .array .int
  | 4 => .int
  | 5 => .array .int
  | 6 => .array .int
  | 7 => .array .int
  | 8 => .boolean
  | 9 => .int
  | _ => .int
abbrev wsX50 : List Cond := u_ws RX5 TX5 11
theorem nmX5 : ∀ a, a < 11 → ∀ b, b < 11 → a ≠ b → (TX5 a).2.1 ≠ (TX5 b).2.1 := by decide +kernel
theorem tyX5_ok : ∀ k, k < 11 → parseFieldDescriptor (TX5 k).2.2.1 = some (tyX5 k) := by decide +kernel
abbrev cX5_thrown : ByteArray := prog_7_method_1_code
def yX5_thrown : MethodName := ⟨RX5, "thrown", "()I"⟩
abbrev cX5_within : ByteArray := prog_7_method_2_code
def yX5_within : MethodName := ⟨RX5, "within", "(JJJ)Z"⟩
abbrev cX5_init : ByteArray := prog_7_method_3_code
def yX5_init : MethodName := ⟨RX5, "<init>", "()V"⟩
abbrev cX5_keeps : ByteArray := prog_7_method_4_code
def yX5_keeps : MethodName := ⟨RX5, "keeps", "()V"⟩
abbrev cX5_steps : ByteArray := prog_7_method_5_code
def yX5_steps : MethodName := ⟨RX5, "steps", "(I)I"⟩
abbrev cX5_isSegment : ByteArray := prog_7_method_6_code
def yX5_isSegment : MethodName := ⟨RX5, "isSegment", "(I)Z"⟩
abbrev cX5_isMark : ByteArray := prog_7_method_7_code
def yX5_isMark : MethodName := ⟨RX5, "isMark", "(I)Z"⟩
abbrev cX5_isStep : ByteArray := prog_7_method_8_code
def yX5_isStep : MethodName := ⟨RX5, "isStep", "(I)Z"⟩
abbrev cX5_segment : ByteArray := prog_7_method_9_code
def yX5_segment : MethodName := ⟨RX5, "segment", "(III)I"⟩
abbrev cX5_tells : ByteArray := prog_7_method_10_code
def yX5_tells : MethodName := ⟨RX5, "tells", "(IZI)I"⟩
abbrev cX5_alter : ByteArray := prog_7_method_11_code
def yX5_alter : MethodName := ⟨RX5, "alter", "(III)I"⟩
abbrev cX5_drop : ByteArray := prog_7_method_12_code
def yX5_drop : MethodName := ⟨RX5, "drop", "()I"⟩
abbrev cX5_start : ByteArray := prog_7_method_13_code
def yX5_start : MethodName := ⟨RX5, "start", "(I)I"⟩
abbrev cX5_base : ByteArray := prog_7_method_14_code
def yX5_base : MethodName := ⟨RX5, "base", "(I)I"⟩
abbrev cX5_roller : ByteArray := prog_7_method_15_code
def yX5_roller : MethodName := ⟨RX5, "roller", "(I)I"⟩
abbrev cX5_spring : ByteArray := prog_7_method_16_code
def yX5_spring : MethodName := ⟨RX5, "spring", "(III)Z"⟩
abbrev cX5_speed : ByteArray := prog_7_method_17_code
def yX5_speed : MethodName := ⟨RX5, "speed", "(I)I"⟩
abbrev cX5_steepest : ByteArray := prog_7_method_18_code
def yX5_steepest : MethodName := ⟨RX5, "steepest", "(I)I"⟩
abbrev cX5_slack : ByteArray := prog_7_method_19_code
def yX5_slack : MethodName := ⟨RX5, "slack", "(I)I"⟩
abbrev cX5_mark : ByteArray := prog_7_method_20_code
def yX5_mark : MethodName := ⟨RX5, "mark", "(III)I"⟩
abbrev cX5_unmark : ByteArray := prog_7_method_21_code
def yX5_unmark : MethodName := ⟨RX5, "unmark", "(I)Z"⟩
abbrev cX5_back : ByteArray := prog_7_method_22_code
def yX5_back : MethodName := ⟨RX5, "back", "()Z"⟩
abbrev cX5_comesFrom : ByteArray := prog_7_method_23_code
def yX5_comesFrom : MethodName := ⟨RX5, "comesFrom", "(I)I"⟩
abbrev cX5_begins : ByteArray := prog_7_method_24_code
def yX5_begins : MethodName := ⟨RX5, "begins", "(I)I"⟩
abbrev cX5_isDwell : ByteArray := prog_7_method_25_code
def yX5_isDwell : MethodName := ⟨RX5, "isDwell", "(I)Z"⟩
abbrev cX5_isWhole : ByteArray := prog_7_method_26_code
def yX5_isWhole : MethodName := ⟨RX5, "isWhole", "()Z"⟩
abbrev cX5_of : ByteArray := prog_7_method_27_code
def yX5_of : MethodName := ⟨RX5, "of", "(II)I"⟩
abbrev cX5_power : ByteArray := prog_7_method_28_code
def yX5_power : MethodName := ⟨RX5, "power", "(JI)J"⟩
abbrev cX5_above : ByteArray := prog_7_method_29_code
def yX5_above : MethodName := ⟨RX5, "above", "(IJJ)J"⟩
abbrev cX5_below : ByteArray := prog_7_method_30_code
def yX5_below : MethodName := ⟨RX5, "below", "(IJ)J"⟩
abbrev cX5_cut : ByteArray := prog_7_method_31_code
def yX5_cut : MethodName := ⟨RX5, "cut", "(JJ)J"⟩
abbrev cX5_lays : ByteArray := prog_7_method_32_code
def yX5_lays : MethodName := ⟨RX5, "lays", "()V"⟩
abbrev cX5_isLaid : ByteArray := prog_7_method_33_code
def yX5_isLaid : MethodName := ⟨RX5, "isLaid", "()Z"⟩
abbrev cX5_liftAt : ByteArray := prog_7_method_34_code
def yX5_liftAt : MethodName := ⟨RX5, "liftAt", "(I)I"⟩
abbrev cX5_diffAt : ByteArray := prog_7_method_35_code
def yX5_diffAt : MethodName := ⟨RX5, "diffAt", "(II)I"⟩
abbrev cX5_size : ByteArray := prog_7_method_36_code
def yX5_size : MethodName := ⟨RX5, "size", "(I)I"⟩
abbrev cX5_lift : ByteArray := prog_7_method_37_code
def yX5_lift : MethodName := ⟨RX5, "lift", "(I)I"⟩
abbrev cX5_diff : ByteArray := prog_7_method_38_code
def yX5_diff : MethodName := ⟨RX5, "diff", "(II)I"⟩
abbrev cX5_greatest : ByteArray := prog_7_method_39_code
def yX5_greatest : MethodName := ⟨RX5, "greatest", "(I)I"⟩
abbrev cX5_most : ByteArray := prog_7_method_40_code
def yX5_most : MethodName := ⟨RX5, "most", "(II)I"⟩
abbrev cX5_border : ByteArray := prog_7_method_41_code
def yX5_border : MethodName := ⟨RX5, "border", "(I)I"⟩
abbrev cX5_farOf : ByteArray := prog_7_method_42_code
def yX5_farOf : MethodName := ⟨RX5, "farOf", "(I)J"⟩
abbrev cX5_quick : ByteArray := prog_7_method_43_code
def yX5_quick : MethodName := ⟨RX5, "quick", "(I)J"⟩
abbrev cX5_bent : ByteArray := prog_7_method_44_code
def yX5_bent : MethodName := ⟨RX5, "bent", "(I)J"⟩
abbrev cX5_bend : ByteArray := prog_7_method_45_code
def yX5_bend : MethodName := ⟨RX5, "bend", "(I)J"⟩
abbrev cX5_shape : ByteArray := prog_7_method_46_code
def yX5_shape : MethodName := ⟨RX5, "shape", "(II)J"⟩
abbrev cX5_product : ByteArray := prog_7_method_47_code
def yX5_product : MethodName := ⟨RX5, "product", "(JJ)J"⟩
abbrev cX5_undercutAt : ByteArray := prog_7_method_48_code
def yX5_undercutAt : MethodName := ⟨RX5, "undercutAt", "(I)I"⟩
abbrev cX5_pressAt : ByteArray := prog_7_method_49_code
def yX5_pressAt : MethodName := ⟨RX5, "pressAt", "(I)I"⟩
abbrev cX5_forceAt : ByteArray := prog_7_method_50_code
def yX5_forceAt : MethodName := ⟨RX5, "forceAt", "(I)J"⟩
abbrev cX5_undercut : ByteArray := prog_7_method_51_code
def yX5_undercut : MethodName := ⟨RX5, "undercut", "(I)I"⟩
abbrev cX5_press : ByteArray := prog_7_method_52_code
def yX5_press : MethodName := ⟨RX5, "press", "(I)I"⟩
abbrev cX5_force : ByteArray := prog_7_method_53_code
def yX5_force : MethodName := ⟨RX5, "force", "(I)J"⟩
abbrev cX5_isBad : ByteArray := prog_7_method_54_code
def yX5_isBad : MethodName := ⟨RX5, "isBad", "(II)Z"⟩
abbrev cX5_bad : ByteArray := prog_7_method_55_code
def yX5_bad : MethodName := ⟨RX5, "bad", "(II)I"⟩
abbrev cX5_top : ByteArray := prog_7_method_56_code
def yX5_top : MethodName := ⟨RX5, "top", "(I)I"⟩
abbrev cX5_offAt : ByteArray := prog_7_method_57_code
def yX5_offAt : MethodName := ⟨RX5, "offAt", "(I)I"⟩
abbrev cX5_metNow : ByteArray := prog_7_method_58_code
def yX5_metNow : MethodName := ⟨RX5, "metNow", "()I"⟩
abbrev cX5_met : ByteArray := prog_7_method_59_code
def yX5_met : MethodName := ⟨RX5, "met", "()I"⟩
abbrev cX5_marked : ByteArray := prog_7_method_60_code
def yX5_marked : MethodName := ⟨RX5, "marked", "(II)I"⟩
abbrev cX5_isGood : ByteArray := prog_7_method_61_code
def yX5_isGood : MethodName := ⟨RX5, "isGood", "()Z"⟩
abbrev cX5_turned : ByteArray := prog_7_method_62_code
def yX5_turned : MethodName := ⟨RX5, "turned", "()I"⟩
abbrev cX5_gives : ByteArray := prog_7_method_63_code
def yX5_gives : MethodName := ⟨RX5, "gives", "(II)V"⟩
abbrev cX5_takesWay : ByteArray := prog_7_method_64_code
def yX5_takesWay : MethodName := ⟨RX5, "takesWay", "()V"⟩
abbrev cX5_laysBest : ByteArray := prog_7_method_65_code
def yX5_laysBest : MethodName := ⟨RX5, "laysBest", "(I)V"⟩
abbrev cX5_best : ByteArray := prog_7_method_66_code
def yX5_best : MethodName := ⟨RX5, "best", "(I)I"⟩
abbrev cX5_isFree : ByteArray := prog_7_method_67_code
def yX5_isFree : MethodName := ⟨RX5, "isFree", "(III)Z"⟩
abbrev cX5_limit : ByteArray := prog_7_method_68_code
def yX5_limit : MethodName := ⟨RX5, "limit", "(I)I"⟩
abbrev cX5_count : ByteArray := prog_7_method_69_code
def yX5_count : MethodName := ⟨RX5, "count", "(I)I"⟩
def RJx145de : String := "java/io/Serializable"
def TJx145de : u_T := fun k => match k with
  | _ => ("", "", "", false)
def tyJx145de : Nat → FieldType := fun k => match k with
  | _ => .int
abbrev wsJx145de0 : List Cond := u_ws RJx145de TJx145de 0
theorem nmJx145de : ∀ a, a < 0 → ∀ b, b < 0 → a ≠ b → (TJx145de a).2.1 ≠ (TJx145de b).2.1 := by decide +kernel
theorem tyJx145de_ok : ∀ k, k < 0 → parseFieldDescriptor (TJx145de k).2.2.1 = some (tyJx145de k) := by decide +kernel
def RJ9 : String := "java/lang/Math"
def TJ9 : u_T := fun k => match k with
  | _ => ("", "", "", false)
def tyJ9 : Nat → FieldType := fun k => match k with
  | _ => .int
abbrev wsJ90 : List Cond := u_ws RJ9 TJ9 0
theorem nmJ9 : ∀ a, a < 0 → ∀ b, b < 0 → a ≠ b → (TJ9 a).2.1 ≠ (TJ9 b).2.1 := by decide +kernel
theorem tyJ9_ok : ∀ k, k < 0 → parseFieldDescriptor (TJ9 k).2.2.1 = some (tyJ9 k) := by decide +kernel
abbrev cJ9_floorDiv_f86c9 : ByteArray := prog_10_method_49_code
def yJ9_floorDiv_f86c9 : MethodName := ⟨RJ9, "floorDiv", "(JJ)J"⟩
abbrev cJ9_abs_067f4 : ByteArray := prog_10_method_61_code
def yJ9_abs_067f4 : MethodName := ⟨RJ9, "abs", "(J)J"⟩
abbrev cJ9_max_7cf53 : ByteArray := prog_10_method_65_code
def yJ9_max_7cf53 : MethodName := ⟨RJ9, "max", "(II)I"⟩
abbrev cJ9_max_f86c9 : ByteArray := prog_10_method_66_code
def yJ9_max_f86c9 : MethodName := ⟨RJ9, "max", "(JJ)J"⟩
abbrev cJ9_min_7cf53 : ByteArray := prog_10_method_69_code
def yJ9_min_7cf53 : MethodName := ⟨RJ9, "min", "(II)I"⟩
abbrev cJ9_min_f86c9 : ByteArray := prog_10_method_70_code
def yJ9_min_f86c9 : MethodName := ⟨RJ9, "min", "(JJ)J"⟩
def RJ10 : String := "java/lang/System"
def TJ10 : u_T := fun k => match k with
  | _ => ("", "", "", false)
def tyJ10 : Nat → FieldType := fun k => match k with
  | _ => .int
abbrev wsJ100 : List Cond := u_ws RJ10 TJ10 0
theorem nmJ10 : ∀ a, a < 0 → ∀ b, b < 0 → a ≠ b → (TJ10 a).2.1 ≠ (TJ10 b).2.1 := by decide +kernel
theorem tyJ10_ok : ∀ k, k < 0 → parseFieldDescriptor (TJ10 k).2.2.1 = some (tyJ10 k) := by decide +kernel
def RL : String := "CamMakerLaw"
abbrev cL_diff : ByteArray := method_3_code
def yL_diff : MethodName := ⟨RL, "diff", "(LCamMaker;II[J)I"⟩
abbrev cL_shape : ByteArray := method_4_code
def yL_shape : MethodName := ⟨RL, "shape", "(LCamMaker;II[J)I"⟩
abbrev cL_force : ByteArray := method_5_code
def yL_force : MethodName := ⟨RL, "force", "(LCamMaker;I[J)I"⟩
abbrev cL_law : ByteArray := code
def yL_law : MethodName := ⟨RL, "law", "([I)Z"⟩
abbrev vwCl : List vw_C := [(RX0, TX0, 13), (RX1, TX1, 3), (RX2, TX2, 1), (RX3, TX3, 4), (RX4, TX4, 4), (RX5, TX5, 11)]
end
section
theorem dX0_init_0 : decode cX0_init 0 = .ok (.aload_n 0, 1) := by decide +kernel
theorem dX0_init_1 : decode cX0_init 1 = .ok (.invokespecial 3, 3) := by decide +kernel
theorem dX0_init_4 : decode cX0_init 4 = .ok (.aload_n 0, 1) := by decide +kernel
theorem dX0_init_5 : decode cX0_init 5 = .ok (.bipush 6, 2) := by decide +kernel
theorem dX0_init_7 : decode cX0_init 7 = .ok (.newarray .int, 2) := by decide +kernel
theorem dX0_init_9 : decode cX0_init 9 = .ok (.putfield 9, 3) := by decide +kernel
theorem dX0_init_12 : decode cX0_init 12 = .ok (.aload_n 0, 1) := by decide +kernel
theorem dX0_init_13 : decode cX0_init 13 = .ok (.bipush 96, 2) := by decide +kernel
theorem dX0_init_15 : decode cX0_init 15 = .ok (.newarray .int, 2) := by decide +kernel
theorem dX0_init_17 : decode cX0_init 17 = .ok (.putfield 15, 3) := by decide +kernel
theorem dX0_init_20 : decode cX0_init 20 = .ok (.aload_n 0, 1) := by decide +kernel
theorem dX0_init_21 : decode cX0_init 21 = .ok (.bipush 96, 2) := by decide +kernel
theorem dX0_init_23 : decode cX0_init 23 = .ok (.newarray .int, 2) := by decide +kernel
theorem dX0_init_25 : decode cX0_init 25 = .ok (.putfield 18, 3) := by decide +kernel
theorem dX0_init_28 : decode cX0_init 28 = .ok (.aload_n 0, 1) := by decide +kernel
theorem dX0_init_29 : decode cX0_init 29 = .ok (.bipush 96, 2) := by decide +kernel
theorem dX0_init_31 : decode cX0_init 31 = .ok (.newarray .boolean, 2) := by decide +kernel
theorem dX0_init_33 : decode cX0_init 33 = .ok (.putfield 21, 3) := by decide +kernel
theorem dX0_init_36 : decode cX0_init 36 = .ok (.aload_n 0, 1) := by decide +kernel
theorem dX0_init_37 : decode cX0_init 37 = .ok (.aload_n 1, 1) := by decide +kernel
theorem dX0_init_38 : decode cX0_init 38 = .ok (.putfield 25, 3) := by decide +kernel
theorem dX0_init_41 : decode cX0_init 41 = .ok (.aload_n 0, 1) := by decide +kernel
theorem dX0_init_42 : decode cX0_init 42 = .ok (.aload_n 2, 1) := by decide +kernel
theorem dX0_init_43 : decode cX0_init 43 = .ok (.putfield 29, 3) := by decide +kernel
theorem dX0_init_46 : decode cX0_init 46 = .ok (.return_, 1) := by decide +kernel
theorem dX0_outdate_0 : decode cX0_outdate 0 = .ok (.aload_n 0, 1) := by decide +kernel
theorem dX0_outdate_1 : decode cX0_outdate 1 = .ok (.iconst 0, 1) := by decide +kernel
theorem dX0_outdate_2 : decode cX0_outdate 2 = .ok (.putfield 33, 3) := by decide +kernel
theorem dX0_outdate_5 : decode cX0_outdate 5 = .ok (.return_, 1) := by decide +kernel
theorem dX0_refresh_0 : decode cX0_refresh 0 = .ok (.aload_n 0, 1) := by decide +kernel
theorem dX0_refresh_1 : decode cX0_refresh 1 = .ok (.getfield 33, 3) := by decide +kernel
theorem dX0_refresh_4 : decode cX0_refresh 4 = .ok (.ifCond .ne 44, 3) := by decide +kernel
theorem dX0_refresh_7 : decode cX0_refresh 7 = .ok (.aload_n 0, 1) := by decide +kernel
theorem dX0_refresh_8 : decode cX0_refresh 8 = .ok (.iconst 1, 1) := by decide +kernel
theorem dX0_refresh_9 : decode cX0_refresh 9 = .ok (.putfield 33, 3) := by decide +kernel
theorem dX0_refresh_12 : decode cX0_refresh 12 = .ok (.aload_n 0, 1) := by decide +kernel
theorem dX0_refresh_13 : decode cX0_refresh 13 = .ok (.invokevirtual 37, 3) := by decide +kernel
theorem dX0_refresh_16 : decode cX0_refresh 16 = .ok (.aload_n 0, 1) := by decide +kernel
theorem dX0_refresh_17 : decode cX0_refresh 17 = .ok (.getfield 29, 3) := by decide +kernel
theorem dX0_refresh_20 : decode cX0_refresh 20 = .ok (.invokevirtual 40, 3) := by decide +kernel
theorem dX0_refresh_23 : decode cX0_refresh 23 = .ok (.iconst 0, 1) := by decide +kernel
theorem dX0_refresh_24 : decode cX0_refresh 24 = .ok (.istore_n 1, 1) := by decide +kernel
theorem dX0_refresh_25 : decode cX0_refresh 25 = .ok (.iload_n 1, 1) := by decide +kernel
theorem dX0_refresh_26 : decode cX0_refresh 26 = .ok (.aload_n 0, 1) := by decide +kernel
theorem dX0_refresh_27 : decode cX0_refresh 27 = .ok (.getfield 45, 3) := by decide +kernel
theorem dX0_refresh_30 : decode cX0_refresh 30 = .ok (.if_icmp .ge 14, 3) := by decide +kernel
theorem dX0_refresh_33 : decode cX0_refresh 33 = .ok (.aload_n 0, 1) := by decide +kernel
theorem dX0_refresh_34 : decode cX0_refresh 34 = .ok (.iload_n 1, 1) := by decide +kernel
theorem dX0_refresh_35 : decode cX0_refresh 35 = .ok (.invokevirtual 49, 3) := by decide +kernel
theorem dX0_refresh_38 : decode cX0_refresh 38 = .ok (.iinc 1 1, 3) := by decide +kernel
theorem dX0_refresh_41 : decode cX0_refresh 41 = .ok (.goto (-16), 3) := by decide +kernel
theorem dX0_refresh_44 : decode cX0_refresh 44 = .ok (.aload_n 0, 1) := by decide +kernel
theorem dX0_refresh_45 : decode cX0_refresh 45 = .ok (.invokevirtual 53, 3) := by decide +kernel
theorem dX0_refresh_48 : decode cX0_refresh 48 = .ok (.return_, 1) := by decide +kernel
theorem dX0_second_0 : decode cX0_second 0 = .ok (.aload_n 0, 1) := by decide +kernel
theorem dX0_second_1 : decode cX0_second 1 = .ok (.getfield 56, 3) := by decide +kernel
theorem dX0_second_4 : decode cX0_second 4 = .ok (.ireturn, 1) := by decide +kernel
theorem dX0_third_0 : decode cX0_third 0 = .ok (.aload_n 0, 1) := by decide +kernel
theorem dX0_third_1 : decode cX0_third 1 = .ok (.getfield 59, 3) := by decide +kernel
theorem dX0_third_4 : decode cX0_third 4 = .ok (.ireturn, 1) := by decide +kernel
theorem dX0_isGood_0 : decode cX0_isGood 0 = .ok (.aload_n 0, 1) := by decide +kernel
theorem dX0_isGood_1 : decode cX0_isGood 1 = .ok (.getfield 62, 3) := by decide +kernel
theorem dX0_isGood_4 : decode cX0_isGood 4 = .ok (.ireturn, 1) := by decide +kernel
theorem dX0_lawOf_0 : decode cX0_lawOf 0 = .ok (.aload_n 0, 1) := by decide +kernel
theorem dX0_lawOf_1 : decode cX0_lawOf 1 = .ok (.getfield 25, 3) := by decide +kernel
theorem dX0_lawOf_4 : decode cX0_lawOf 4 = .ok (.iload_n 1, 1) := by decide +kernel
theorem dX0_lawOf_5 : decode cX0_lawOf 5 = .ok (.invokevirtual 65, 3) := by decide +kernel
theorem dX0_lawOf_8 : decode cX0_lawOf 8 = .ok (.ifCond .eq 16, 3) := by decide +kernel
theorem dX0_lawOf_11 : decode cX0_lawOf 11 = .ok (.aload_n 0, 1) := by decide +kernel
theorem dX0_lawOf_12 : decode cX0_lawOf 12 = .ok (.getfield 25, 3) := by decide +kernel
theorem dX0_lawOf_15 : decode cX0_lawOf 15 = .ok (.iload_n 1, 1) := by decide +kernel
theorem dX0_lawOf_16 : decode cX0_lawOf 16 = .ok (.iconst 2, 1) := by decide +kernel
theorem dX0_lawOf_17 : decode cX0_lawOf 17 = .ok (.invokestatic 71, 3) := by decide +kernel
theorem dX0_lawOf_20 : decode cX0_lawOf 20 = .ok (.invokevirtual 75, 3) := by decide +kernel
theorem dX0_lawOf_23 : decode cX0_lawOf 23 = .ok (.ireturn, 1) := by decide +kernel
theorem dX0_lawOf_24 : decode cX0_lawOf 24 = .ok (.iconst 0, 1) := by decide +kernel
theorem dX0_lawOf_25 : decode cX0_lawOf 25 = .ok (.istore_n 2, 1) := by decide +kernel
theorem dX0_lawOf_26 : decode cX0_lawOf 26 = .ok (.iload_n 2, 1) := by decide +kernel
theorem dX0_lawOf_27 : decode cX0_lawOf 27 = .ok (.aload_n 0, 1) := by decide +kernel
theorem dX0_lawOf_28 : decode cX0_lawOf 28 = .ok (.getfield 79, 3) := by decide +kernel
theorem dX0_lawOf_31 : decode cX0_lawOf 31 = .ok (.if_icmp .ge 38, 3) := by decide +kernel
theorem dX0_lawOf_34 : decode cX0_lawOf 34 = .ok (.iload_n 2, 1) := by decide +kernel
theorem dX0_lawOf_35 : decode cX0_lawOf 35 = .ok (.aload_n 0, 1) := by decide +kernel
theorem dX0_lawOf_36 : decode cX0_lawOf 36 = .ok (.getfield 9, 3) := by decide +kernel
theorem dX0_lawOf_39 : decode cX0_lawOf 39 = .ok (.arraylength, 1) := by decide +kernel
theorem dX0_lawOf_40 : decode cX0_lawOf 40 = .ok (.if_icmp .ge 29, 3) := by decide +kernel
theorem dX0_lawOf_43 : decode cX0_lawOf 43 = .ok (.aload_n 0, 1) := by decide +kernel
theorem dX0_lawOf_44 : decode cX0_lawOf 44 = .ok (.getfield 9, 3) := by decide +kernel
theorem dX0_lawOf_47 : decode cX0_lawOf 47 = .ok (.iload_n 2, 1) := by decide +kernel
theorem dX0_lawOf_48 : decode cX0_lawOf 48 = .ok (.iaload, 1) := by decide +kernel
theorem dX0_lawOf_49 : decode cX0_lawOf 49 = .ok (.iload_n 1, 1) := by decide +kernel
theorem dX0_lawOf_50 : decode cX0_lawOf 50 = .ok (.if_icmp .ne 13, 3) := by decide +kernel
theorem dX0_lawOf_53 : decode cX0_lawOf 53 = .ok (.aload_n 0, 1) := by decide +kernel
theorem dX0_lawOf_54 : decode cX0_lawOf 54 = .ok (.aload_n 0, 1) := by decide +kernel
theorem dX0_lawOf_55 : decode cX0_lawOf 55 = .ok (.getfield 82, 3) := by decide +kernel
theorem dX0_lawOf_58 : decode cX0_lawOf 58 = .ok (.iload_n 2, 1) := by decide +kernel
theorem dX0_lawOf_59 : decode cX0_lawOf 59 = .ok (.invokevirtual 85, 3) := by decide +kernel
theorem dX0_lawOf_62 : decode cX0_lawOf 62 = .ok (.ireturn, 1) := by decide +kernel
theorem dX0_lawOf_63 : decode cX0_lawOf 63 = .ok (.iinc 2 1, 3) := by decide +kernel
theorem dX0_lawOf_66 : decode cX0_lawOf 66 = .ok (.goto (-40), 3) := by decide +kernel
theorem dX0_lawOf_69 : decode cX0_lawOf 69 = .ok (.iconst 0, 1) := by decide +kernel
theorem dX0_lawOf_70 : decode cX0_lawOf 70 = .ok (.ireturn, 1) := by decide +kernel
theorem dX0_findBent_0 : decode cX0_findBent 0 = .ok (.aload_n 0, 1) := by decide +kernel
theorem dX0_findBent_1 : decode cX0_findBent 1 = .ok (.iconst 0, 1) := by decide +kernel
theorem dX0_findBent_2 : decode cX0_findBent 2 = .ok (.putfield 79, 3) := by decide +kernel
theorem dX0_findBent_5 : decode cX0_findBent 5 = .ok (.iconst 0, 1) := by decide +kernel
theorem dX0_findBent_6 : decode cX0_findBent 6 = .ok (.istore_n 1, 1) := by decide +kernel
theorem dX0_findBent_7 : decode cX0_findBent 7 = .ok (.iload_n 1, 1) := by decide +kernel
theorem dX0_findBent_8 : decode cX0_findBent 8 = .ok (.aload_n 0, 1) := by decide +kernel
theorem dX0_findBent_9 : decode cX0_findBent 9 = .ok (.getfield 25, 3) := by decide +kernel
theorem dX0_findBent_12 : decode cX0_findBent 12 = .ok (.iconst 1, 1) := by decide +kernel
theorem dX0_findBent_13 : decode cX0_findBent 13 = .ok (.invokevirtual 75, 3) := by decide +kernel
theorem dX0_findBent_16 : decode cX0_findBent 16 = .ok (.if_icmp .ge 68, 3) := by decide +kernel
theorem dX0_findBent_19 : decode cX0_findBent 19 = .ok (.aload_n 0, 1) := by decide +kernel
theorem dX0_findBent_20 : decode cX0_findBent 20 = .ok (.getfield 25, 3) := by decide +kernel
theorem dX0_findBent_23 : decode cX0_findBent 23 = .ok (.iload_n 1, 1) := by decide +kernel
theorem dX0_findBent_24 : decode cX0_findBent 24 = .ok (.invokevirtual 65, 3) := by decide +kernel
theorem dX0_findBent_27 : decode cX0_findBent 27 = .ok (.ifCond .ne 51, 3) := by decide +kernel
theorem dX0_findBent_30 : decode cX0_findBent 30 = .ok (.aload_n 0, 1) := by decide +kernel
theorem dX0_findBent_31 : decode cX0_findBent 31 = .ok (.getfield 25, 3) := by decide +kernel
theorem dX0_findBent_34 : decode cX0_findBent 34 = .ok (.iload_n 1, 1) := by decide +kernel
theorem dX0_findBent_35 : decode cX0_findBent 35 = .ok (.iconst 0, 1) := by decide +kernel
theorem dX0_findBent_36 : decode cX0_findBent 36 = .ok (.invokestatic 71, 3) := by decide +kernel
theorem dX0_findBent_39 : decode cX0_findBent 39 = .ok (.invokevirtual 75, 3) := by decide +kernel
theorem dX0_findBent_42 : decode cX0_findBent 42 = .ok (.iconst 1, 1) := by decide +kernel
theorem dX0_findBent_43 : decode cX0_findBent 43 = .ok (.if_icmp .le 35, 3) := by decide +kernel
theorem dX0_findBent_46 : decode cX0_findBent 46 = .ok (.aload_n 0, 1) := by decide +kernel
theorem dX0_findBent_47 : decode cX0_findBent 47 = .ok (.getfield 79, 3) := by decide +kernel
theorem dX0_findBent_50 : decode cX0_findBent 50 = .ok (.aload_n 0, 1) := by decide +kernel
theorem dX0_findBent_51 : decode cX0_findBent 51 = .ok (.getfield 9, 3) := by decide +kernel
theorem dX0_findBent_54 : decode cX0_findBent 54 = .ok (.arraylength, 1) := by decide +kernel
theorem dX0_findBent_55 : decode cX0_findBent 55 = .ok (.if_icmp .ge 23, 3) := by decide +kernel
theorem dX0_findBent_58 : decode cX0_findBent 58 = .ok (.aload_n 0, 1) := by decide +kernel
theorem dX0_findBent_59 : decode cX0_findBent 59 = .ok (.getfield 9, 3) := by decide +kernel
theorem dX0_findBent_62 : decode cX0_findBent 62 = .ok (.aload_n 0, 1) := by decide +kernel
theorem dX0_findBent_63 : decode cX0_findBent 63 = .ok (.getfield 79, 3) := by decide +kernel
theorem dX0_findBent_66 : decode cX0_findBent 66 = .ok (.iload_n 1, 1) := by decide +kernel
theorem dX0_findBent_67 : decode cX0_findBent 67 = .ok (.iastore, 1) := by decide +kernel
theorem dX0_findBent_68 : decode cX0_findBent 68 = .ok (.aload_n 0, 1) := by decide +kernel
theorem dX0_findBent_69 : decode cX0_findBent 69 = .ok (.dup, 1) := by decide +kernel
theorem dX0_findBent_70 : decode cX0_findBent 70 = .ok (.getfield 79, 3) := by decide +kernel
theorem dX0_findBent_73 : decode cX0_findBent 73 = .ok (.iconst 1, 1) := by decide +kernel
theorem dX0_findBent_74 : decode cX0_findBent 74 = .ok (.iadd, 1) := by decide +kernel
theorem dX0_findBent_75 : decode cX0_findBent 75 = .ok (.putfield 79, 3) := by decide +kernel
theorem dX0_findBent_78 : decode cX0_findBent 78 = .ok (.iinc 1 1, 3) := by decide +kernel
theorem dX0_findBent_81 : decode cX0_findBent 81 = .ok (.goto (-74), 3) := by decide +kernel
theorem dX0_findBent_84 : decode cX0_findBent 84 = .ok (.aload_n 0, 1) := by decide +kernel
theorem dX0_findBent_85 : decode cX0_findBent 85 = .ok (.iconst 1, 1) := by decide +kernel
theorem dX0_findBent_86 : decode cX0_findBent 86 = .ok (.aload_n 0, 1) := by decide +kernel
theorem dX0_findBent_87 : decode cX0_findBent 87 = .ok (.getfield 79, 3) := by decide +kernel
theorem dX0_findBent_90 : decode cX0_findBent 90 = .ok (.invokestatic 88, 3) := by decide +kernel
theorem dX0_findBent_93 : decode cX0_findBent 93 = .ok (.putfield 45, 3) := by decide +kernel
theorem dX0_findBent_96 : decode cX0_findBent 96 = .ok (.return_, 1) := by decide +kernel
theorem dX0_measureLink_0 : decode cX0_measureLink 0 = .ok (.aload_n 0, 1) := by decide +kernel
theorem dX0_measureLink_1 : decode cX0_measureLink 1 = .ok (.getfield 25, 3) := by decide +kernel
theorem dX0_measureLink_4 : decode cX0_measureLink 4 = .ok (.iconst 0, 1) := by decide +kernel
theorem dX0_measureLink_5 : decode cX0_measureLink 5 = .ok (.invokevirtual 75, 3) := by decide +kernel
theorem dX0_measureLink_8 : decode cX0_measureLink 8 = .ok (.istore_n 2, 1) := by decide +kernel
theorem dX0_measureLink_9 : decode cX0_measureLink 9 = .ok (.aload_n 0, 1) := by decide +kernel
theorem dX0_measureLink_10 : decode cX0_measureLink 10 = .ok (.getfield 79, 3) := by decide +kernel
theorem dX0_measureLink_13 : decode cX0_measureLink 13 = .ok (.ifCond .ne 11, 3) := by decide +kernel
theorem dX0_measureLink_16 : decode cX0_measureLink 16 = .ok (.aload_n 0, 1) := by decide +kernel
theorem dX0_measureLink_17 : decode cX0_measureLink 17 = .ok (.iconst 0, 1) := by decide +kernel
theorem dX0_measureLink_18 : decode cX0_measureLink 18 = .ok (.iconst 0, 1) := by decide +kernel
theorem dX0_measureLink_19 : decode cX0_measureLink 19 = .ok (.iload_n 2, 1) := by decide +kernel
theorem dX0_measureLink_20 : decode cX0_measureLink 20 = .ok (.invokevirtual 93, 3) := by decide +kernel
theorem dX0_measureLink_23 : decode cX0_measureLink 23 = .ok (.return_, 1) := by decide +kernel
theorem dX0_measureLink_24 : decode cX0_measureLink 24 = .ok (.iload_n 1, 1) := by decide +kernel
theorem dX0_measureLink_25 : decode cX0_measureLink 25 = .ok (.iconst 1, 1) := by decide +kernel
theorem dX0_measureLink_26 : decode cX0_measureLink 26 = .ok (.iadd, 1) := by decide +kernel
theorem dX0_measureLink_27 : decode cX0_measureLink 27 = .ok (.aload_n 0, 1) := by decide +kernel
theorem dX0_measureLink_28 : decode cX0_measureLink 28 = .ok (.getfield 79, 3) := by decide +kernel
theorem dX0_measureLink_31 : decode cX0_measureLink 31 = .ok (.if_icmp .ge 9, 3) := by decide +kernel
theorem dX0_measureLink_34 : decode cX0_measureLink 34 = .ok (.iload_n 1, 1) := by decide +kernel
theorem dX0_measureLink_35 : decode cX0_measureLink 35 = .ok (.iconst 1, 1) := by decide +kernel
theorem dX0_measureLink_36 : decode cX0_measureLink 36 = .ok (.iadd, 1) := by decide +kernel
theorem dX0_measureLink_37 : decode cX0_measureLink 37 = .ok (.goto 4, 3) := by decide +kernel
theorem dX0_measureLink_40 : decode cX0_measureLink 40 = .ok (.iconst 0, 1) := by decide +kernel
theorem dX0_measureLink_41 : decode cX0_measureLink 41 = .ok (.istore_n 3, 1) := by decide +kernel
theorem dX0_measureLink_42 : decode cX0_measureLink 42 = .ok (.iload_n 1, 1) := by decide +kernel
theorem dX0_measureLink_43 : decode cX0_measureLink 43 = .ok (.ifCond .lt 21, 3) := by decide +kernel
theorem dX0_measureLink_46 : decode cX0_measureLink 46 = .ok (.iload_n 1, 1) := by decide +kernel
theorem dX0_measureLink_47 : decode cX0_measureLink 47 = .ok (.aload_n 0, 1) := by decide +kernel
theorem dX0_measureLink_48 : decode cX0_measureLink 48 = .ok (.getfield 9, 3) := by decide +kernel
theorem dX0_measureLink_51 : decode cX0_measureLink 51 = .ok (.arraylength, 1) := by decide +kernel
theorem dX0_measureLink_52 : decode cX0_measureLink 52 = .ok (.if_icmp .ge 12, 3) := by decide +kernel
theorem dX0_measureLink_55 : decode cX0_measureLink 55 = .ok (.iload_n 3, 1) := by decide +kernel
theorem dX0_measureLink_56 : decode cX0_measureLink 56 = .ok (.aload_n 0, 1) := by decide +kernel
theorem dX0_measureLink_57 : decode cX0_measureLink 57 = .ok (.getfield 9, 3) := by decide +kernel
theorem dX0_measureLink_60 : decode cX0_measureLink 60 = .ok (.arraylength, 1) := by decide +kernel
theorem dX0_measureLink_61 : decode cX0_measureLink 61 = .ok (.if_icmp .lt 4, 3) := by decide +kernel
theorem dX0_measureLink_64 : decode cX0_measureLink 64 = .ok (.return_, 1) := by decide +kernel
theorem dX0_measureLink_65 : decode cX0_measureLink 65 = .ok (.aload_n 0, 1) := by decide +kernel
theorem dX0_measureLink_66 : decode cX0_measureLink 66 = .ok (.getfield 25, 3) := by decide +kernel
theorem dX0_measureLink_69 : decode cX0_measureLink 69 = .ok (.aload_n 0, 1) := by decide +kernel
theorem dX0_measureLink_70 : decode cX0_measureLink 70 = .ok (.getfield 9, 3) := by decide +kernel
theorem dX0_measureLink_73 : decode cX0_measureLink 73 = .ok (.iload_n 1, 1) := by decide +kernel
theorem dX0_measureLink_74 : decode cX0_measureLink 74 = .ok (.iaload, 1) := by decide +kernel
theorem dX0_measureLink_75 : decode cX0_measureLink 75 = .ok (.invokevirtual 97, 3) := by decide +kernel
theorem dX0_measureLink_78 : decode cX0_measureLink 78 = .ok (.istore 4, 2) := by decide +kernel
theorem dX0_measureLink_80 : decode cX0_measureLink 80 = .ok (.aload_n 0, 1) := by decide +kernel
theorem dX0_measureLink_81 : decode cX0_measureLink 81 = .ok (.getfield 25, 3) := by decide +kernel
theorem dX0_measureLink_84 : decode cX0_measureLink 84 = .ok (.aload_n 0, 1) := by decide +kernel
theorem dX0_measureLink_85 : decode cX0_measureLink 85 = .ok (.getfield 9, 3) := by decide +kernel
theorem dX0_measureLink_88 : decode cX0_measureLink 88 = .ok (.iload_n 3, 1) := by decide +kernel
theorem dX0_measureLink_89 : decode cX0_measureLink 89 = .ok (.iaload, 1) := by decide +kernel
theorem dX0_measureLink_90 : decode cX0_measureLink 90 = .ok (.invokevirtual 97, 3) := by decide +kernel
theorem dX0_measureLink_93 : decode cX0_measureLink 93 = .ok (.iload 4, 2) := by decide +kernel
theorem dX0_measureLink_95 : decode cX0_measureLink 95 = .ok (.isub, 1) := by decide +kernel
theorem dX0_measureLink_96 : decode cX0_measureLink 96 = .ok (.istore 5, 2) := by decide +kernel
theorem dX0_measureLink_98 : decode cX0_measureLink 98 = .ok (.iconst 0, 1) := by decide +kernel
theorem dX0_measureLink_99 : decode cX0_measureLink 99 = .ok (.istore 6, 2) := by decide +kernel
theorem dX0_measureLink_101 : decode cX0_measureLink 101 = .ok (.iload 6, 2) := by decide +kernel
theorem dX0_measureLink_103 : decode cX0_measureLink 103 = .ok (.iconst 4, 1) := by decide +kernel
theorem dX0_measureLink_104 : decode cX0_measureLink 104 = .ok (.if_icmp .ge 86, 3) := by decide +kernel
theorem dX0_measureLink_107 : decode cX0_measureLink 107 = .ok (.aload_n 0, 1) := by decide +kernel
theorem dX0_measureLink_108 : decode cX0_measureLink 108 = .ok (.getfield 29, 3) := by decide +kernel
theorem dX0_measureLink_111 : decode cX0_measureLink 111 = .ok (.iload 6, 2) := by decide +kernel
theorem dX0_measureLink_113 : decode cX0_measureLink 113 = .ok (.aload_n 0, 1) := by decide +kernel
theorem dX0_measureLink_114 : decode cX0_measureLink 114 = .ok (.getfield 9, 3) := by decide +kernel
theorem dX0_measureLink_117 : decode cX0_measureLink 117 = .ok (.iload_n 1, 1) := by decide +kernel
theorem dX0_measureLink_118 : decode cX0_measureLink 118 = .ok (.iaload, 1) := by decide +kernel
theorem dX0_measureLink_119 : decode cX0_measureLink 119 = .ok (.invokevirtual 100, 3) := by decide +kernel
theorem dX0_measureLink_122 : decode cX0_measureLink 122 = .ok (.iconst 0, 1) := by decide +kernel
theorem dX0_measureLink_123 : decode cX0_measureLink 123 = .ok (.istore 7, 2) := by decide +kernel
theorem dX0_measureLink_125 : decode cX0_measureLink 125 = .ok (.iload 7, 2) := by decide +kernel
theorem dX0_measureLink_127 : decode cX0_measureLink 127 = .ok (.iconst 4, 1) := by decide +kernel
theorem dX0_measureLink_128 : decode cX0_measureLink 128 = .ok (.if_icmp .ge 56, 3) := by decide +kernel
theorem dX0_measureLink_131 : decode cX0_measureLink 131 = .ok (.aload_n 0, 1) := by decide +kernel
theorem dX0_measureLink_132 : decode cX0_measureLink 132 = .ok (.getfield 29, 3) := by decide +kernel
theorem dX0_measureLink_135 : decode cX0_measureLink 135 = .ok (.iload 7, 2) := by decide +kernel
theorem dX0_measureLink_137 : decode cX0_measureLink 137 = .ok (.aload_n 0, 1) := by decide +kernel
theorem dX0_measureLink_138 : decode cX0_measureLink 138 = .ok (.getfield 9, 3) := by decide +kernel
theorem dX0_measureLink_141 : decode cX0_measureLink 141 = .ok (.iload_n 3, 1) := by decide +kernel
theorem dX0_measureLink_142 : decode cX0_measureLink 142 = .ok (.iaload, 1) := by decide +kernel
theorem dX0_measureLink_143 : decode cX0_measureLink 143 = .ok (.invokevirtual 100, 3) := by decide +kernel
theorem dX0_measureLink_146 : decode cX0_measureLink 146 = .ok (.aload_n 0, 1) := by decide +kernel
theorem dX0_measureLink_147 : decode cX0_measureLink 147 = .ok (.iload_n 1, 1) := by decide +kernel
theorem dX0_measureLink_148 : decode cX0_measureLink 148 = .ok (.bipush 16, 2) := by decide +kernel
theorem dX0_measureLink_150 : decode cX0_measureLink 150 = .ok (.imul, 1) := by decide +kernel
theorem dX0_measureLink_151 : decode cX0_measureLink 151 = .ok (.iload 6, 2) := by decide +kernel
theorem dX0_measureLink_153 : decode cX0_measureLink 153 = .ok (.iconst 4, 1) := by decide +kernel
theorem dX0_measureLink_154 : decode cX0_measureLink 154 = .ok (.imul, 1) := by decide +kernel
theorem dX0_measureLink_155 : decode cX0_measureLink 155 = .ok (.iadd, 1) := by decide +kernel
theorem dX0_measureLink_156 : decode cX0_measureLink 156 = .ok (.iload 7, 2) := by decide +kernel
theorem dX0_measureLink_158 : decode cX0_measureLink 158 = .ok (.iadd, 1) := by decide +kernel
theorem dX0_measureLink_159 : decode cX0_measureLink 159 = .ok (.iload 4, 2) := by decide +kernel
theorem dX0_measureLink_161 : decode cX0_measureLink 161 = .ok (.iload 5, 2) := by decide +kernel
theorem dX0_measureLink_163 : decode cX0_measureLink 163 = .ok (.ifCond .le 8, 3) := by decide +kernel
theorem dX0_measureLink_166 : decode cX0_measureLink 166 = .ok (.iload 5, 2) := by decide +kernel
theorem dX0_measureLink_168 : decode cX0_measureLink 168 = .ok (.goto 7, 3) := by decide +kernel
theorem dX0_measureLink_171 : decode cX0_measureLink 171 = .ok (.iload 5, 2) := by decide +kernel
theorem dX0_measureLink_173 : decode cX0_measureLink 173 = .ok (.iload_n 2, 1) := by decide +kernel
theorem dX0_measureLink_174 : decode cX0_measureLink 174 = .ok (.iadd, 1) := by decide +kernel
theorem dX0_measureLink_175 : decode cX0_measureLink 175 = .ok (.invokevirtual 93, 3) := by decide +kernel
theorem dX0_measureLink_178 : decode cX0_measureLink 178 = .ok (.iinc 7 1, 3) := by decide +kernel
theorem dX0_measureLink_181 : decode cX0_measureLink 181 = .ok (.goto (-56), 3) := by decide +kernel
theorem dX0_measureLink_184 : decode cX0_measureLink 184 = .ok (.iinc 6 1, 3) := by decide +kernel
theorem dX0_measureLink_187 : decode cX0_measureLink 187 = .ok (.goto (-86), 3) := by decide +kernel
theorem dX0_measureLink_190 : decode cX0_measureLink 190 = .ok (.return_, 1) := by decide +kernel
theorem dX0_measurePair_0 : decode cX0_measurePair 0 = .ok (.aload_n 0, 1) := by decide +kernel
theorem dX0_measurePair_1 : decode cX0_measurePair 1 = .ok (.getfield 25, 3) := by decide +kernel
theorem dX0_measurePair_4 : decode cX0_measurePair 4 = .ok (.iconst 0, 1) := by decide +kernel
theorem dX0_measurePair_5 : decode cX0_measurePair 5 = .ok (.invokevirtual 75, 3) := by decide +kernel
theorem dX0_measurePair_8 : decode cX0_measurePair 8 = .ok (.istore 4, 2) := by decide +kernel
theorem dX0_measurePair_10 : decode cX0_measurePair 10 = .ok (.lconst 0, 1) := by decide +kernel
theorem dX0_measurePair_11 : decode cX0_measurePair 11 = .ok (.lstore 5, 2) := by decide +kernel
theorem dX0_measurePair_13 : decode cX0_measurePair 13 = .ok (.lconst 0, 1) := by decide +kernel
theorem dX0_measurePair_14 : decode cX0_measurePair 14 = .ok (.lstore 7, 2) := by decide +kernel
theorem dX0_measurePair_16 : decode cX0_measurePair 16 = .ok (.iconst 1, 1) := by decide +kernel
theorem dX0_measurePair_17 : decode cX0_measurePair 17 = .ok (.istore 9, 2) := by decide +kernel
theorem dX0_measurePair_19 : decode cX0_measurePair 19 = .ok (.iconst 1, 1) := by decide +kernel
theorem dX0_measurePair_20 : decode cX0_measurePair 20 = .ok (.istore 10, 2) := by decide +kernel
theorem dX0_measurePair_22 : decode cX0_measurePair 22 = .ok (.iload 10, 2) := by decide +kernel
theorem dX0_measurePair_24 : decode cX0_measurePair 24 = .ok (.iload_n 3, 1) := by decide +kernel
theorem dX0_measurePair_25 : decode cX0_measurePair 25 = .ok (.if_icmp .gt 107, 3) := by decide +kernel
theorem dX0_measurePair_28 : decode cX0_measurePair 28 = .ok (.iload_n 2, 1) := by decide +kernel
theorem dX0_measurePair_29 : decode cX0_measurePair 29 = .ok (.iload 10, 2) := by decide +kernel
theorem dX0_measurePair_31 : decode cX0_measurePair 31 = .ok (.iadd, 1) := by decide +kernel
theorem dX0_measurePair_32 : decode cX0_measurePair 32 = .ok (.iload 4, 2) := by decide +kernel
theorem dX0_measurePair_34 : decode cX0_measurePair 34 = .ok (.if_icmp .ge 10, 3) := by decide +kernel
theorem dX0_measurePair_37 : decode cX0_measurePair 37 = .ok (.iload_n 2, 1) := by decide +kernel
theorem dX0_measurePair_38 : decode cX0_measurePair 38 = .ok (.iload 10, 2) := by decide +kernel
theorem dX0_measurePair_40 : decode cX0_measurePair 40 = .ok (.iadd, 1) := by decide +kernel
theorem dX0_measurePair_41 : decode cX0_measurePair 41 = .ok (.goto 10, 3) := by decide +kernel
theorem dX0_measurePair_44 : decode cX0_measurePair 44 = .ok (.iload_n 2, 1) := by decide +kernel
theorem dX0_measurePair_45 : decode cX0_measurePair 45 = .ok (.iload 10, 2) := by decide +kernel
theorem dX0_measurePair_47 : decode cX0_measurePair 47 = .ok (.iadd, 1) := by decide +kernel
theorem dX0_measurePair_48 : decode cX0_measurePair 48 = .ok (.iload 4, 2) := by decide +kernel
theorem dX0_measurePair_50 : decode cX0_measurePair 50 = .ok (.isub, 1) := by decide +kernel
theorem dX0_measurePair_51 : decode cX0_measurePair 51 = .ok (.istore 11, 2) := by decide +kernel
theorem dX0_measurePair_53 : decode cX0_measurePair 53 = .ok (.aload_n 0, 1) := by decide +kernel
theorem dX0_measurePair_54 : decode cX0_measurePair 54 = .ok (.getfield 29, 3) := by decide +kernel
theorem dX0_measurePair_57 : decode cX0_measurePair 57 = .ok (.iload 11, 2) := by decide +kernel
theorem dX0_measurePair_59 : decode cX0_measurePair 59 = .ok (.invokevirtual 104, 3) := by decide +kernel
theorem dX0_measurePair_62 : decode cX0_measurePair 62 = .ok (.lload 5, 2) := by decide +kernel
theorem dX0_measurePair_64 : decode cX0_measurePair 64 = .ok (.aload_n 0, 1) := by decide +kernel
theorem dX0_measurePair_65 : decode cX0_measurePair 65 = .ok (.getfield 29, 3) := by decide +kernel
theorem dX0_measurePair_68 : decode cX0_measurePair 68 = .ok (.iconst 2, 1) := by decide +kernel
theorem dX0_measurePair_69 : decode cX0_measurePair 69 = .ok (.iload 11, 2) := by decide +kernel
theorem dX0_measurePair_71 : decode cX0_measurePair 71 = .ok (.invokevirtual 107, 3) := by decide +kernel
theorem dX0_measurePair_74 : decode cX0_measurePair 74 = .ok (.invokestatic 111, 3) := by decide +kernel
theorem dX0_measurePair_77 : decode cX0_measurePair 77 = .ok (.invokestatic 115, 3) := by decide +kernel
theorem dX0_measurePair_80 : decode cX0_measurePair 80 = .ok (.lstore 5, 2) := by decide +kernel
theorem dX0_measurePair_82 : decode cX0_measurePair 82 = .ok (.lload 7, 2) := by decide +kernel
theorem dX0_measurePair_84 : decode cX0_measurePair 84 = .ok (.aload_n 0, 1) := by decide +kernel
theorem dX0_measurePair_85 : decode cX0_measurePair 85 = .ok (.getfield 29, 3) := by decide +kernel
theorem dX0_measurePair_88 : decode cX0_measurePair 88 = .ok (.iconst 3, 1) := by decide +kernel
theorem dX0_measurePair_89 : decode cX0_measurePair 89 = .ok (.iload 11, 2) := by decide +kernel
theorem dX0_measurePair_91 : decode cX0_measurePair 91 = .ok (.invokevirtual 107, 3) := by decide +kernel
theorem dX0_measurePair_94 : decode cX0_measurePair 94 = .ok (.invokestatic 111, 3) := by decide +kernel
theorem dX0_measurePair_97 : decode cX0_measurePair 97 = .ok (.invokestatic 115, 3) := by decide +kernel
theorem dX0_measurePair_100 : decode cX0_measurePair 100 = .ok (.lstore 7, 2) := by decide +kernel
theorem dX0_measurePair_102 : decode cX0_measurePair 102 = .ok (.iload 9, 2) := by decide +kernel
theorem dX0_measurePair_104 : decode cX0_measurePair 104 = .ok (.ifCond .eq 19, 3) := by decide +kernel
theorem dX0_measurePair_107 : decode cX0_measurePair 107 = .ok (.aload_n 0, 1) := by decide +kernel
theorem dX0_measurePair_108 : decode cX0_measurePair 108 = .ok (.getfield 29, 3) := by decide +kernel
theorem dX0_measurePair_111 : decode cX0_measurePair 111 = .ok (.iload 11, 2) := by decide +kernel
theorem dX0_measurePair_113 : decode cX0_measurePair 113 = .ok (.invokevirtual 118, 3) := by decide +kernel
theorem dX0_measurePair_116 : decode cX0_measurePair 116 = .ok (.ifCond .eq 7, 3) := by decide +kernel
theorem dX0_measurePair_119 : decode cX0_measurePair 119 = .ok (.iconst 1, 1) := by decide +kernel
theorem dX0_measurePair_120 : decode cX0_measurePair 120 = .ok (.goto 4, 3) := by decide +kernel
theorem dX0_measurePair_123 : decode cX0_measurePair 123 = .ok (.iconst 0, 1) := by decide +kernel
theorem dX0_measurePair_124 : decode cX0_measurePair 124 = .ok (.istore 9, 2) := by decide +kernel
theorem dX0_measurePair_126 : decode cX0_measurePair 126 = .ok (.iinc 10 1, 3) := by decide +kernel
theorem dX0_measurePair_129 : decode cX0_measurePair 129 = .ok (.goto (-107), 3) := by decide +kernel
theorem dX0_measurePair_132 : decode cX0_measurePair 132 = .ok (.iload_n 1, 1) := by decide +kernel
theorem dX0_measurePair_133 : decode cX0_measurePair 133 = .ok (.ifCond .lt 38, 3) := by decide +kernel
theorem dX0_measurePair_136 : decode cX0_measurePair 136 = .ok (.iload_n 1, 1) := by decide +kernel
theorem dX0_measurePair_137 : decode cX0_measurePair 137 = .ok (.aload_n 0, 1) := by decide +kernel
theorem dX0_measurePair_138 : decode cX0_measurePair 138 = .ok (.getfield 21, 3) := by decide +kernel
theorem dX0_measurePair_141 : decode cX0_measurePair 141 = .ok (.arraylength, 1) := by decide +kernel
theorem dX0_measurePair_142 : decode cX0_measurePair 142 = .ok (.if_icmp .ge 29, 3) := by decide +kernel
theorem dX0_measurePair_145 : decode cX0_measurePair 145 = .ok (.aload_n 0, 1) := by decide +kernel
theorem dX0_measurePair_146 : decode cX0_measurePair 146 = .ok (.getfield 15, 3) := by decide +kernel
theorem dX0_measurePair_149 : decode cX0_measurePair 149 = .ok (.iload_n 1, 1) := by decide +kernel
theorem dX0_measurePair_150 : decode cX0_measurePair 150 = .ok (.lload 5, 2) := by decide +kernel
theorem dX0_measurePair_152 : decode cX0_measurePair 152 = .ok (.l2i, 1) := by decide +kernel
theorem dX0_measurePair_153 : decode cX0_measurePair 153 = .ok (.iastore, 1) := by decide +kernel
theorem dX0_measurePair_154 : decode cX0_measurePair 154 = .ok (.aload_n 0, 1) := by decide +kernel
theorem dX0_measurePair_155 : decode cX0_measurePair 155 = .ok (.getfield 18, 3) := by decide +kernel
theorem dX0_measurePair_158 : decode cX0_measurePair 158 = .ok (.iload_n 1, 1) := by decide +kernel
theorem dX0_measurePair_159 : decode cX0_measurePair 159 = .ok (.lload 7, 2) := by decide +kernel
theorem dX0_measurePair_161 : decode cX0_measurePair 161 = .ok (.l2i, 1) := by decide +kernel
theorem dX0_measurePair_162 : decode cX0_measurePair 162 = .ok (.iastore, 1) := by decide +kernel
theorem dX0_measurePair_163 : decode cX0_measurePair 163 = .ok (.aload_n 0, 1) := by decide +kernel
theorem dX0_measurePair_164 : decode cX0_measurePair 164 = .ok (.getfield 21, 3) := by decide +kernel
theorem dX0_measurePair_167 : decode cX0_measurePair 167 = .ok (.iload_n 1, 1) := by decide +kernel
theorem dX0_measurePair_168 : decode cX0_measurePair 168 = .ok (.iload 9, 2) := by decide +kernel
theorem dX0_measurePair_170 : decode cX0_measurePair 170 = .ok (.bastore, 1) := by decide +kernel
theorem dX0_measurePair_171 : decode cX0_measurePair 171 = .ok (.return_, 1) := by decide +kernel
theorem dX0_lawIn_0 : decode cX0_lawIn 0 = .ok (.iload_n 2, 1) := by decide +kernel
theorem dX0_lawIn_1 : decode cX0_lawIn 1 = .ok (.aload_n 0, 1) := by decide +kernel
theorem dX0_lawIn_2 : decode cX0_lawIn 2 = .ok (.getfield 79, 3) := by decide +kernel
theorem dX0_lawIn_5 : decode cX0_lawIn 5 = .ok (.if_icmp .ge 20, 3) := by decide +kernel
theorem dX0_lawIn_8 : decode cX0_lawIn 8 = .ok (.iload_n 1, 1) := by decide +kernel
theorem dX0_lawIn_9 : decode cX0_lawIn 9 = .ok (.iconst 2, 1) := by decide +kernel
theorem dX0_lawIn_10 : decode cX0_lawIn 10 = .ok (.aload_n 0, 1) := by decide +kernel
theorem dX0_lawIn_11 : decode cX0_lawIn 11 = .ok (.getfield 79, 3) := by decide +kernel
theorem dX0_lawIn_14 : decode cX0_lawIn 14 = .ok (.iconst 1, 1) := by decide +kernel
theorem dX0_lawIn_15 : decode cX0_lawIn 15 = .ok (.isub, 1) := by decide +kernel
theorem dX0_lawIn_16 : decode cX0_lawIn 16 = .ok (.iload_n 2, 1) := by decide +kernel
theorem dX0_lawIn_17 : decode cX0_lawIn 17 = .ok (.isub, 1) := by decide +kernel
theorem dX0_lawIn_18 : decode cX0_lawIn 18 = .ok (.imul, 1) := by decide +kernel
theorem dX0_lawIn_19 : decode cX0_lawIn 19 = .ok (.ishr, 1) := by decide +kernel
theorem dX0_lawIn_20 : decode cX0_lawIn 20 = .ok (.iconst 3, 1) := by decide +kernel
theorem dX0_lawIn_21 : decode cX0_lawIn 21 = .ok (.iand, 1) := by decide +kernel
theorem dX0_lawIn_22 : decode cX0_lawIn 22 = .ok (.goto 4, 3) := by decide +kernel
theorem dX0_lawIn_25 : decode cX0_lawIn 25 = .ok (.iconst 0, 1) := by decide +kernel
theorem dX0_lawIn_26 : decode cX0_lawIn 26 = .ok (.ireturn, 1) := by decide +kernel
theorem dX0_compareAll_0 : decode cX0_compareAll 0 = .ok (.aload_n 0, 1) := by decide +kernel
theorem dX0_compareAll_1 : decode cX0_compareAll 1 = .ok (.iconst (-1), 1) := by decide +kernel
theorem dX0_compareAll_2 : decode cX0_compareAll 2 = .ok (.putfield 82, 3) := by decide +kernel
theorem dX0_compareAll_5 : decode cX0_compareAll 5 = .ok (.iconst 0, 1) := by decide +kernel
theorem dX0_compareAll_6 : decode cX0_compareAll 6 = .ok (.istore_n 1, 1) := by decide +kernel
theorem dX0_compareAll_7 : decode cX0_compareAll 7 = .ok (.iload_n 1, 1) := by decide +kernel
theorem dX0_compareAll_8 : decode cX0_compareAll 8 = .ok (.iconst 1, 1) := by decide +kernel
theorem dX0_compareAll_9 : decode cX0_compareAll 9 = .ok (.iconst 2, 1) := by decide +kernel
theorem dX0_compareAll_10 : decode cX0_compareAll 10 = .ok (.aload_n 0, 1) := by decide +kernel
theorem dX0_compareAll_11 : decode cX0_compareAll 11 = .ok (.getfield 79, 3) := by decide +kernel
theorem dX0_compareAll_14 : decode cX0_compareAll 14 = .ok (.imul, 1) := by decide +kernel
theorem dX0_compareAll_15 : decode cX0_compareAll 15 = .ok (.ishl, 1) := by decide +kernel
theorem dX0_compareAll_16 : decode cX0_compareAll 16 = .ok (.if_icmp .ge 14, 3) := by decide +kernel
theorem dX0_compareAll_19 : decode cX0_compareAll 19 = .ok (.aload_n 0, 1) := by decide +kernel
theorem dX0_compareAll_20 : decode cX0_compareAll 20 = .ok (.iload_n 1, 1) := by decide +kernel
theorem dX0_compareAll_21 : decode cX0_compareAll 21 = .ok (.invokevirtual 121, 3) := by decide +kernel
theorem dX0_compareAll_24 : decode cX0_compareAll 24 = .ok (.iinc 1 1, 3) := by decide +kernel
theorem dX0_compareAll_27 : decode cX0_compareAll 27 = .ok (.goto (-20), 3) := by decide +kernel
theorem dX0_compareAll_30 : decode cX0_compareAll 30 = .ok (.return_, 1) := by decide +kernel
theorem dX0_compare_0 : decode cX0_compare 0 = .ok (.iconst 0, 1) := by decide +kernel
theorem dX0_compare_1 : decode cX0_compare 1 = .ok (.istore_n 2, 1) := by decide +kernel
theorem dX0_compare_2 : decode cX0_compare 2 = .ok (.iconst 0, 1) := by decide +kernel
theorem dX0_compare_3 : decode cX0_compare 3 = .ok (.istore_n 3, 1) := by decide +kernel
theorem dX0_compare_4 : decode cX0_compare 4 = .ok (.iconst 1, 1) := by decide +kernel
theorem dX0_compare_5 : decode cX0_compare 5 = .ok (.istore 4, 2) := by decide +kernel
theorem dX0_compare_7 : decode cX0_compare 7 = .ok (.aload_n 0, 1) := by decide +kernel
theorem dX0_compare_8 : decode cX0_compare 8 = .ok (.iload_n 1, 1) := by decide +kernel
theorem dX0_compare_9 : decode cX0_compare 9 = .ok (.iconst 0, 1) := by decide +kernel
theorem dX0_compare_10 : decode cX0_compare 10 = .ok (.invokevirtual 85, 3) := by decide +kernel
theorem dX0_compare_13 : decode cX0_compare 13 = .ok (.istore 5, 2) := by decide +kernel
theorem dX0_compare_15 : decode cX0_compare 15 = .ok (.iconst 0, 1) := by decide +kernel
theorem dX0_compare_16 : decode cX0_compare 16 = .ok (.istore 6, 2) := by decide +kernel
theorem dX0_compare_18 : decode cX0_compare 18 = .ok (.iload 6, 2) := by decide +kernel
theorem dX0_compare_20 : decode cX0_compare 20 = .ok (.aload_n 0, 1) := by decide +kernel
theorem dX0_compare_21 : decode cX0_compare 21 = .ok (.getfield 45, 3) := by decide +kernel
theorem dX0_compare_24 : decode cX0_compare 24 = .ok (.if_icmp .ge 115, 3) := by decide +kernel
theorem dX0_compare_27 : decode cX0_compare 27 = .ok (.aload_n 0, 1) := by decide +kernel
theorem dX0_compare_28 : decode cX0_compare 28 = .ok (.iload_n 1, 1) := by decide +kernel
theorem dX0_compare_29 : decode cX0_compare 29 = .ok (.iload 6, 2) := by decide +kernel
theorem dX0_compare_31 : decode cX0_compare 31 = .ok (.iconst 1, 1) := by decide +kernel
theorem dX0_compare_32 : decode cX0_compare 32 = .ok (.iadd, 1) := by decide +kernel
theorem dX0_compare_33 : decode cX0_compare 33 = .ok (.aload_n 0, 1) := by decide +kernel
theorem dX0_compare_34 : decode cX0_compare 34 = .ok (.getfield 45, 3) := by decide +kernel
theorem dX0_compare_37 : decode cX0_compare 37 = .ok (.if_icmp .ge 10, 3) := by decide +kernel
theorem dX0_compare_40 : decode cX0_compare 40 = .ok (.iload 6, 2) := by decide +kernel
theorem dX0_compare_42 : decode cX0_compare 42 = .ok (.iconst 1, 1) := by decide +kernel
theorem dX0_compare_43 : decode cX0_compare 43 = .ok (.iadd, 1) := by decide +kernel
theorem dX0_compare_44 : decode cX0_compare 44 = .ok (.goto 4, 3) := by decide +kernel
theorem dX0_compare_47 : decode cX0_compare 47 = .ok (.iconst 0, 1) := by decide +kernel
theorem dX0_compare_48 : decode cX0_compare 48 = .ok (.invokevirtual 85, 3) := by decide +kernel
theorem dX0_compare_51 : decode cX0_compare 51 = .ok (.istore 7, 2) := by decide +kernel
theorem dX0_compare_53 : decode cX0_compare 53 = .ok (.iload 6, 2) := by decide +kernel
theorem dX0_compare_55 : decode cX0_compare 55 = .ok (.bipush 16, 2) := by decide +kernel
theorem dX0_compare_57 : decode cX0_compare 57 = .ok (.imul, 1) := by decide +kernel
theorem dX0_compare_58 : decode cX0_compare 58 = .ok (.iload 5, 2) := by decide +kernel
theorem dX0_compare_60 : decode cX0_compare 60 = .ok (.iconst 4, 1) := by decide +kernel
theorem dX0_compare_61 : decode cX0_compare 61 = .ok (.imul, 1) := by decide +kernel
theorem dX0_compare_62 : decode cX0_compare 62 = .ok (.iadd, 1) := by decide +kernel
theorem dX0_compare_63 : decode cX0_compare 63 = .ok (.iload 7, 2) := by decide +kernel
theorem dX0_compare_65 : decode cX0_compare 65 = .ok (.iadd, 1) := by decide +kernel
theorem dX0_compare_66 : decode cX0_compare 66 = .ok (.istore 8, 2) := by decide +kernel
theorem dX0_compare_68 : decode cX0_compare 68 = .ok (.iload 8, 2) := by decide +kernel
theorem dX0_compare_70 : decode cX0_compare 70 = .ok (.ifCond .lt 59, 3) := by decide +kernel
theorem dX0_compare_73 : decode cX0_compare 73 = .ok (.iload 8, 2) := by decide +kernel
theorem dX0_compare_75 : decode cX0_compare 75 = .ok (.aload_n 0, 1) := by decide +kernel
theorem dX0_compare_76 : decode cX0_compare 76 = .ok (.getfield 21, 3) := by decide +kernel
theorem dX0_compare_79 : decode cX0_compare 79 = .ok (.arraylength, 1) := by decide +kernel
theorem dX0_compare_80 : decode cX0_compare 80 = .ok (.if_icmp .ge 49, 3) := by decide +kernel
theorem dX0_compare_83 : decode cX0_compare 83 = .ok (.iload_n 2, 1) := by decide +kernel
theorem dX0_compare_84 : decode cX0_compare 84 = .ok (.aload_n 0, 1) := by decide +kernel
theorem dX0_compare_85 : decode cX0_compare 85 = .ok (.getfield 15, 3) := by decide +kernel
theorem dX0_compare_88 : decode cX0_compare 88 = .ok (.iload 8, 2) := by decide +kernel
theorem dX0_compare_90 : decode cX0_compare 90 = .ok (.iaload, 1) := by decide +kernel
theorem dX0_compare_91 : decode cX0_compare 91 = .ok (.invokestatic 88, 3) := by decide +kernel
theorem dX0_compare_94 : decode cX0_compare 94 = .ok (.istore_n 2, 1) := by decide +kernel
theorem dX0_compare_95 : decode cX0_compare 95 = .ok (.iload_n 3, 1) := by decide +kernel
theorem dX0_compare_96 : decode cX0_compare 96 = .ok (.aload_n 0, 1) := by decide +kernel
theorem dX0_compare_97 : decode cX0_compare 97 = .ok (.getfield 18, 3) := by decide +kernel
theorem dX0_compare_100 : decode cX0_compare 100 = .ok (.iload 8, 2) := by decide +kernel
theorem dX0_compare_102 : decode cX0_compare 102 = .ok (.iaload, 1) := by decide +kernel
theorem dX0_compare_103 : decode cX0_compare 103 = .ok (.invokestatic 88, 3) := by decide +kernel
theorem dX0_compare_106 : decode cX0_compare 106 = .ok (.istore_n 3, 1) := by decide +kernel
theorem dX0_compare_107 : decode cX0_compare 107 = .ok (.iload 4, 2) := by decide +kernel
theorem dX0_compare_109 : decode cX0_compare 109 = .ok (.ifCond .eq 17, 3) := by decide +kernel
theorem dX0_compare_112 : decode cX0_compare 112 = .ok (.aload_n 0, 1) := by decide +kernel
theorem dX0_compare_113 : decode cX0_compare 113 = .ok (.getfield 21, 3) := by decide +kernel
theorem dX0_compare_116 : decode cX0_compare 116 = .ok (.iload 8, 2) := by decide +kernel
theorem dX0_compare_118 : decode cX0_compare 118 = .ok (.baload, 1) := by decide +kernel
theorem dX0_compare_119 : decode cX0_compare 119 = .ok (.ifCond .eq 7, 3) := by decide +kernel
theorem dX0_compare_122 : decode cX0_compare 122 = .ok (.iconst 1, 1) := by decide +kernel
theorem dX0_compare_123 : decode cX0_compare 123 = .ok (.goto 4, 3) := by decide +kernel
theorem dX0_compare_126 : decode cX0_compare 126 = .ok (.iconst 0, 1) := by decide +kernel
theorem dX0_compare_127 : decode cX0_compare 127 = .ok (.istore 4, 2) := by decide +kernel
theorem dX0_compare_129 : decode cX0_compare 129 = .ok (.iload 7, 2) := by decide +kernel
theorem dX0_compare_131 : decode cX0_compare 131 = .ok (.istore 5, 2) := by decide +kernel
theorem dX0_compare_133 : decode cX0_compare 133 = .ok (.iinc 6 1, 3) := by decide +kernel
theorem dX0_compare_136 : decode cX0_compare 136 = .ok (.goto (-118), 3) := by decide +kernel
theorem dX0_compare_139 : decode cX0_compare 139 = .ok (.aload_n 0, 1) := by decide +kernel
theorem dX0_compare_140 : decode cX0_compare 140 = .ok (.getfield 82, 3) := by decide +kernel
theorem dX0_compare_143 : decode cX0_compare 143 = .ok (.iconst (-1), 1) := by decide +kernel
theorem dX0_compare_144 : decode cX0_compare 144 = .ok (.if_icmp .eq 14, 3) := by decide +kernel
theorem dX0_compare_147 : decode cX0_compare 147 = .ok (.aload_n 0, 1) := by decide +kernel
theorem dX0_compare_148 : decode cX0_compare 148 = .ok (.iload 4, 2) := by decide +kernel
theorem dX0_compare_150 : decode cX0_compare 150 = .ok (.iload_n 2, 1) := by decide +kernel
theorem dX0_compare_151 : decode cX0_compare 151 = .ok (.iload_n 3, 1) := by decide +kernel
theorem dX0_compare_152 : decode cX0_compare 152 = .ok (.invokevirtual 124, 3) := by decide +kernel
theorem dX0_compare_155 : decode cX0_compare 155 = .ok (.ifCond .eq 24, 3) := by decide +kernel
theorem dX0_compare_158 : decode cX0_compare 158 = .ok (.aload_n 0, 1) := by decide +kernel
theorem dX0_compare_159 : decode cX0_compare 159 = .ok (.iload_n 1, 1) := by decide +kernel
theorem dX0_compare_160 : decode cX0_compare 160 = .ok (.putfield 82, 3) := by decide +kernel
theorem dX0_compare_163 : decode cX0_compare 163 = .ok (.aload_n 0, 1) := by decide +kernel
theorem dX0_compare_164 : decode cX0_compare 164 = .ok (.iload_n 2, 1) := by decide +kernel
theorem dX0_compare_165 : decode cX0_compare 165 = .ok (.putfield 56, 3) := by decide +kernel
theorem dX0_compare_168 : decode cX0_compare 168 = .ok (.aload_n 0, 1) := by decide +kernel
theorem dX0_compare_169 : decode cX0_compare 169 = .ok (.iload_n 3, 1) := by decide +kernel
theorem dX0_compare_170 : decode cX0_compare 170 = .ok (.putfield 59, 3) := by decide +kernel
theorem dX0_compare_173 : decode cX0_compare 173 = .ok (.aload_n 0, 1) := by decide +kernel
theorem dX0_compare_174 : decode cX0_compare 174 = .ok (.iload 4, 2) := by decide +kernel
theorem dX0_compare_176 : decode cX0_compare 176 = .ok (.putfield 62, 3) := by decide +kernel
theorem dX0_compare_179 : decode cX0_compare 179 = .ok (.return_, 1) := by decide +kernel
theorem dX0_isBetter_0 : decode cX0_isBetter 0 = .ok (.iload_n 1, 1) := by decide +kernel
theorem dX0_isBetter_1 : decode cX0_isBetter 1 = .ok (.aload_n 0, 1) := by decide +kernel
theorem dX0_isBetter_2 : decode cX0_isBetter 2 = .ok (.getfield 62, 3) := by decide +kernel
theorem dX0_isBetter_5 : decode cX0_isBetter 5 = .ok (.if_icmp .eq 5, 3) := by decide +kernel
theorem dX0_isBetter_8 : decode cX0_isBetter 8 = .ok (.iload_n 1, 1) := by decide +kernel
theorem dX0_isBetter_9 : decode cX0_isBetter 9 = .ok (.ireturn, 1) := by decide +kernel
theorem dX0_isBetter_10 : decode cX0_isBetter 10 = .ok (.iload_n 2, 1) := by decide +kernel
theorem dX0_isBetter_11 : decode cX0_isBetter 11 = .ok (.aload_n 0, 1) := by decide +kernel
theorem dX0_isBetter_12 : decode cX0_isBetter 12 = .ok (.getfield 56, 3) := by decide +kernel
theorem dX0_isBetter_15 : decode cX0_isBetter 15 = .ok (.if_icmp .lt 19, 3) := by decide +kernel
theorem dX0_isBetter_18 : decode cX0_isBetter 18 = .ok (.iload_n 2, 1) := by decide +kernel
theorem dX0_isBetter_19 : decode cX0_isBetter 19 = .ok (.aload_n 0, 1) := by decide +kernel
theorem dX0_isBetter_20 : decode cX0_isBetter 20 = .ok (.getfield 56, 3) := by decide +kernel
theorem dX0_isBetter_23 : decode cX0_isBetter 23 = .ok (.if_icmp .ne 15, 3) := by decide +kernel
theorem dX0_isBetter_26 : decode cX0_isBetter 26 = .ok (.iload_n 3, 1) := by decide +kernel
theorem dX0_isBetter_27 : decode cX0_isBetter 27 = .ok (.aload_n 0, 1) := by decide +kernel
theorem dX0_isBetter_28 : decode cX0_isBetter 28 = .ok (.getfield 59, 3) := by decide +kernel
theorem dX0_isBetter_31 : decode cX0_isBetter 31 = .ok (.if_icmp .ge 7, 3) := by decide +kernel
theorem dX0_isBetter_34 : decode cX0_isBetter 34 = .ok (.iconst 1, 1) := by decide +kernel
theorem dX0_isBetter_35 : decode cX0_isBetter 35 = .ok (.goto 4, 3) := by decide +kernel
theorem dX0_isBetter_38 : decode cX0_isBetter 38 = .ok (.iconst 0, 1) := by decide +kernel
theorem dX0_isBetter_39 : decode cX0_isBetter 39 = .ok (.ireturn, 1) := by decide +kernel
theorem dX1_init_0 : decode cX1_init 0 = .ok (.aload_n 0, 1) := by decide +kernel
theorem dX1_init_1 : decode cX1_init 1 = .ok (.invokespecial 3, 3) := by decide +kernel
theorem dX1_init_4 : decode cX1_init 4 = .ok (.aload_n 0, 1) := by decide +kernel
theorem dX1_init_5 : decode cX1_init 5 = .ok (.sipush 1440, 3) := by decide +kernel
theorem dX1_init_8 : decode cX1_init 8 = .ok (.newarray .int, 2) := by decide +kernel
theorem dX1_init_10 : decode cX1_init 10 = .ok (.putfield 11, 3) := by decide +kernel
theorem dX1_init_13 : decode cX1_init 13 = .ok (.return_, 1) := by decide +kernel
theorem dX1_size_0 : decode cX1_size 0 = .ok (.aload_n 0, 1) := by decide +kernel
theorem dX1_size_1 : decode cX1_size 1 = .ok (.getfield 15, 3) := by decide +kernel
theorem dX1_size_4 : decode cX1_size 4 = .ok (.ireturn, 1) := by decide +kernel
theorem dX1_forget_0 : decode cX1_forget 0 = .ok (.aload_n 0, 1) := by decide +kernel
theorem dX1_forget_1 : decode cX1_forget 1 = .ok (.iconst 0, 1) := by decide +kernel
theorem dX1_forget_2 : decode cX1_forget 2 = .ok (.putfield 15, 3) := by decide +kernel
theorem dX1_forget_5 : decode cX1_forget 5 = .ok (.return_, 1) := by decide +kernel
theorem dX1_keep_0 : decode cX1_keep 0 = .ok (.aload_n 1, 1) := by decide +kernel
theorem dX1_keep_1 : decode cX1_keep 1 = .ok (.aload_n 0, 1) := by decide +kernel
theorem dX1_keep_2 : decode cX1_keep 2 = .ok (.getfield 11, 3) := by decide +kernel
theorem dX1_keep_5 : decode cX1_keep 5 = .ok (.aload_n 0, 1) := by decide +kernel
theorem dX1_keep_6 : decode cX1_keep 6 = .ok (.getfield 19, 3) := by decide +kernel
theorem dX1_keep_9 : decode cX1_keep 9 = .ok (.bipush 72, 2) := by decide +kernel
theorem dX1_keep_11 : decode cX1_keep 11 = .ok (.imul, 1) := by decide +kernel
theorem dX1_keep_12 : decode cX1_keep 12 = .ok (.invokevirtual 22, 3) := by decide +kernel
theorem dX1_keep_15 : decode cX1_keep 15 = .ok (.aload_n 0, 1) := by decide +kernel
theorem dX1_keep_16 : decode cX1_keep 16 = .ok (.aload_n 0, 1) := by decide +kernel
theorem dX1_keep_17 : decode cX1_keep 17 = .ok (.getfield 19, 3) := by decide +kernel
theorem dX1_keep_20 : decode cX1_keep 20 = .ok (.iconst 1, 1) := by decide +kernel
theorem dX1_keep_21 : decode cX1_keep 21 = .ok (.iadd, 1) := by decide +kernel
theorem dX1_keep_22 : decode cX1_keep 22 = .ok (.bipush 20, 2) := by decide +kernel
theorem dX1_keep_24 : decode cX1_keep 24 = .ok (.if_icmp .ge 12, 3) := by decide +kernel
theorem dX1_keep_27 : decode cX1_keep 27 = .ok (.aload_n 0, 1) := by decide +kernel
theorem dX1_keep_28 : decode cX1_keep 28 = .ok (.getfield 19, 3) := by decide +kernel
theorem dX1_keep_31 : decode cX1_keep 31 = .ok (.iconst 1, 1) := by decide +kernel
theorem dX1_keep_32 : decode cX1_keep 32 = .ok (.iadd, 1) := by decide +kernel
theorem dX1_keep_33 : decode cX1_keep 33 = .ok (.goto 4, 3) := by decide +kernel
theorem dX1_keep_36 : decode cX1_keep 36 = .ok (.iconst 0, 1) := by decide +kernel
theorem dX1_keep_37 : decode cX1_keep 37 = .ok (.putfield 19, 3) := by decide +kernel
theorem dX1_keep_40 : decode cX1_keep 40 = .ok (.aload_n 0, 1) := by decide +kernel
theorem dX1_keep_41 : decode cX1_keep 41 = .ok (.aload_n 0, 1) := by decide +kernel
theorem dX1_keep_42 : decode cX1_keep 42 = .ok (.getfield 15, 3) := by decide +kernel
theorem dX1_keep_45 : decode cX1_keep 45 = .ok (.iconst 1, 1) := by decide +kernel
theorem dX1_keep_46 : decode cX1_keep 46 = .ok (.iadd, 1) := by decide +kernel
theorem dX1_keep_47 : decode cX1_keep 47 = .ok (.bipush 20, 2) := by decide +kernel
theorem dX1_keep_49 : decode cX1_keep 49 = .ok (.invokestatic 28, 3) := by decide +kernel
theorem dX1_keep_52 : decode cX1_keep 52 = .ok (.putfield 15, 3) := by decide +kernel
theorem dX1_keep_55 : decode cX1_keep 55 = .ok (.return_, 1) := by decide +kernel
theorem dX1_restore_0 : decode cX1_restore 0 = .ok (.aload_n 0, 1) := by decide +kernel
theorem dX1_restore_1 : decode cX1_restore 1 = .ok (.getfield 15, 3) := by decide +kernel
theorem dX1_restore_4 : decode cX1_restore 4 = .ok (.ifCond .le 50, 3) := by decide +kernel
theorem dX1_restore_7 : decode cX1_restore 7 = .ok (.aload_n 0, 1) := by decide +kernel
theorem dX1_restore_8 : decode cX1_restore 8 = .ok (.aload_n 0, 1) := by decide +kernel
theorem dX1_restore_9 : decode cX1_restore 9 = .ok (.getfield 19, 3) := by decide +kernel
theorem dX1_restore_12 : decode cX1_restore 12 = .ok (.ifCond .le 12, 3) := by decide +kernel
theorem dX1_restore_15 : decode cX1_restore 15 = .ok (.aload_n 0, 1) := by decide +kernel
theorem dX1_restore_16 : decode cX1_restore 16 = .ok (.getfield 19, 3) := by decide +kernel
theorem dX1_restore_19 : decode cX1_restore 19 = .ok (.iconst 1, 1) := by decide +kernel
theorem dX1_restore_20 : decode cX1_restore 20 = .ok (.isub, 1) := by decide +kernel
theorem dX1_restore_21 : decode cX1_restore 21 = .ok (.goto 5, 3) := by decide +kernel
theorem dX1_restore_24 : decode cX1_restore 24 = .ok (.bipush 19, 2) := by decide +kernel
theorem dX1_restore_26 : decode cX1_restore 26 = .ok (.putfield 19, 3) := by decide +kernel
theorem dX1_restore_29 : decode cX1_restore 29 = .ok (.aload_n 0, 1) := by decide +kernel
theorem dX1_restore_30 : decode cX1_restore 30 = .ok (.dup, 1) := by decide +kernel
theorem dX1_restore_31 : decode cX1_restore 31 = .ok (.getfield 15, 3) := by decide +kernel
theorem dX1_restore_34 : decode cX1_restore 34 = .ok (.iconst 1, 1) := by decide +kernel
theorem dX1_restore_35 : decode cX1_restore 35 = .ok (.isub, 1) := by decide +kernel
theorem dX1_restore_36 : decode cX1_restore 36 = .ok (.putfield 15, 3) := by decide +kernel
theorem dX1_restore_39 : decode cX1_restore 39 = .ok (.aload_n 1, 1) := by decide +kernel
theorem dX1_restore_40 : decode cX1_restore 40 = .ok (.aload_n 0, 1) := by decide +kernel
theorem dX1_restore_41 : decode cX1_restore 41 = .ok (.getfield 11, 3) := by decide +kernel
theorem dX1_restore_44 : decode cX1_restore 44 = .ok (.aload_n 0, 1) := by decide +kernel
theorem dX1_restore_45 : decode cX1_restore 45 = .ok (.getfield 19, 3) := by decide +kernel
theorem dX1_restore_48 : decode cX1_restore 48 = .ok (.bipush 72, 2) := by decide +kernel
theorem dX1_restore_50 : decode cX1_restore 50 = .ok (.imul, 1) := by decide +kernel
theorem dX1_restore_51 : decode cX1_restore 51 = .ok (.invokevirtual 34, 3) := by decide +kernel
theorem dX1_restore_54 : decode cX1_restore 54 = .ok (.return_, 1) := by decide +kernel
theorem dX2_init_0 : decode cX2_init 0 = .ok (.aload_n 0, 1) := by decide +kernel
theorem dX2_init_1 : decode cX2_init 1 = .ok (.invokespecial 3, 3) := by decide +kernel
theorem dX2_init_4 : decode cX2_init 4 = .ok (.aload_n 0, 1) := by decide +kernel
theorem dX2_init_5 : decode cX2_init 5 = .ok (.bipush 72, 2) := by decide +kernel
theorem dX2_init_7 : decode cX2_init 7 = .ok (.newarray .int, 2) := by decide +kernel
theorem dX2_init_9 : decode cX2_init 9 = .ok (.putfield 9, 3) := by decide +kernel
theorem dX2_init_12 : decode cX2_init 12 = .ok (.getstatic 15, 3) := by decide +kernel
theorem dX2_init_15 : decode cX2_init 15 = .ok (.iconst 0, 1) := by decide +kernel
theorem dX2_init_16 : decode cX2_init 16 = .ok (.aload_n 0, 1) := by decide +kernel
theorem dX2_init_17 : decode cX2_init 17 = .ok (.getfield 9, 3) := by decide +kernel
theorem dX2_init_20 : decode cX2_init 20 = .ok (.iconst 0, 1) := by decide +kernel
theorem dX2_init_21 : decode cX2_init 21 = .ok (.bipush 12, 2) := by decide +kernel
theorem dX2_init_23 : decode cX2_init 23 = .ok (.invokestatic 18, 3) := by decide +kernel
theorem dX2_init_26 : decode cX2_init 26 = .ok (.return_, 1) := by decide +kernel
theorem dX2_placeOf_0 : decode cX2_placeOf 0 = .ok (.bipush 12, 2) := by decide +kernel
theorem dX2_placeOf_2 : decode cX2_placeOf 2 = .ok (.iconst 3, 1) := by decide +kernel
theorem dX2_placeOf_3 : decode cX2_placeOf 3 = .ok (.iload_n 0, 1) := by decide +kernel
theorem dX2_placeOf_4 : decode cX2_placeOf 4 = .ok (.imul, 1) := by decide +kernel
theorem dX2_placeOf_5 : decode cX2_placeOf 5 = .ok (.iadd, 1) := by decide +kernel
theorem dX2_placeOf_6 : decode cX2_placeOf 6 = .ok (.iload_n 1, 1) := by decide +kernel
theorem dX2_placeOf_7 : decode cX2_placeOf 7 = .ok (.iadd, 1) := by decide +kernel
theorem dX2_placeOf_8 : decode cX2_placeOf 8 = .ok (.ireturn, 1) := by decide +kernel
theorem dX2_placeOfMark_0 : decode cX2_placeOfMark 0 = .ok (.bipush 48, 2) := by decide +kernel
theorem dX2_placeOfMark_2 : decode cX2_placeOfMark 2 = .ok (.iconst 3, 1) := by decide +kernel
theorem dX2_placeOfMark_3 : decode cX2_placeOfMark 3 = .ok (.iload_n 0, 1) := by decide +kernel
theorem dX2_placeOfMark_4 : decode cX2_placeOfMark 4 = .ok (.imul, 1) := by decide +kernel
theorem dX2_placeOfMark_5 : decode cX2_placeOfMark 5 = .ok (.iadd, 1) := by decide +kernel
theorem dX2_placeOfMark_6 : decode cX2_placeOfMark 6 = .ok (.iload_n 1, 1) := by decide +kernel
theorem dX2_placeOfMark_7 : decode cX2_placeOfMark 7 = .ok (.iadd, 1) := by decide +kernel
theorem dX2_placeOfMark_8 : decode cX2_placeOfMark 8 = .ok (.ireturn, 1) := by decide +kernel
theorem dX2_get_0 : decode cX2_get 0 = .ok (.iload_n 1, 1) := by decide +kernel
theorem dX2_get_1 : decode cX2_get 1 = .ok (.ifCond .lt 21, 3) := by decide +kernel
theorem dX2_get_4 : decode cX2_get 4 = .ok (.iload_n 1, 1) := by decide +kernel
theorem dX2_get_5 : decode cX2_get 5 = .ok (.aload_n 0, 1) := by decide +kernel
theorem dX2_get_6 : decode cX2_get 6 = .ok (.getfield 9, 3) := by decide +kernel
theorem dX2_get_9 : decode cX2_get 9 = .ok (.arraylength, 1) := by decide +kernel
theorem dX2_get_10 : decode cX2_get 10 = .ok (.if_icmp .ge 12, 3) := by decide +kernel
theorem dX2_get_13 : decode cX2_get 13 = .ok (.aload_n 0, 1) := by decide +kernel
theorem dX2_get_14 : decode cX2_get 14 = .ok (.getfield 9, 3) := by decide +kernel
theorem dX2_get_17 : decode cX2_get 17 = .ok (.iload_n 1, 1) := by decide +kernel
theorem dX2_get_18 : decode cX2_get 18 = .ok (.iaload, 1) := by decide +kernel
theorem dX2_get_19 : decode cX2_get 19 = .ok (.goto 4, 3) := by decide +kernel
theorem dX2_get_22 : decode cX2_get 22 = .ok (.iconst (-1), 1) := by decide +kernel
theorem dX2_get_23 : decode cX2_get 23 = .ok (.ireturn, 1) := by decide +kernel
theorem dX2_put_0 : decode cX2_put 0 = .ok (.iload_n 1, 1) := by decide +kernel
theorem dX2_put_1 : decode cX2_put 1 = .ok (.ifCond .lt 19, 3) := by decide +kernel
theorem dX2_put_4 : decode cX2_put 4 = .ok (.iload_n 1, 1) := by decide +kernel
theorem dX2_put_5 : decode cX2_put 5 = .ok (.aload_n 0, 1) := by decide +kernel
theorem dX2_put_6 : decode cX2_put 6 = .ok (.getfield 9, 3) := by decide +kernel
theorem dX2_put_9 : decode cX2_put 9 = .ok (.arraylength, 1) := by decide +kernel
theorem dX2_put_10 : decode cX2_put 10 = .ok (.if_icmp .ge 10, 3) := by decide +kernel
theorem dX2_put_13 : decode cX2_put 13 = .ok (.aload_n 0, 1) := by decide +kernel
theorem dX2_put_14 : decode cX2_put 14 = .ok (.getfield 9, 3) := by decide +kernel
theorem dX2_put_17 : decode cX2_put 17 = .ok (.iload_n 1, 1) := by decide +kernel
theorem dX2_put_18 : decode cX2_put 18 = .ok (.iload_n 2, 1) := by decide +kernel
theorem dX2_put_19 : decode cX2_put 19 = .ok (.iastore, 1) := by decide +kernel
theorem dX2_put_20 : decode cX2_put 20 = .ok (.return_, 1) := by decide +kernel
theorem dX2_exchange_0 : decode cX2_exchange 0 = .ok (.aload_n 0, 1) := by decide +kernel
theorem dX2_exchange_1 : decode cX2_exchange 1 = .ok (.iload_n 1, 1) := by decide +kernel
theorem dX2_exchange_2 : decode cX2_exchange 2 = .ok (.invokevirtual 24, 3) := by decide +kernel
theorem dX2_exchange_5 : decode cX2_exchange 5 = .ok (.istore_n 3, 1) := by decide +kernel
theorem dX2_exchange_6 : decode cX2_exchange 6 = .ok (.aload_n 0, 1) := by decide +kernel
theorem dX2_exchange_7 : decode cX2_exchange 7 = .ok (.iload_n 1, 1) := by decide +kernel
theorem dX2_exchange_8 : decode cX2_exchange 8 = .ok (.iload_n 2, 1) := by decide +kernel
theorem dX2_exchange_9 : decode cX2_exchange 9 = .ok (.invokevirtual 28, 3) := by decide +kernel
theorem dX2_exchange_12 : decode cX2_exchange 12 = .ok (.iload_n 3, 1) := by decide +kernel
theorem dX2_exchange_13 : decode cX2_exchange 13 = .ok (.ireturn, 1) := by decide +kernel
theorem dX2_hasStep_0 : decode cX2_hasStep 0 = .ok (.iload_n 1, 1) := by decide +kernel
theorem dX2_hasStep_1 : decode cX2_hasStep 1 = .ok (.ifCond .lt 16, 3) := by decide +kernel
theorem dX2_hasStep_4 : decode cX2_hasStep 4 = .ok (.iload_n 1, 1) := by decide +kernel
theorem dX2_hasStep_5 : decode cX2_hasStep 5 = .ok (.aload_n 0, 1) := by decide +kernel
theorem dX2_hasStep_6 : decode cX2_hasStep 6 = .ok (.iconst 0, 1) := by decide +kernel
theorem dX2_hasStep_7 : decode cX2_hasStep 7 = .ok (.invokevirtual 24, 3) := by decide +kernel
theorem dX2_hasStep_10 : decode cX2_hasStep 10 = .ok (.if_icmp .ge 7, 3) := by decide +kernel
theorem dX2_hasStep_13 : decode cX2_hasStep 13 = .ok (.iconst 1, 1) := by decide +kernel
theorem dX2_hasStep_14 : decode cX2_hasStep 14 = .ok (.goto 4, 3) := by decide +kernel
theorem dX2_hasStep_17 : decode cX2_hasStep 17 = .ok (.iconst 0, 1) := by decide +kernel
theorem dX2_hasStep_18 : decode cX2_hasStep 18 = .ok (.ireturn, 1) := by decide +kernel
theorem dX2_hasSegment_0 : decode cX2_hasSegment 0 = .ok (.iload_n 1, 1) := by decide +kernel
theorem dX2_hasSegment_1 : decode cX2_hasSegment 1 = .ok (.ifCond .lt 16, 3) := by decide +kernel
theorem dX2_hasSegment_4 : decode cX2_hasSegment 4 = .ok (.iload_n 1, 1) := by decide +kernel
theorem dX2_hasSegment_5 : decode cX2_hasSegment 5 = .ok (.aload_n 0, 1) := by decide +kernel
theorem dX2_hasSegment_6 : decode cX2_hasSegment 6 = .ok (.iconst 1, 1) := by decide +kernel
theorem dX2_hasSegment_7 : decode cX2_hasSegment 7 = .ok (.invokevirtual 24, 3) := by decide +kernel
theorem dX2_hasSegment_10 : decode cX2_hasSegment 10 = .ok (.if_icmp .ge 7, 3) := by decide +kernel
theorem dX2_hasSegment_13 : decode cX2_hasSegment 13 = .ok (.iconst 1, 1) := by decide +kernel
theorem dX2_hasSegment_14 : decode cX2_hasSegment 14 = .ok (.goto 4, 3) := by decide +kernel
theorem dX2_hasSegment_17 : decode cX2_hasSegment 17 = .ok (.iconst 0, 1) := by decide +kernel
theorem dX2_hasSegment_18 : decode cX2_hasSegment 18 = .ok (.ireturn, 1) := by decide +kernel
theorem dX2_hasMark_0 : decode cX2_hasMark 0 = .ok (.iload_n 1, 1) := by decide +kernel
theorem dX2_hasMark_1 : decode cX2_hasMark 1 = .ok (.ifCond .lt 17, 3) := by decide +kernel
theorem dX2_hasMark_4 : decode cX2_hasMark 4 = .ok (.iload_n 1, 1) := by decide +kernel
theorem dX2_hasMark_5 : decode cX2_hasMark 5 = .ok (.aload_n 0, 1) := by decide +kernel
theorem dX2_hasMark_6 : decode cX2_hasMark 6 = .ok (.bipush 11, 2) := by decide +kernel
theorem dX2_hasMark_8 : decode cX2_hasMark 8 = .ok (.invokevirtual 24, 3) := by decide +kernel
theorem dX2_hasMark_11 : decode cX2_hasMark 11 = .ok (.if_icmp .ge 7, 3) := by decide +kernel
theorem dX2_hasMark_14 : decode cX2_hasMark 14 = .ok (.iconst 1, 1) := by decide +kernel
theorem dX2_hasMark_15 : decode cX2_hasMark 15 = .ok (.goto 4, 3) := by decide +kernel
theorem dX2_hasMark_18 : decode cX2_hasMark 18 = .ok (.iconst 0, 1) := by decide +kernel
theorem dX2_hasMark_19 : decode cX2_hasMark 19 = .ok (.ireturn, 1) := by decide +kernel
theorem dX2_removeMark_0 : decode cX2_removeMark 0 = .ok (.aload_n 0, 1) := by decide +kernel
theorem dX2_removeMark_1 : decode cX2_removeMark 1 = .ok (.bipush 11, 2) := by decide +kernel
theorem dX2_removeMark_3 : decode cX2_removeMark 3 = .ok (.invokevirtual 24, 3) := by decide +kernel
theorem dX2_removeMark_6 : decode cX2_removeMark 6 = .ok (.iconst 1, 1) := by decide +kernel
theorem dX2_removeMark_7 : decode cX2_removeMark 7 = .ok (.isub, 1) := by decide +kernel
theorem dX2_removeMark_8 : decode cX2_removeMark 8 = .ok (.istore_n 2, 1) := by decide +kernel
theorem dX2_removeMark_9 : decode cX2_removeMark 9 = .ok (.iload_n 1, 1) := by decide +kernel
theorem dX2_removeMark_10 : decode cX2_removeMark 10 = .ok (.iconst 0, 1) := by decide +kernel
theorem dX2_removeMark_11 : decode cX2_removeMark 11 = .ok (.invokestatic 32, 3) := by decide +kernel
theorem dX2_removeMark_14 : decode cX2_removeMark 14 = .ok (.istore_n 3, 1) := by decide +kernel
theorem dX2_removeMark_15 : decode cX2_removeMark 15 = .ok (.iload_n 3, 1) := by decide +kernel
theorem dX2_removeMark_16 : decode cX2_removeMark 16 = .ok (.iload_n 2, 1) := by decide +kernel
theorem dX2_removeMark_17 : decode cX2_removeMark 17 = .ok (.iconst 0, 1) := by decide +kernel
theorem dX2_removeMark_18 : decode cX2_removeMark 18 = .ok (.invokestatic 32, 3) := by decide +kernel
theorem dX2_removeMark_21 : decode cX2_removeMark 21 = .ok (.if_icmp .ge 21, 3) := by decide +kernel
theorem dX2_removeMark_24 : decode cX2_removeMark 24 = .ok (.aload_n 0, 1) := by decide +kernel
theorem dX2_removeMark_25 : decode cX2_removeMark 25 = .ok (.iload_n 3, 1) := by decide +kernel
theorem dX2_removeMark_26 : decode cX2_removeMark 26 = .ok (.aload_n 0, 1) := by decide +kernel
theorem dX2_removeMark_27 : decode cX2_removeMark 27 = .ok (.iload_n 3, 1) := by decide +kernel
theorem dX2_removeMark_28 : decode cX2_removeMark 28 = .ok (.iconst 3, 1) := by decide +kernel
theorem dX2_removeMark_29 : decode cX2_removeMark 29 = .ok (.iadd, 1) := by decide +kernel
theorem dX2_removeMark_30 : decode cX2_removeMark 30 = .ok (.invokevirtual 24, 3) := by decide +kernel
theorem dX2_removeMark_33 : decode cX2_removeMark 33 = .ok (.invokevirtual 28, 3) := by decide +kernel
theorem dX2_removeMark_36 : decode cX2_removeMark 36 = .ok (.iinc 3 1, 3) := by decide +kernel
theorem dX2_removeMark_39 : decode cX2_removeMark 39 = .ok (.goto (-24), 3) := by decide +kernel
theorem dX2_removeMark_42 : decode cX2_removeMark 42 = .ok (.aload_n 0, 1) := by decide +kernel
theorem dX2_removeMark_43 : decode cX2_removeMark 43 = .ok (.bipush 11, 2) := by decide +kernel
theorem dX2_removeMark_45 : decode cX2_removeMark 45 = .ok (.iload_n 2, 1) := by decide +kernel
theorem dX2_removeMark_46 : decode cX2_removeMark 46 = .ok (.invokevirtual 28, 3) := by decide +kernel
theorem dX2_removeMark_49 : decode cX2_removeMark 49 = .ok (.return_, 1) := by decide +kernel
theorem dX2_origin_0 : decode cX2_origin 0 = .ok (.aload_n 0, 1) := by decide +kernel
theorem dX2_origin_1 : decode cX2_origin 1 = .ok (.iload_n 1, 1) := by decide +kernel
theorem dX2_origin_2 : decode cX2_origin 2 = .ok (.ifCond .ne 7, 3) := by decide +kernel
theorem dX2_origin_5 : decode cX2_origin 5 = .ok (.iconst 2, 1) := by decide +kernel
theorem dX2_origin_6 : decode cX2_origin 6 = .ok (.goto 10, 3) := by decide +kernel
theorem dX2_origin_9 : decode cX2_origin 9 = .ok (.iload_n 1, 1) := by decide +kernel
theorem dX2_origin_10 : decode cX2_origin 10 = .ok (.iconst 1, 1) := by decide +kernel
theorem dX2_origin_11 : decode cX2_origin 11 = .ok (.isub, 1) := by decide +kernel
theorem dX2_origin_12 : decode cX2_origin 12 = .ok (.iconst 1, 1) := by decide +kernel
theorem dX2_origin_13 : decode cX2_origin 13 = .ok (.invokestatic 36, 3) := by decide +kernel
theorem dX2_origin_16 : decode cX2_origin 16 = .ok (.invokevirtual 24, 3) := by decide +kernel
theorem dX2_origin_19 : decode cX2_origin 19 = .ok (.ireturn, 1) := by decide +kernel
theorem dX2_longAheadOf_0 : decode cX2_longAheadOf 0 = .ok (.iconst 0, 1) := by decide +kernel
theorem dX2_longAheadOf_1 : decode cX2_longAheadOf 1 = .ok (.istore_n 2, 1) := by decide +kernel
theorem dX2_longAheadOf_2 : decode cX2_longAheadOf 2 = .ok (.iconst 0, 1) := by decide +kernel
theorem dX2_longAheadOf_3 : decode cX2_longAheadOf 3 = .ok (.istore_n 3, 1) := by decide +kernel
theorem dX2_longAheadOf_4 : decode cX2_longAheadOf 4 = .ok (.iload_n 3, 1) := by decide +kernel
theorem dX2_longAheadOf_5 : decode cX2_longAheadOf 5 = .ok (.iload_n 1, 1) := by decide +kernel
theorem dX2_longAheadOf_6 : decode cX2_longAheadOf 6 = .ok (.if_icmp .ge 21, 3) := by decide +kernel
theorem dX2_longAheadOf_9 : decode cX2_longAheadOf 9 = .ok (.iload_n 2, 1) := by decide +kernel
theorem dX2_longAheadOf_10 : decode cX2_longAheadOf 10 = .ok (.aload_n 0, 1) := by decide +kernel
theorem dX2_longAheadOf_11 : decode cX2_longAheadOf 11 = .ok (.iload_n 3, 1) := by decide +kernel
theorem dX2_longAheadOf_12 : decode cX2_longAheadOf 12 = .ok (.iconst 0, 1) := by decide +kernel
theorem dX2_longAheadOf_13 : decode cX2_longAheadOf 13 = .ok (.invokestatic 36, 3) := by decide +kernel
theorem dX2_longAheadOf_16 : decode cX2_longAheadOf 16 = .ok (.invokevirtual 24, 3) := by decide +kernel
theorem dX2_longAheadOf_19 : decode cX2_longAheadOf 19 = .ok (.iadd, 1) := by decide +kernel
theorem dX2_longAheadOf_20 : decode cX2_longAheadOf 20 = .ok (.istore_n 2, 1) := by decide +kernel
theorem dX2_longAheadOf_21 : decode cX2_longAheadOf 21 = .ok (.iinc 3 1, 3) := by decide +kernel
theorem dX2_longAheadOf_24 : decode cX2_longAheadOf 24 = .ok (.goto (-20), 3) := by decide +kernel
theorem dX2_longAheadOf_27 : decode cX2_longAheadOf 27 = .ok (.iload_n 2, 1) := by decide +kernel
theorem dX2_longAheadOf_28 : decode cX2_longAheadOf 28 = .ok (.ireturn, 1) := by decide +kernel
theorem dX2_dwells_0 : decode cX2_dwells 0 = .ok (.aload_n 0, 1) := by decide +kernel
theorem dX2_dwells_1 : decode cX2_dwells 1 = .ok (.iload_n 1, 1) := by decide +kernel
theorem dX2_dwells_2 : decode cX2_dwells 2 = .ok (.iconst 1, 1) := by decide +kernel
theorem dX2_dwells_3 : decode cX2_dwells 3 = .ok (.invokestatic 36, 3) := by decide +kernel
theorem dX2_dwells_6 : decode cX2_dwells 6 = .ok (.invokevirtual 24, 3) := by decide +kernel
theorem dX2_dwells_9 : decode cX2_dwells 9 = .ok (.aload_n 0, 1) := by decide +kernel
theorem dX2_dwells_10 : decode cX2_dwells 10 = .ok (.iload_n 1, 1) := by decide +kernel
theorem dX2_dwells_11 : decode cX2_dwells 11 = .ok (.invokevirtual 39, 3) := by decide +kernel
theorem dX2_dwells_14 : decode cX2_dwells 14 = .ok (.if_icmp .ne 7, 3) := by decide +kernel
theorem dX2_dwells_17 : decode cX2_dwells 17 = .ok (.iconst 1, 1) := by decide +kernel
theorem dX2_dwells_18 : decode cX2_dwells 18 = .ok (.goto 4, 3) := by decide +kernel
theorem dX2_dwells_21 : decode cX2_dwells 21 = .ok (.iconst 0, 1) := by decide +kernel
theorem dX2_dwells_22 : decode cX2_dwells 22 = .ok (.ireturn, 1) := by decide +kernel
theorem dX2_countMoving_0 : decode cX2_countMoving 0 = .ok (.iconst 0, 1) := by decide +kernel
theorem dX2_countMoving_1 : decode cX2_countMoving 1 = .ok (.istore_n 1, 1) := by decide +kernel
theorem dX2_countMoving_2 : decode cX2_countMoving 2 = .ok (.iconst 0, 1) := by decide +kernel
theorem dX2_countMoving_3 : decode cX2_countMoving 3 = .ok (.istore_n 2, 1) := by decide +kernel
theorem dX2_countMoving_4 : decode cX2_countMoving 4 = .ok (.iload_n 2, 1) := by decide +kernel
theorem dX2_countMoving_5 : decode cX2_countMoving 5 = .ok (.aload_n 0, 1) := by decide +kernel
theorem dX2_countMoving_6 : decode cX2_countMoving 6 = .ok (.iconst 1, 1) := by decide +kernel
theorem dX2_countMoving_7 : decode cX2_countMoving 7 = .ok (.invokevirtual 24, 3) := by decide +kernel
theorem dX2_countMoving_10 : decode cX2_countMoving 10 = .ok (.if_icmp .ge 25, 3) := by decide +kernel
theorem dX2_countMoving_13 : decode cX2_countMoving 13 = .ok (.iload_n 1, 1) := by decide +kernel
theorem dX2_countMoving_14 : decode cX2_countMoving 14 = .ok (.aload_n 0, 1) := by decide +kernel
theorem dX2_countMoving_15 : decode cX2_countMoving 15 = .ok (.iload_n 2, 1) := by decide +kernel
theorem dX2_countMoving_16 : decode cX2_countMoving 16 = .ok (.invokevirtual 42, 3) := by decide +kernel
theorem dX2_countMoving_19 : decode cX2_countMoving 19 = .ok (.ifCond .eq 7, 3) := by decide +kernel
theorem dX2_countMoving_22 : decode cX2_countMoving 22 = .ok (.iconst 0, 1) := by decide +kernel
theorem dX2_countMoving_23 : decode cX2_countMoving 23 = .ok (.goto 4, 3) := by decide +kernel
theorem dX2_countMoving_26 : decode cX2_countMoving 26 = .ok (.iconst 1, 1) := by decide +kernel
theorem dX2_countMoving_27 : decode cX2_countMoving 27 = .ok (.iadd, 1) := by decide +kernel
theorem dX2_countMoving_28 : decode cX2_countMoving 28 = .ok (.istore_n 1, 1) := by decide +kernel
theorem dX2_countMoving_29 : decode cX2_countMoving 29 = .ok (.iinc 2 1, 3) := by decide +kernel
theorem dX2_countMoving_32 : decode cX2_countMoving 32 = .ok (.goto (-28), 3) := by decide +kernel
theorem dX2_countMoving_35 : decode cX2_countMoving 35 = .ok (.iload_n 1, 1) := by decide +kernel
theorem dX2_countMoving_36 : decode cX2_countMoving 36 = .ok (.ireturn, 1) := by decide +kernel
theorem dX2_isWhole_0 : decode cX2_isWhole 0 = .ok (.aload_n 0, 1) := by decide +kernel
theorem dX2_isWhole_1 : decode cX2_isWhole 1 = .ok (.iconst 1, 1) := by decide +kernel
theorem dX2_isWhole_2 : decode cX2_isWhole 2 = .ok (.invokevirtual 24, 3) := by decide +kernel
theorem dX2_isWhole_5 : decode cX2_isWhole 5 = .ok (.istore_n 1, 1) := by decide +kernel
theorem dX2_isWhole_6 : decode cX2_isWhole 6 = .ok (.iload_n 1, 1) := by decide +kernel
theorem dX2_isWhole_7 : decode cX2_isWhole 7 = .ok (.ifCond .le 39, 3) := by decide +kernel
theorem dX2_isWhole_10 : decode cX2_isWhole 10 = .ok (.aload_n 0, 1) := by decide +kernel
theorem dX2_isWhole_11 : decode cX2_isWhole 11 = .ok (.iload_n 1, 1) := by decide +kernel
theorem dX2_isWhole_12 : decode cX2_isWhole 12 = .ok (.invokevirtual 46, 3) := by decide +kernel
theorem dX2_isWhole_15 : decode cX2_isWhole 15 = .ok (.aload_n 0, 1) := by decide +kernel
theorem dX2_isWhole_16 : decode cX2_isWhole 16 = .ok (.iconst 0, 1) := by decide +kernel
theorem dX2_isWhole_17 : decode cX2_isWhole 17 = .ok (.invokevirtual 24, 3) := by decide +kernel
theorem dX2_isWhole_20 : decode cX2_isWhole 20 = .ok (.if_icmp .ne 26, 3) := by decide +kernel
theorem dX2_isWhole_23 : decode cX2_isWhole 23 = .ok (.aload_n 0, 1) := by decide +kernel
theorem dX2_isWhole_24 : decode cX2_isWhole 24 = .ok (.iload_n 1, 1) := by decide +kernel
theorem dX2_isWhole_25 : decode cX2_isWhole 25 = .ok (.iconst 1, 1) := by decide +kernel
theorem dX2_isWhole_26 : decode cX2_isWhole 26 = .ok (.isub, 1) := by decide +kernel
theorem dX2_isWhole_27 : decode cX2_isWhole 27 = .ok (.iconst 1, 1) := by decide +kernel
theorem dX2_isWhole_28 : decode cX2_isWhole 28 = .ok (.invokestatic 36, 3) := by decide +kernel
theorem dX2_isWhole_31 : decode cX2_isWhole 31 = .ok (.invokevirtual 24, 3) := by decide +kernel
theorem dX2_isWhole_34 : decode cX2_isWhole 34 = .ok (.aload_n 0, 1) := by decide +kernel
theorem dX2_isWhole_35 : decode cX2_isWhole 35 = .ok (.iconst 2, 1) := by decide +kernel
theorem dX2_isWhole_36 : decode cX2_isWhole 36 = .ok (.invokevirtual 24, 3) := by decide +kernel
theorem dX2_isWhole_39 : decode cX2_isWhole 39 = .ok (.if_icmp .ne 7, 3) := by decide +kernel
theorem dX2_isWhole_42 : decode cX2_isWhole 42 = .ok (.iconst 1, 1) := by decide +kernel
theorem dX2_isWhole_43 : decode cX2_isWhole 43 = .ok (.goto 4, 3) := by decide +kernel
theorem dX2_isWhole_46 : decode cX2_isWhole 46 = .ok (.iconst 0, 1) := by decide +kernel
theorem dX2_isWhole_47 : decode cX2_isWhole 47 = .ok (.ireturn, 1) := by decide +kernel
theorem dX2_copyTo_0 : decode cX2_copyTo 0 = .ok (.iload_n 2, 1) := by decide +kernel
theorem dX2_copyTo_1 : decode cX2_copyTo 1 = .ok (.ifCond .lt 24, 3) := by decide +kernel
theorem dX2_copyTo_4 : decode cX2_copyTo 4 = .ok (.iload_n 2, 1) := by decide +kernel
theorem dX2_copyTo_5 : decode cX2_copyTo 5 = .ok (.aload_n 1, 1) := by decide +kernel
theorem dX2_copyTo_6 : decode cX2_copyTo 6 = .ok (.arraylength, 1) := by decide +kernel
theorem dX2_copyTo_7 : decode cX2_copyTo 7 = .ok (.bipush 72, 2) := by decide +kernel
theorem dX2_copyTo_9 : decode cX2_copyTo 9 = .ok (.isub, 1) := by decide +kernel
theorem dX2_copyTo_10 : decode cX2_copyTo 10 = .ok (.if_icmp .gt 15, 3) := by decide +kernel
theorem dX2_copyTo_13 : decode cX2_copyTo 13 = .ok (.aload_n 0, 1) := by decide +kernel
theorem dX2_copyTo_14 : decode cX2_copyTo 14 = .ok (.getfield 9, 3) := by decide +kernel
theorem dX2_copyTo_17 : decode cX2_copyTo 17 = .ok (.iconst 0, 1) := by decide +kernel
theorem dX2_copyTo_18 : decode cX2_copyTo 18 = .ok (.aload_n 1, 1) := by decide +kernel
theorem dX2_copyTo_19 : decode cX2_copyTo 19 = .ok (.iload_n 2, 1) := by decide +kernel
theorem dX2_copyTo_20 : decode cX2_copyTo 20 = .ok (.bipush 72, 2) := by decide +kernel
theorem dX2_copyTo_22 : decode cX2_copyTo 22 = .ok (.invokestatic 18, 3) := by decide +kernel
theorem dX2_copyTo_25 : decode cX2_copyTo 25 = .ok (.return_, 1) := by decide +kernel
theorem dX2_copyFrom_0 : decode cX2_copyFrom 0 = .ok (.iload_n 2, 1) := by decide +kernel
theorem dX2_copyFrom_1 : decode cX2_copyFrom 1 = .ok (.ifCond .lt 24, 3) := by decide +kernel
theorem dX2_copyFrom_4 : decode cX2_copyFrom 4 = .ok (.iload_n 2, 1) := by decide +kernel
theorem dX2_copyFrom_5 : decode cX2_copyFrom 5 = .ok (.aload_n 1, 1) := by decide +kernel
theorem dX2_copyFrom_6 : decode cX2_copyFrom 6 = .ok (.arraylength, 1) := by decide +kernel
theorem dX2_copyFrom_7 : decode cX2_copyFrom 7 = .ok (.bipush 72, 2) := by decide +kernel
theorem dX2_copyFrom_9 : decode cX2_copyFrom 9 = .ok (.isub, 1) := by decide +kernel
theorem dX2_copyFrom_10 : decode cX2_copyFrom 10 = .ok (.if_icmp .gt 15, 3) := by decide +kernel
theorem dX2_copyFrom_13 : decode cX2_copyFrom 13 = .ok (.aload_n 1, 1) := by decide +kernel
theorem dX2_copyFrom_14 : decode cX2_copyFrom 14 = .ok (.iload_n 2, 1) := by decide +kernel
theorem dX2_copyFrom_15 : decode cX2_copyFrom 15 = .ok (.aload_n 0, 1) := by decide +kernel
theorem dX2_copyFrom_16 : decode cX2_copyFrom 16 = .ok (.getfield 9, 3) := by decide +kernel
theorem dX2_copyFrom_19 : decode cX2_copyFrom 19 = .ok (.iconst 0, 1) := by decide +kernel
theorem dX2_copyFrom_20 : decode cX2_copyFrom 20 = .ok (.bipush 72, 2) := by decide +kernel
theorem dX2_copyFrom_22 : decode cX2_copyFrom 22 = .ok (.invokestatic 18, 3) := by decide +kernel
theorem dX2_copyFrom_25 : decode cX2_copyFrom 25 = .ok (.return_, 1) := by decide +kernel
theorem dX3_init_0 : decode cX3_init 0 = .ok (.aload_n 0, 1) := by decide +kernel
theorem dX3_init_1 : decode cX3_init 1 = .ok (.invokespecial 3, 3) := by decide +kernel
theorem dX3_init_4 : decode cX3_init 4 = .ok (.aload_n 0, 1) := by decide +kernel
theorem dX3_init_5 : decode cX3_init 5 = .ok (.bipush 11, 2) := by decide +kernel
theorem dX3_init_7 : decode cX3_init 7 = .ok (.bipush 120, 2) := by decide +kernel
theorem dX3_init_9 : decode cX3_init 9 = .ok (.multianewarray 9 2, 4) := by decide +kernel
theorem dX3_init_13 : decode cX3_init 13 = .ok (.putfield 11, 3) := by decide +kernel
theorem dX3_init_16 : decode cX3_init 16 = .ok (.aload_n 0, 1) := by decide +kernel
theorem dX3_init_17 : decode cX3_init 17 = .ok (.aload_n 1, 1) := by decide +kernel
theorem dX3_init_18 : decode cX3_init 18 = .ok (.putfield 16, 3) := by decide +kernel
theorem dX3_init_21 : decode cX3_init 21 = .ok (.return_, 1) := by decide +kernel
theorem dX3_outdate_0 : decode cX3_outdate 0 = .ok (.aload_n 0, 1) := by decide +kernel
theorem dX3_outdate_1 : decode cX3_outdate 1 = .ok (.iconst 0, 1) := by decide +kernel
theorem dX3_outdate_2 : decode cX3_outdate 2 = .ok (.putfield 20, 3) := by decide +kernel
theorem dX3_outdate_5 : decode cX3_outdate 5 = .ok (.return_, 1) := by decide +kernel
theorem dX3_refresh_0 : decode cX3_refresh 0 = .ok (.aload_n 0, 1) := by decide +kernel
theorem dX3_refresh_1 : decode cX3_refresh 1 = .ok (.getfield 20, 3) := by decide +kernel
theorem dX3_refresh_4 : decode cX3_refresh 4 = .ok (.ifCond .ne 33, 3) := by decide +kernel
theorem dX3_refresh_7 : decode cX3_refresh 7 = .ok (.aload_n 0, 1) := by decide +kernel
theorem dX3_refresh_8 : decode cX3_refresh 8 = .ok (.iconst 1, 1) := by decide +kernel
theorem dX3_refresh_9 : decode cX3_refresh 9 = .ok (.putfield 20, 3) := by decide +kernel
theorem dX3_refresh_12 : decode cX3_refresh 12 = .ok (.aload_n 0, 1) := by decide +kernel
theorem dX3_refresh_13 : decode cX3_refresh 13 = .ok (.invokevirtual 24, 3) := by decide +kernel
theorem dX3_refresh_16 : decode cX3_refresh 16 = .ok (.iconst 0, 1) := by decide +kernel
theorem dX3_refresh_17 : decode cX3_refresh 17 = .ok (.istore_n 1, 1) := by decide +kernel
theorem dX3_refresh_18 : decode cX3_refresh 18 = .ok (.iload_n 1, 1) := by decide +kernel
theorem dX3_refresh_19 : decode cX3_refresh 19 = .ok (.aload_n 0, 1) := by decide +kernel
theorem dX3_refresh_20 : decode cX3_refresh 20 = .ok (.getfield 27, 3) := by decide +kernel
theorem dX3_refresh_23 : decode cX3_refresh 23 = .ok (.if_icmp .ge 14, 3) := by decide +kernel
theorem dX3_refresh_26 : decode cX3_refresh 26 = .ok (.aload_n 0, 1) := by decide +kernel
theorem dX3_refresh_27 : decode cX3_refresh 27 = .ok (.iload_n 1, 1) := by decide +kernel
theorem dX3_refresh_28 : decode cX3_refresh 28 = .ok (.invokevirtual 31, 3) := by decide +kernel
theorem dX3_refresh_31 : decode cX3_refresh 31 = .ok (.iinc 1 1, 3) := by decide +kernel
theorem dX3_refresh_34 : decode cX3_refresh 34 = .ok (.goto (-16), 3) := by decide +kernel
theorem dX3_refresh_37 : decode cX3_refresh 37 = .ok (.return_, 1) := by decide +kernel
theorem dX3_at_0 : decode cX3_at 0 = .ok (.iload_n 2, 1) := by decide +kernel
theorem dX3_at_1 : decode cX3_at 1 = .ok (.ifCond .ge 12, 3) := by decide +kernel
theorem dX3_at_4 : decode cX3_at 4 = .ok (.iload_n 2, 1) := by decide +kernel
theorem dX3_at_5 : decode cX3_at 5 = .ok (.aload_n 0, 1) := by decide +kernel
theorem dX3_at_6 : decode cX3_at 6 = .ok (.getfield 27, 3) := by decide +kernel
theorem dX3_at_9 : decode cX3_at 9 = .ok (.iadd, 1) := by decide +kernel
theorem dX3_at_10 : decode cX3_at 10 = .ok (.goto 21, 3) := by decide +kernel
theorem dX3_at_13 : decode cX3_at 13 = .ok (.iload_n 2, 1) := by decide +kernel
theorem dX3_at_14 : decode cX3_at 14 = .ok (.aload_n 0, 1) := by decide +kernel
theorem dX3_at_15 : decode cX3_at 15 = .ok (.getfield 27, 3) := by decide +kernel
theorem dX3_at_18 : decode cX3_at 18 = .ok (.if_icmp .lt 12, 3) := by decide +kernel
theorem dX3_at_21 : decode cX3_at 21 = .ok (.iload_n 2, 1) := by decide +kernel
theorem dX3_at_22 : decode cX3_at 22 = .ok (.aload_n 0, 1) := by decide +kernel
theorem dX3_at_23 : decode cX3_at 23 = .ok (.getfield 27, 3) := by decide +kernel
theorem dX3_at_26 : decode cX3_at 26 = .ok (.isub, 1) := by decide +kernel
theorem dX3_at_27 : decode cX3_at 27 = .ok (.goto 4, 3) := by decide +kernel
theorem dX3_at_30 : decode cX3_at 30 = .ok (.iload_n 2, 1) := by decide +kernel
theorem dX3_at_31 : decode cX3_at 31 = .ok (.istore_n 3, 1) := by decide +kernel
theorem dX3_at_32 : decode cX3_at 32 = .ok (.iload_n 1, 1) := by decide +kernel
theorem dX3_at_33 : decode cX3_at 33 = .ok (.ifCond .lt 30, 3) := by decide +kernel
theorem dX3_at_36 : decode cX3_at 36 = .ok (.iload_n 1, 1) := by decide +kernel
theorem dX3_at_37 : decode cX3_at 37 = .ok (.bipush 11, 2) := by decide +kernel
theorem dX3_at_39 : decode cX3_at 39 = .ok (.if_icmp .ge 24, 3) := by decide +kernel
theorem dX3_at_42 : decode cX3_at 42 = .ok (.iload_n 3, 1) := by decide +kernel
theorem dX3_at_43 : decode cX3_at 43 = .ok (.ifCond .lt 20, 3) := by decide +kernel
theorem dX3_at_46 : decode cX3_at 46 = .ok (.iload_n 3, 1) := by decide +kernel
theorem dX3_at_47 : decode cX3_at 47 = .ok (.bipush 120, 2) := by decide +kernel
theorem dX3_at_49 : decode cX3_at 49 = .ok (.if_icmp .ge 14, 3) := by decide +kernel
theorem dX3_at_52 : decode cX3_at 52 = .ok (.aload_n 0, 1) := by decide +kernel
theorem dX3_at_53 : decode cX3_at 53 = .ok (.getfield 11, 3) := by decide +kernel
theorem dX3_at_56 : decode cX3_at 56 = .ok (.iload_n 1, 1) := by decide +kernel
theorem dX3_at_57 : decode cX3_at 57 = .ok (.aaload, 1) := by decide +kernel
theorem dX3_at_58 : decode cX3_at 58 = .ok (.iload_n 3, 1) := by decide +kernel
theorem dX3_at_59 : decode cX3_at 59 = .ok (.laload, 1) := by decide +kernel
theorem dX3_at_60 : decode cX3_at 60 = .ok (.goto 4, 3) := by decide +kernel
theorem dX3_at_63 : decode cX3_at 63 = .ok (.lconst 0, 1) := by decide +kernel
theorem dX3_at_64 : decode cX3_at 64 = .ok (.lreturn, 1) := by decide +kernel
theorem dX3_put_0 : decode cX3_put 0 = .ok (.iload_n 1, 1) := by decide +kernel
theorem dX3_put_1 : decode cX3_put 1 = .ok (.ifCond .lt 28, 3) := by decide +kernel
theorem dX3_put_4 : decode cX3_put 4 = .ok (.iload_n 1, 1) := by decide +kernel
theorem dX3_put_5 : decode cX3_put 5 = .ok (.bipush 11, 2) := by decide +kernel
theorem dX3_put_7 : decode cX3_put 7 = .ok (.if_icmp .ge 22, 3) := by decide +kernel
theorem dX3_put_10 : decode cX3_put 10 = .ok (.iload_n 2, 1) := by decide +kernel
theorem dX3_put_11 : decode cX3_put 11 = .ok (.ifCond .lt 18, 3) := by decide +kernel
theorem dX3_put_14 : decode cX3_put 14 = .ok (.iload_n 2, 1) := by decide +kernel
theorem dX3_put_15 : decode cX3_put 15 = .ok (.bipush 120, 2) := by decide +kernel
theorem dX3_put_17 : decode cX3_put 17 = .ok (.if_icmp .ge 12, 3) := by decide +kernel
theorem dX3_put_20 : decode cX3_put 20 = .ok (.aload_n 0, 1) := by decide +kernel
theorem dX3_put_21 : decode cX3_put 21 = .ok (.getfield 11, 3) := by decide +kernel
theorem dX3_put_24 : decode cX3_put 24 = .ok (.iload_n 1, 1) := by decide +kernel
theorem dX3_put_25 : decode cX3_put 25 = .ok (.aaload, 1) := by decide +kernel
theorem dX3_put_26 : decode cX3_put 26 = .ok (.iload_n 2, 1) := by decide +kernel
theorem dX3_put_27 : decode cX3_put 27 = .ok (.lload_n 3, 1) := by decide +kernel
theorem dX3_put_28 : decode cX3_put 28 = .ok (.lastore, 1) := by decide +kernel
theorem dX3_put_29 : decode cX3_put 29 = .ok (.return_, 1) := by decide +kernel
theorem dX3_draw_0 : decode cX3_draw 0 = .ok (.aload_n 0, 1) := by decide +kernel
theorem dX3_draw_1 : decode cX3_draw 1 = .ok (.aload_n 0, 1) := by decide +kernel
theorem dX3_draw_2 : decode cX3_draw 2 = .ok (.getfield 16, 3) := by decide +kernel
theorem dX3_draw_5 : decode cX3_draw 5 = .ok (.iconst 0, 1) := by decide +kernel
theorem dX3_draw_6 : decode cX3_draw 6 = .ok (.invokevirtual 35, 3) := by decide +kernel
theorem dX3_draw_9 : decode cX3_draw 9 = .ok (.putfield 27, 3) := by decide +kernel
theorem dX3_draw_12 : decode cX3_draw 12 = .ok (.iconst 0, 1) := by decide +kernel
theorem dX3_draw_13 : decode cX3_draw 13 = .ok (.istore_n 1, 1) := by decide +kernel
theorem dX3_draw_14 : decode cX3_draw 14 = .ok (.iload_n 1, 1) := by decide +kernel
theorem dX3_draw_15 : decode cX3_draw 15 = .ok (.aload_n 0, 1) := by decide +kernel
theorem dX3_draw_16 : decode cX3_draw 16 = .ok (.getfield 16, 3) := by decide +kernel
theorem dX3_draw_19 : decode cX3_draw 19 = .ok (.iconst 1, 1) := by decide +kernel
theorem dX3_draw_20 : decode cX3_draw 20 = .ok (.invokevirtual 35, 3) := by decide +kernel
theorem dX3_draw_23 : decode cX3_draw 23 = .ok (.if_icmp .ge 26, 3) := by decide +kernel
theorem dX3_draw_26 : decode cX3_draw 26 = .ok (.aload_n 0, 1) := by decide +kernel
theorem dX3_draw_27 : decode cX3_draw 27 = .ok (.aload_n 0, 1) := by decide +kernel
theorem dX3_draw_28 : decode cX3_draw 28 = .ok (.getfield 16, 3) := by decide +kernel
theorem dX3_draw_31 : decode cX3_draw 31 = .ok (.iload_n 1, 1) := by decide +kernel
theorem dX3_draw_32 : decode cX3_draw 32 = .ok (.iconst 2, 1) := by decide +kernel
theorem dX3_draw_33 : decode cX3_draw 33 = .ok (.invokestatic 41, 3) := by decide +kernel
theorem dX3_draw_36 : decode cX3_draw 36 = .ok (.invokevirtual 35, 3) := by decide +kernel
theorem dX3_draw_39 : decode cX3_draw 39 = .ok (.iload_n 1, 1) := by decide +kernel
theorem dX3_draw_40 : decode cX3_draw 40 = .ok (.invokevirtual 45, 3) := by decide +kernel
theorem dX3_draw_43 : decode cX3_draw 43 = .ok (.iinc 1 1, 3) := by decide +kernel
theorem dX3_draw_46 : decode cX3_draw 46 = .ok (.goto (-32), 3) := by decide +kernel
theorem dX3_draw_49 : decode cX3_draw 49 = .ok (.return_, 1) := by decide +kernel
theorem dX3_drawBy_0 : decode cX3_drawBy 0 = .ok (.aload_n 0, 1) := by decide +kernel
theorem dX3_drawBy_1 : decode cX3_drawBy 1 = .ok (.getfield 16, 3) := by decide +kernel
theorem dX3_drawBy_4 : decode cX3_drawBy 4 = .ok (.iload_n 2, 1) := by decide +kernel
theorem dX3_drawBy_5 : decode cX3_drawBy 5 = .ok (.invokevirtual 49, 3) := by decide +kernel
theorem dX3_drawBy_8 : decode cX3_drawBy 8 = .ok (.istore_n 3, 1) := by decide +kernel
theorem dX3_drawBy_9 : decode cX3_drawBy 9 = .ok (.aload_n 0, 1) := by decide +kernel
theorem dX3_drawBy_10 : decode cX3_drawBy 10 = .ok (.getfield 16, 3) := by decide +kernel
theorem dX3_drawBy_13 : decode cX3_drawBy 13 = .ok (.iload_n 2, 1) := by decide +kernel
theorem dX3_drawBy_14 : decode cX3_drawBy 14 = .ok (.iconst 0, 1) := by decide +kernel
theorem dX3_drawBy_15 : decode cX3_drawBy 15 = .ok (.invokestatic 41, 3) := by decide +kernel
theorem dX3_drawBy_18 : decode cX3_drawBy 18 = .ok (.invokevirtual 35, 3) := by decide +kernel
theorem dX3_drawBy_21 : decode cX3_drawBy 21 = .ok (.istore 4, 2) := by decide +kernel
theorem dX3_drawBy_23 : decode cX3_drawBy 23 = .ok (.aload_n 0, 1) := by decide +kernel
theorem dX3_drawBy_24 : decode cX3_drawBy 24 = .ok (.getfield 16, 3) := by decide +kernel
theorem dX3_drawBy_27 : decode cX3_drawBy 27 = .ok (.iload_n 2, 1) := by decide +kernel
theorem dX3_drawBy_28 : decode cX3_drawBy 28 = .ok (.invokevirtual 52, 3) := by decide +kernel
theorem dX3_drawBy_31 : decode cX3_drawBy 31 = .ok (.istore 5, 2) := by decide +kernel
theorem dX3_drawBy_33 : decode cX3_drawBy 33 = .ok (.aload_n 0, 1) := by decide +kernel
theorem dX3_drawBy_34 : decode cX3_drawBy 34 = .ok (.getfield 16, 3) := by decide +kernel
theorem dX3_drawBy_37 : decode cX3_drawBy 37 = .ok (.iload_n 2, 1) := by decide +kernel
theorem dX3_drawBy_38 : decode cX3_drawBy 38 = .ok (.iconst 1, 1) := by decide +kernel
theorem dX3_drawBy_39 : decode cX3_drawBy 39 = .ok (.invokestatic 41, 3) := by decide +kernel
theorem dX3_drawBy_42 : decode cX3_drawBy 42 = .ok (.invokevirtual 35, 3) := by decide +kernel
theorem dX3_drawBy_45 : decode cX3_drawBy 45 = .ok (.iload 5, 2) := by decide +kernel
theorem dX3_drawBy_47 : decode cX3_drawBy 47 = .ok (.isub, 1) := by decide +kernel
theorem dX3_drawBy_48 : decode cX3_drawBy 48 = .ok (.istore 6, 2) := by decide +kernel
theorem dX3_drawBy_50 : decode cX3_drawBy 50 = .ok (.iconst 0, 1) := by decide +kernel
theorem dX3_drawBy_51 : decode cX3_drawBy 51 = .ok (.istore 7, 2) := by decide +kernel
theorem dX3_drawBy_53 : decode cX3_drawBy 53 = .ok (.iload 7, 2) := by decide +kernel
theorem dX3_drawBy_55 : decode cX3_drawBy 55 = .ok (.iload 4, 2) := by decide +kernel
theorem dX3_drawBy_57 : decode cX3_drawBy 57 = .ok (.if_icmp .ge 35, 3) := by decide +kernel
theorem dX3_drawBy_60 : decode cX3_drawBy 60 = .ok (.aload_n 0, 1) := by decide +kernel
theorem dX3_drawBy_61 : decode cX3_drawBy 61 = .ok (.iconst 0, 1) := by decide +kernel
theorem dX3_drawBy_62 : decode cX3_drawBy 62 = .ok (.iload_n 3, 1) := by decide +kernel
theorem dX3_drawBy_63 : decode cX3_drawBy 63 = .ok (.iload 7, 2) := by decide +kernel
theorem dX3_drawBy_65 : decode cX3_drawBy 65 = .ok (.iadd, 1) := by decide +kernel
theorem dX3_drawBy_66 : decode cX3_drawBy 66 = .ok (.iload 5, 2) := by decide +kernel
theorem dX3_drawBy_68 : decode cX3_drawBy 68 = .ok (.i2l, 1) := by decide +kernel
theorem dX3_drawBy_69 : decode cX3_drawBy 69 = .ok (.iload_n 1, 1) := by decide +kernel
theorem dX3_drawBy_70 : decode cX3_drawBy 70 = .ok (.iload 6, 2) := by decide +kernel
theorem dX3_drawBy_72 : decode cX3_drawBy 72 = .ok (.i2l, 1) := by decide +kernel
theorem dX3_drawBy_73 : decode cX3_drawBy 73 = .ok (.iload 7, 2) := by decide +kernel
theorem dX3_drawBy_75 : decode cX3_drawBy 75 = .ok (.i2l, 1) := by decide +kernel
theorem dX3_drawBy_76 : decode cX3_drawBy 76 = .ok (.iload 4, 2) := by decide +kernel
theorem dX3_drawBy_78 : decode cX3_drawBy 78 = .ok (.i2l, 1) := by decide +kernel
theorem dX3_drawBy_79 : decode cX3_drawBy 79 = .ok (.invokestatic 55, 3) := by decide +kernel
theorem dX3_drawBy_82 : decode cX3_drawBy 82 = .ok (.ladd, 1) := by decide +kernel
theorem dX3_drawBy_83 : decode cX3_drawBy 83 = .ok (.invokevirtual 59, 3) := by decide +kernel
theorem dX3_drawBy_86 : decode cX3_drawBy 86 = .ok (.iinc 7 1, 3) := by decide +kernel
theorem dX3_drawBy_89 : decode cX3_drawBy 89 = .ok (.goto (-36), 3) := by decide +kernel
theorem dX3_drawBy_92 : decode cX3_drawBy 92 = .ok (.return_, 1) := by decide +kernel
theorem dX3_riseBy_0 : decode cX3_riseBy 0 = .ok (.lload_n 3, 1) := by decide +kernel
theorem dX3_riseBy_1 : decode cX3_riseBy 1 = .ok (.lstore 7, 2) := by decide +kernel
theorem dX3_riseBy_3 : decode cX3_riseBy 3 = .ok (.lload 5, 2) := by decide +kernel
theorem dX3_riseBy_5 : decode cX3_riseBy 5 = .ok (.lstore 9, 2) := by decide +kernel
theorem dX3_riseBy_7 : decode cX3_riseBy 7 = .ok (.iload_n 0, 1) := by decide +kernel
theorem dX3_riseBy_8 : decode cX3_riseBy 8 = .ok (.tableswitch 210 1 3 #[28, 77, 130], 28) := by decide +kernel
theorem dX3_riseBy_36 : decode cX3_riseBy 36 = .ok (.lload 5, 2) := by decide +kernel
theorem dX3_riseBy_38 : decode cX3_riseBy 38 = .ok (.lload 5, 2) := by decide +kernel
theorem dX3_riseBy_40 : decode cX3_riseBy 40 = .ok (.lmul, 1) := by decide +kernel
theorem dX3_riseBy_41 : decode cX3_riseBy 41 = .ok (.lstore 9, 2) := by decide +kernel
theorem dX3_riseBy_43 : decode cX3_riseBy 43 = .ok (.ldc2_w 63, 3) := by decide +kernel
theorem dX3_riseBy_46 : decode cX3_riseBy 46 = .ok (.lload_n 3, 1) := by decide +kernel
theorem dX3_riseBy_47 : decode cX3_riseBy 47 = .ok (.lmul, 1) := by decide +kernel
theorem dX3_riseBy_48 : decode cX3_riseBy 48 = .ok (.lload 5, 2) := by decide +kernel
theorem dX3_riseBy_50 : decode cX3_riseBy 50 = .ok (.lcmp, 1) := by decide +kernel
theorem dX3_riseBy_51 : decode cX3_riseBy 51 = .ok (.ifCond .gt 13, 3) := by decide +kernel
theorem dX3_riseBy_54 : decode cX3_riseBy 54 = .ok (.ldc2_w 63, 3) := by decide +kernel
theorem dX3_riseBy_57 : decode cX3_riseBy 57 = .ok (.lload_n 3, 1) := by decide +kernel
theorem dX3_riseBy_58 : decode cX3_riseBy 58 = .ok (.lmul, 1) := by decide +kernel
theorem dX3_riseBy_59 : decode cX3_riseBy 59 = .ok (.lload_n 3, 1) := by decide +kernel
theorem dX3_riseBy_60 : decode cX3_riseBy 60 = .ok (.lmul, 1) := by decide +kernel
theorem dX3_riseBy_61 : decode cX3_riseBy 61 = .ok (.goto 19, 3) := by decide +kernel
theorem dX3_riseBy_64 : decode cX3_riseBy 64 = .ok (.lload 9, 2) := by decide +kernel
theorem dX3_riseBy_66 : decode cX3_riseBy 66 = .ok (.ldc2_w 63, 3) := by decide +kernel
theorem dX3_riseBy_69 : decode cX3_riseBy 69 = .ok (.lload 5, 2) := by decide +kernel
theorem dX3_riseBy_71 : decode cX3_riseBy 71 = .ok (.lload_n 3, 1) := by decide +kernel
theorem dX3_riseBy_72 : decode cX3_riseBy 72 = .ok (.lsub, 1) := by decide +kernel
theorem dX3_riseBy_73 : decode cX3_riseBy 73 = .ok (.lmul, 1) := by decide +kernel
theorem dX3_riseBy_74 : decode cX3_riseBy 74 = .ok (.lload 5, 2) := by decide +kernel
theorem dX3_riseBy_76 : decode cX3_riseBy 76 = .ok (.lload_n 3, 1) := by decide +kernel
theorem dX3_riseBy_77 : decode cX3_riseBy 77 = .ok (.lsub, 1) := by decide +kernel
theorem dX3_riseBy_78 : decode cX3_riseBy 78 = .ok (.lmul, 1) := by decide +kernel
theorem dX3_riseBy_79 : decode cX3_riseBy 79 = .ok (.lsub, 1) := by decide +kernel
theorem dX3_riseBy_80 : decode cX3_riseBy 80 = .ok (.lstore 7, 2) := by decide +kernel
theorem dX3_riseBy_82 : decode cX3_riseBy 82 = .ok (.goto 136, 3) := by decide +kernel
theorem dX3_riseBy_85 : decode cX3_riseBy 85 = .ok (.lload 5, 2) := by decide +kernel
theorem dX3_riseBy_87 : decode cX3_riseBy 87 = .ok (.lload 5, 2) := by decide +kernel
theorem dX3_riseBy_89 : decode cX3_riseBy 89 = .ok (.lmul, 1) := by decide +kernel
theorem dX3_riseBy_90 : decode cX3_riseBy 90 = .ok (.lload 5, 2) := by decide +kernel
theorem dX3_riseBy_92 : decode cX3_riseBy 92 = .ok (.lmul, 1) := by decide +kernel
theorem dX3_riseBy_93 : decode cX3_riseBy 93 = .ok (.lload 5, 2) := by decide +kernel
theorem dX3_riseBy_95 : decode cX3_riseBy 95 = .ok (.lmul, 1) := by decide +kernel
theorem dX3_riseBy_96 : decode cX3_riseBy 96 = .ok (.lload 5, 2) := by decide +kernel
theorem dX3_riseBy_98 : decode cX3_riseBy 98 = .ok (.lmul, 1) := by decide +kernel
theorem dX3_riseBy_99 : decode cX3_riseBy 99 = .ok (.lstore 9, 2) := by decide +kernel
theorem dX3_riseBy_101 : decode cX3_riseBy 101 = .ok (.lload_n 3, 1) := by decide +kernel
theorem dX3_riseBy_102 : decode cX3_riseBy 102 = .ok (.lload_n 3, 1) := by decide +kernel
theorem dX3_riseBy_103 : decode cX3_riseBy 103 = .ok (.lmul, 1) := by decide +kernel
theorem dX3_riseBy_104 : decode cX3_riseBy 104 = .ok (.lload_n 3, 1) := by decide +kernel
theorem dX3_riseBy_105 : decode cX3_riseBy 105 = .ok (.lmul, 1) := by decide +kernel
theorem dX3_riseBy_106 : decode cX3_riseBy 106 = .ok (.ldc2_w 65, 3) := by decide +kernel
theorem dX3_riseBy_109 : decode cX3_riseBy 109 = .ok (.lload 5, 2) := by decide +kernel
theorem dX3_riseBy_111 : decode cX3_riseBy 111 = .ok (.lmul, 1) := by decide +kernel
theorem dX3_riseBy_112 : decode cX3_riseBy 112 = .ok (.lload 5, 2) := by decide +kernel
theorem dX3_riseBy_114 : decode cX3_riseBy 114 = .ok (.lmul, 1) := by decide +kernel
theorem dX3_riseBy_115 : decode cX3_riseBy 115 = .ok (.ldc2_w 67, 3) := by decide +kernel
theorem dX3_riseBy_118 : decode cX3_riseBy 118 = .ok (.lload_n 3, 1) := by decide +kernel
theorem dX3_riseBy_119 : decode cX3_riseBy 119 = .ok (.lmul, 1) := by decide +kernel
theorem dX3_riseBy_120 : decode cX3_riseBy 120 = .ok (.lload 5, 2) := by decide +kernel
theorem dX3_riseBy_122 : decode cX3_riseBy 122 = .ok (.lmul, 1) := by decide +kernel
theorem dX3_riseBy_123 : decode cX3_riseBy 123 = .ok (.lsub, 1) := by decide +kernel
theorem dX3_riseBy_124 : decode cX3_riseBy 124 = .ok (.ldc2_w 69, 3) := by decide +kernel
theorem dX3_riseBy_127 : decode cX3_riseBy 127 = .ok (.lload_n 3, 1) := by decide +kernel
theorem dX3_riseBy_128 : decode cX3_riseBy 128 = .ok (.lmul, 1) := by decide +kernel
theorem dX3_riseBy_129 : decode cX3_riseBy 129 = .ok (.lload_n 3, 1) := by decide +kernel
theorem dX3_riseBy_130 : decode cX3_riseBy 130 = .ok (.lmul, 1) := by decide +kernel
theorem dX3_riseBy_131 : decode cX3_riseBy 131 = .ok (.ladd, 1) := by decide +kernel
theorem dX3_riseBy_132 : decode cX3_riseBy 132 = .ok (.lmul, 1) := by decide +kernel
theorem dX3_riseBy_133 : decode cX3_riseBy 133 = .ok (.lstore 7, 2) := by decide +kernel
theorem dX3_riseBy_135 : decode cX3_riseBy 135 = .ok (.goto 83, 3) := by decide +kernel
theorem dX3_riseBy_138 : decode cX3_riseBy 138 = .ok (.lload 5, 2) := by decide +kernel
theorem dX3_riseBy_140 : decode cX3_riseBy 140 = .ok (.lload 5, 2) := by decide +kernel
theorem dX3_riseBy_142 : decode cX3_riseBy 142 = .ok (.lmul, 1) := by decide +kernel
theorem dX3_riseBy_143 : decode cX3_riseBy 143 = .ok (.lload 5, 2) := by decide +kernel
theorem dX3_riseBy_145 : decode cX3_riseBy 145 = .ok (.lmul, 1) := by decide +kernel
theorem dX3_riseBy_146 : decode cX3_riseBy 146 = .ok (.lload 5, 2) := by decide +kernel
theorem dX3_riseBy_148 : decode cX3_riseBy 148 = .ok (.lmul, 1) := by decide +kernel
theorem dX3_riseBy_149 : decode cX3_riseBy 149 = .ok (.lload 5, 2) := by decide +kernel
theorem dX3_riseBy_151 : decode cX3_riseBy 151 = .ok (.lmul, 1) := by decide +kernel
theorem dX3_riseBy_152 : decode cX3_riseBy 152 = .ok (.lload 5, 2) := by decide +kernel
theorem dX3_riseBy_154 : decode cX3_riseBy 154 = .ok (.lmul, 1) := by decide +kernel
theorem dX3_riseBy_155 : decode cX3_riseBy 155 = .ok (.lload 5, 2) := by decide +kernel
theorem dX3_riseBy_157 : decode cX3_riseBy 157 = .ok (.lmul, 1) := by decide +kernel
theorem dX3_riseBy_158 : decode cX3_riseBy 158 = .ok (.lstore 9, 2) := by decide +kernel
theorem dX3_riseBy_160 : decode cX3_riseBy 160 = .ok (.lload_n 3, 1) := by decide +kernel
theorem dX3_riseBy_161 : decode cX3_riseBy 161 = .ok (.lload_n 3, 1) := by decide +kernel
theorem dX3_riseBy_162 : decode cX3_riseBy 162 = .ok (.lmul, 1) := by decide +kernel
theorem dX3_riseBy_163 : decode cX3_riseBy 163 = .ok (.lload_n 3, 1) := by decide +kernel
theorem dX3_riseBy_164 : decode cX3_riseBy 164 = .ok (.lmul, 1) := by decide +kernel
theorem dX3_riseBy_165 : decode cX3_riseBy 165 = .ok (.lload_n 3, 1) := by decide +kernel
theorem dX3_riseBy_166 : decode cX3_riseBy 166 = .ok (.lmul, 1) := by decide +kernel
theorem dX3_riseBy_167 : decode cX3_riseBy 167 = .ok (.ldc2_w 71, 3) := by decide +kernel
theorem dX3_riseBy_170 : decode cX3_riseBy 170 = .ok (.lload 5, 2) := by decide +kernel
theorem dX3_riseBy_172 : decode cX3_riseBy 172 = .ok (.lmul, 1) := by decide +kernel
theorem dX3_riseBy_173 : decode cX3_riseBy 173 = .ok (.lload 5, 2) := by decide +kernel
theorem dX3_riseBy_175 : decode cX3_riseBy 175 = .ok (.lmul, 1) := by decide +kernel
theorem dX3_riseBy_176 : decode cX3_riseBy 176 = .ok (.lload 5, 2) := by decide +kernel
theorem dX3_riseBy_178 : decode cX3_riseBy 178 = .ok (.lmul, 1) := by decide +kernel
theorem dX3_riseBy_179 : decode cX3_riseBy 179 = .ok (.ldc2_w 73, 3) := by decide +kernel
theorem dX3_riseBy_182 : decode cX3_riseBy 182 = .ok (.lload_n 3, 1) := by decide +kernel
theorem dX3_riseBy_183 : decode cX3_riseBy 183 = .ok (.lmul, 1) := by decide +kernel
theorem dX3_riseBy_184 : decode cX3_riseBy 184 = .ok (.lload 5, 2) := by decide +kernel
theorem dX3_riseBy_186 : decode cX3_riseBy 186 = .ok (.lmul, 1) := by decide +kernel
theorem dX3_riseBy_187 : decode cX3_riseBy 187 = .ok (.lload 5, 2) := by decide +kernel
theorem dX3_riseBy_189 : decode cX3_riseBy 189 = .ok (.lmul, 1) := by decide +kernel
theorem dX3_riseBy_190 : decode cX3_riseBy 190 = .ok (.lsub, 1) := by decide +kernel
theorem dX3_riseBy_191 : decode cX3_riseBy 191 = .ok (.ldc2_w 75, 3) := by decide +kernel
theorem dX3_riseBy_194 : decode cX3_riseBy 194 = .ok (.lload_n 3, 1) := by decide +kernel
theorem dX3_riseBy_195 : decode cX3_riseBy 195 = .ok (.lmul, 1) := by decide +kernel
theorem dX3_riseBy_196 : decode cX3_riseBy 196 = .ok (.lload_n 3, 1) := by decide +kernel
theorem dX3_riseBy_197 : decode cX3_riseBy 197 = .ok (.lmul, 1) := by decide +kernel
theorem dX3_riseBy_198 : decode cX3_riseBy 198 = .ok (.lload 5, 2) := by decide +kernel
theorem dX3_riseBy_200 : decode cX3_riseBy 200 = .ok (.lmul, 1) := by decide +kernel
theorem dX3_riseBy_201 : decode cX3_riseBy 201 = .ok (.ladd, 1) := by decide +kernel
theorem dX3_riseBy_202 : decode cX3_riseBy 202 = .ok (.ldc2_w 77, 3) := by decide +kernel
theorem dX3_riseBy_205 : decode cX3_riseBy 205 = .ok (.lload_n 3, 1) := by decide +kernel
theorem dX3_riseBy_206 : decode cX3_riseBy 206 = .ok (.lmul, 1) := by decide +kernel
theorem dX3_riseBy_207 : decode cX3_riseBy 207 = .ok (.lload_n 3, 1) := by decide +kernel
theorem dX3_riseBy_208 : decode cX3_riseBy 208 = .ok (.lmul, 1) := by decide +kernel
theorem dX3_riseBy_209 : decode cX3_riseBy 209 = .ok (.lload_n 3, 1) := by decide +kernel
theorem dX3_riseBy_210 : decode cX3_riseBy 210 = .ok (.lmul, 1) := by decide +kernel
theorem dX3_riseBy_211 : decode cX3_riseBy 211 = .ok (.lsub, 1) := by decide +kernel
theorem dX3_riseBy_212 : decode cX3_riseBy 212 = .ok (.lmul, 1) := by decide +kernel
theorem dX3_riseBy_213 : decode cX3_riseBy 213 = .ok (.lstore 7, 2) := by decide +kernel
theorem dX3_riseBy_215 : decode cX3_riseBy 215 = .ok (.goto 3, 3) := by decide +kernel
theorem dX3_riseBy_218 : decode cX3_riseBy 218 = .ok (.lload 9, 2) := by decide +kernel
theorem dX3_riseBy_220 : decode cX3_riseBy 220 = .ok (.lconst 0, 1) := by decide +kernel
theorem dX3_riseBy_221 : decode cX3_riseBy 221 = .ok (.lcmp, 1) := by decide +kernel
theorem dX3_riseBy_222 : decode cX3_riseBy 222 = .ok (.ifCond .le 26, 3) := by decide +kernel
theorem dX3_riseBy_225 : decode cX3_riseBy 225 = .ok (.ldc2_w 63, 3) := by decide +kernel
theorem dX3_riseBy_228 : decode cX3_riseBy 228 = .ok (.lload_n 1, 1) := by decide +kernel
theorem dX3_riseBy_229 : decode cX3_riseBy 229 = .ok (.lmul, 1) := by decide +kernel
theorem dX3_riseBy_230 : decode cX3_riseBy 230 = .ok (.lload 7, 2) := by decide +kernel
theorem dX3_riseBy_232 : decode cX3_riseBy 232 = .ok (.lmul, 1) := by decide +kernel
theorem dX3_riseBy_233 : decode cX3_riseBy 233 = .ok (.lload 9, 2) := by decide +kernel
theorem dX3_riseBy_235 : decode cX3_riseBy 235 = .ok (.ladd, 1) := by decide +kernel
theorem dX3_riseBy_236 : decode cX3_riseBy 236 = .ok (.ldc2_w 63, 3) := by decide +kernel
theorem dX3_riseBy_239 : decode cX3_riseBy 239 = .ok (.lload 9, 2) := by decide +kernel
theorem dX3_riseBy_241 : decode cX3_riseBy 241 = .ok (.lmul, 1) := by decide +kernel
theorem dX3_riseBy_242 : decode cX3_riseBy 242 = .ok (.invokestatic 79, 3) := by decide +kernel
theorem dX3_riseBy_245 : decode cX3_riseBy 245 = .ok (.goto 4, 3) := by decide +kernel
theorem dX3_riseBy_248 : decode cX3_riseBy 248 = .ok (.lconst 0, 1) := by decide +kernel
theorem dX3_riseBy_249 : decode cX3_riseBy 249 = .ok (.lreturn, 1) := by decide +kernel
theorem dX3_measure_0 : decode cX3_measure 0 = .ok (.aload_n 0, 1) := by decide +kernel
theorem dX3_measure_1 : decode cX3_measure 1 = .ok (.iconst 0, 1) := by decide +kernel
theorem dX3_measure_2 : decode cX3_measure 2 = .ok (.iload_n 1, 1) := by decide +kernel
theorem dX3_measure_3 : decode cX3_measure 3 = .ok (.invokevirtual 85, 3) := by decide +kernel
theorem dX3_measure_6 : decode cX3_measure 6 = .ok (.lstore_n 2, 1) := by decide +kernel
theorem dX3_measure_7 : decode cX3_measure 7 = .ok (.aload_n 0, 1) := by decide +kernel
theorem dX3_measure_8 : decode cX3_measure 8 = .ok (.iconst 0, 1) := by decide +kernel
theorem dX3_measure_9 : decode cX3_measure 9 = .ok (.iload_n 1, 1) := by decide +kernel
theorem dX3_measure_10 : decode cX3_measure 10 = .ok (.iconst 1, 1) := by decide +kernel
theorem dX3_measure_11 : decode cX3_measure 11 = .ok (.isub, 1) := by decide +kernel
theorem dX3_measure_12 : decode cX3_measure 12 = .ok (.invokevirtual 85, 3) := by decide +kernel
theorem dX3_measure_15 : decode cX3_measure 15 = .ok (.lstore 4, 2) := by decide +kernel
theorem dX3_measure_17 : decode cX3_measure 17 = .ok (.aload_n 0, 1) := by decide +kernel
theorem dX3_measure_18 : decode cX3_measure 18 = .ok (.iconst 0, 1) := by decide +kernel
theorem dX3_measure_19 : decode cX3_measure 19 = .ok (.iload_n 1, 1) := by decide +kernel
theorem dX3_measure_20 : decode cX3_measure 20 = .ok (.iconst 1, 1) := by decide +kernel
theorem dX3_measure_21 : decode cX3_measure 21 = .ok (.iadd, 1) := by decide +kernel
theorem dX3_measure_22 : decode cX3_measure 22 = .ok (.invokevirtual 85, 3) := by decide +kernel
theorem dX3_measure_25 : decode cX3_measure 25 = .ok (.lstore 6, 2) := by decide +kernel
theorem dX3_measure_27 : decode cX3_measure 27 = .ok (.lload 6, 2) := by decide +kernel
theorem dX3_measure_29 : decode cX3_measure 29 = .ok (.ldc2_w 63, 3) := by decide +kernel
theorem dX3_measure_32 : decode cX3_measure 32 = .ok (.lload_n 2, 1) := by decide +kernel
theorem dX3_measure_33 : decode cX3_measure 33 = .ok (.lmul, 1) := by decide +kernel
theorem dX3_measure_34 : decode cX3_measure 34 = .ok (.lsub, 1) := by decide +kernel
theorem dX3_measure_35 : decode cX3_measure 35 = .ok (.lload 4, 2) := by decide +kernel
theorem dX3_measure_37 : decode cX3_measure 37 = .ok (.ladd, 1) := by decide +kernel
theorem dX3_measure_38 : decode cX3_measure 38 = .ok (.lstore 8, 2) := by decide +kernel
theorem dX3_measure_40 : decode cX3_measure 40 = .ok (.aload_n 0, 1) := by decide +kernel
theorem dX3_measure_41 : decode cX3_measure 41 = .ok (.iconst 0, 1) := by decide +kernel
theorem dX3_measure_42 : decode cX3_measure 42 = .ok (.iload_n 1, 1) := by decide +kernel
theorem dX3_measure_43 : decode cX3_measure 43 = .ok (.iconst 2, 1) := by decide +kernel
theorem dX3_measure_44 : decode cX3_measure 44 = .ok (.iadd, 1) := by decide +kernel
theorem dX3_measure_45 : decode cX3_measure 45 = .ok (.invokevirtual 85, 3) := by decide +kernel
theorem dX3_measure_48 : decode cX3_measure 48 = .ok (.ldc2_w 63, 3) := by decide +kernel
theorem dX3_measure_51 : decode cX3_measure 51 = .ok (.lload 6, 2) := by decide +kernel
theorem dX3_measure_53 : decode cX3_measure 53 = .ok (.lmul, 1) := by decide +kernel
theorem dX3_measure_54 : decode cX3_measure 54 = .ok (.lsub, 1) := by decide +kernel
theorem dX3_measure_55 : decode cX3_measure 55 = .ok (.lload_n 2, 1) := by decide +kernel
theorem dX3_measure_56 : decode cX3_measure 56 = .ok (.ladd, 1) := by decide +kernel
theorem dX3_measure_57 : decode cX3_measure 57 = .ok (.lstore 10, 2) := by decide +kernel
theorem dX3_measure_59 : decode cX3_measure 59 = .ok (.aload_n 0, 1) := by decide +kernel
theorem dX3_measure_60 : decode cX3_measure 60 = .ok (.iconst 1, 1) := by decide +kernel
theorem dX3_measure_61 : decode cX3_measure 61 = .ok (.iload_n 1, 1) := by decide +kernel
theorem dX3_measure_62 : decode cX3_measure 62 = .ok (.lload 6, 2) := by decide +kernel
theorem dX3_measure_64 : decode cX3_measure 64 = .ok (.lload_n 2, 1) := by decide +kernel
theorem dX3_measure_65 : decode cX3_measure 65 = .ok (.lsub, 1) := by decide +kernel
theorem dX3_measure_66 : decode cX3_measure 66 = .ok (.invokevirtual 59, 3) := by decide +kernel
theorem dX3_measure_69 : decode cX3_measure 69 = .ok (.aload_n 0, 1) := by decide +kernel
theorem dX3_measure_70 : decode cX3_measure 70 = .ok (.iconst 2, 1) := by decide +kernel
theorem dX3_measure_71 : decode cX3_measure 71 = .ok (.iload_n 1, 1) := by decide +kernel
theorem dX3_measure_72 : decode cX3_measure 72 = .ok (.lload 8, 2) := by decide +kernel
theorem dX3_measure_74 : decode cX3_measure 74 = .ok (.invokevirtual 59, 3) := by decide +kernel
theorem dX3_measure_77 : decode cX3_measure 77 = .ok (.aload_n 0, 1) := by decide +kernel
theorem dX3_measure_78 : decode cX3_measure 78 = .ok (.iconst 3, 1) := by decide +kernel
theorem dX3_measure_79 : decode cX3_measure 79 = .ok (.iload_n 1, 1) := by decide +kernel
theorem dX3_measure_80 : decode cX3_measure 80 = .ok (.lload 10, 2) := by decide +kernel
theorem dX3_measure_82 : decode cX3_measure 82 = .ok (.lload 8, 2) := by decide +kernel
theorem dX3_measure_84 : decode cX3_measure 84 = .ok (.lsub, 1) := by decide +kernel
theorem dX3_measure_85 : decode cX3_measure 85 = .ok (.invokevirtual 59, 3) := by decide +kernel
theorem dX3_measure_88 : decode cX3_measure 88 = .ok (.lload 6, 2) := by decide +kernel
theorem dX3_measure_90 : decode cX3_measure 90 = .ok (.lload 4, 2) := by decide +kernel
theorem dX3_measure_92 : decode cX3_measure 92 = .ok (.lsub, 1) := by decide +kernel
theorem dX3_measure_93 : decode cX3_measure 93 = .ok (.ldc2_w 89, 3) := by decide +kernel
theorem dX3_measure_96 : decode cX3_measure 96 = .ok (.lmul, 1) := by decide +kernel
theorem dX3_measure_97 : decode cX3_measure 97 = .ok (.aload_n 0, 1) := by decide +kernel
theorem dX3_measure_98 : decode cX3_measure 98 = .ok (.getfield 27, 3) := by decide +kernel
theorem dX3_measure_101 : decode cX3_measure 101 = .ok (.i2l, 1) := by decide +kernel
theorem dX3_measure_102 : decode cX3_measure 102 = .ok (.lmul, 1) := by decide +kernel
theorem dX3_measure_103 : decode cX3_measure 103 = .ok (.ldc2_w 91, 3) := by decide +kernel
theorem dX3_measure_106 : decode cX3_measure 106 = .ok (.invokestatic 79, 3) := by decide +kernel
theorem dX3_measure_109 : decode cX3_measure 109 = .ok (.lstore 12, 2) := by decide +kernel
theorem dX3_measure_111 : decode cX3_measure 111 = .ok (.lload 8, 2) := by decide +kernel
theorem dX3_measure_113 : decode cX3_measure 113 = .ok (.ldc2_w 93, 3) := by decide +kernel
theorem dX3_measure_116 : decode cX3_measure 116 = .ok (.lmul, 1) := by decide +kernel
theorem dX3_measure_117 : decode cX3_measure 117 = .ok (.aload_n 0, 1) := by decide +kernel
theorem dX3_measure_118 : decode cX3_measure 118 = .ok (.getfield 27, 3) := by decide +kernel
theorem dX3_measure_121 : decode cX3_measure 121 = .ok (.i2l, 1) := by decide +kernel
theorem dX3_measure_122 : decode cX3_measure 122 = .ok (.lmul, 1) := by decide +kernel
theorem dX3_measure_123 : decode cX3_measure 123 = .ok (.aload_n 0, 1) := by decide +kernel
theorem dX3_measure_124 : decode cX3_measure 124 = .ok (.getfield 27, 3) := by decide +kernel
theorem dX3_measure_127 : decode cX3_measure 127 = .ok (.i2l, 1) := by decide +kernel
theorem dX3_measure_128 : decode cX3_measure 128 = .ok (.lmul, 1) := by decide +kernel
theorem dX3_measure_129 : decode cX3_measure 129 = .ok (.ldc2_w 95, 3) := by decide +kernel
theorem dX3_measure_132 : decode cX3_measure 132 = .ok (.invokestatic 79, 3) := by decide +kernel
theorem dX3_measure_135 : decode cX3_measure 135 = .ok (.lstore 14, 2) := by decide +kernel
theorem dX3_measure_137 : decode cX3_measure 137 = .ok (.aload_n 0, 1) := by decide +kernel
theorem dX3_measure_138 : decode cX3_measure 138 = .ok (.iconst 5, 1) := by decide +kernel
theorem dX3_measure_139 : decode cX3_measure 139 = .ok (.iload_n 1, 1) := by decide +kernel
theorem dX3_measure_140 : decode cX3_measure 140 = .ok (.lload 12, 2) := by decide +kernel
theorem dX3_measure_142 : decode cX3_measure 142 = .ok (.invokevirtual 59, 3) := by decide +kernel
theorem dX3_measure_145 : decode cX3_measure 145 = .ok (.aload_n 0, 1) := by decide +kernel
theorem dX3_measure_146 : decode cX3_measure 146 = .ok (.bipush 6, 2) := by decide +kernel
theorem dX3_measure_148 : decode cX3_measure 148 = .ok (.iload_n 1, 1) := by decide +kernel
theorem dX3_measure_149 : decode cX3_measure 149 = .ok (.lload 14, 2) := by decide +kernel
theorem dX3_measure_151 : decode cX3_measure 151 = .ok (.invokevirtual 59, 3) := by decide +kernel
theorem dX3_measure_154 : decode cX3_measure 154 = .ok (.aload_n 0, 1) := by decide +kernel
theorem dX3_measure_155 : decode cX3_measure 155 = .ok (.iload_n 1, 1) := by decide +kernel
theorem dX3_measure_156 : decode cX3_measure 156 = .ok (.lload 12, 2) := by decide +kernel
theorem dX3_measure_158 : decode cX3_measure 158 = .ok (.lload 14, 2) := by decide +kernel
theorem dX3_measure_160 : decode cX3_measure 160 = .ok (.invokevirtual 97, 3) := by decide +kernel
theorem dX3_measure_163 : decode cX3_measure 163 = .ok (.aload_n 0, 1) := by decide +kernel
theorem dX3_measure_164 : decode cX3_measure 164 = .ok (.getfield 16, 3) := by decide +kernel
theorem dX3_measure_167 : decode cX3_measure 167 = .ok (.bipush 8, 2) := by decide +kernel
theorem dX3_measure_169 : decode cX3_measure 169 = .ok (.invokevirtual 35, 3) := by decide +kernel
theorem dX3_measure_172 : decode cX3_measure 172 = .ok (.i2l, 1) := by decide +kernel
theorem dX3_measure_173 : decode cX3_measure 173 = .ok (.lstore 16, 2) := by decide +kernel
theorem dX3_measure_175 : decode cX3_measure 175 = .ok (.aload_n 0, 1) := by decide +kernel
theorem dX3_measure_176 : decode cX3_measure 176 = .ok (.bipush 10, 2) := by decide +kernel
theorem dX3_measure_178 : decode cX3_measure 178 = .ok (.iload_n 1, 1) := by decide +kernel
theorem dX3_measure_179 : decode cX3_measure 179 = .ok (.aload_n 0, 1) := by decide +kernel
theorem dX3_measure_180 : decode cX3_measure 180 = .ok (.iload_n 1, 1) := by decide +kernel
theorem dX3_measure_181 : decode cX3_measure 181 = .ok (.invokevirtual 101, 3) := by decide +kernel
theorem dX3_measure_184 : decode cX3_measure 184 = .ok (.aload_n 0, 1) := by decide +kernel
theorem dX3_measure_185 : decode cX3_measure 185 = .ok (.getfield 16, 3) := by decide +kernel
theorem dX3_measure_188 : decode cX3_measure 188 = .ok (.bipush 7, 2) := by decide +kernel
theorem dX3_measure_190 : decode cX3_measure 190 = .ok (.invokevirtual 35, 3) := by decide +kernel
theorem dX3_measure_193 : decode cX3_measure 193 = .ok (.i2l, 1) := by decide +kernel
theorem dX3_measure_194 : decode cX3_measure 194 = .ok (.lload 16, 2) := by decide +kernel
theorem dX3_measure_196 : decode cX3_measure 196 = .ok (.lmul, 1) := by decide +kernel
theorem dX3_measure_197 : decode cX3_measure 197 = .ok (.lload 16, 2) := by decide +kernel
theorem dX3_measure_199 : decode cX3_measure 199 = .ok (.lmul, 1) := by decide +kernel
theorem dX3_measure_200 : decode cX3_measure 200 = .ok (.lload 8, 2) := by decide +kernel
theorem dX3_measure_202 : decode cX3_measure 202 = .ok (.lmul, 1) := by decide +kernel
theorem dX3_measure_203 : decode cX3_measure 203 = .ok (.ldc2_w 105, 3) := by decide +kernel
theorem dX3_measure_206 : decode cX3_measure 206 = .ok (.invokestatic 79, 3) := by decide +kernel
theorem dX3_measure_209 : decode cX3_measure 209 = .ok (.ladd, 1) := by decide +kernel
theorem dX3_measure_210 : decode cX3_measure 210 = .ok (.invokevirtual 59, 3) := by decide +kernel
theorem dX3_measure_213 : decode cX3_measure 213 = .ok (.return_, 1) := by decide +kernel
theorem dX3_measureRoller_0 : decode cX3_measureRoller 0 = .ok (.aload_n 0, 1) := by decide +kernel
theorem dX3_measureRoller_1 : decode cX3_measureRoller 1 = .ok (.getfield 16, 3) := by decide +kernel
theorem dX3_measureRoller_4 : decode cX3_measureRoller 4 = .ok (.iconst 4, 1) := by decide +kernel
theorem dX3_measureRoller_5 : decode cX3_measureRoller 5 = .ok (.invokevirtual 35, 3) := by decide +kernel
theorem dX3_measureRoller_8 : decode cX3_measureRoller 8 = .ok (.istore 6, 2) := by decide +kernel
theorem dX3_measureRoller_10 : decode cX3_measureRoller 10 = .ok (.aload_n 0, 1) := by decide +kernel
theorem dX3_measureRoller_11 : decode cX3_measureRoller 11 = .ok (.getfield 16, 3) := by decide +kernel
theorem dX3_measureRoller_14 : decode cX3_measureRoller 14 = .ok (.iconst 3, 1) := by decide +kernel
theorem dX3_measureRoller_15 : decode cX3_measureRoller 15 = .ok (.invokevirtual 35, 3) := by decide +kernel
theorem dX3_measureRoller_18 : decode cX3_measureRoller 18 = .ok (.iload 6, 2) := by decide +kernel
theorem dX3_measureRoller_20 : decode cX3_measureRoller 20 = .ok (.iadd, 1) := by decide +kernel
theorem dX3_measureRoller_21 : decode cX3_measureRoller 21 = .ok (.i2l, 1) := by decide +kernel
theorem dX3_measureRoller_22 : decode cX3_measureRoller 22 = .ok (.aload_n 0, 1) := by decide +kernel
theorem dX3_measureRoller_23 : decode cX3_measureRoller 23 = .ok (.iconst 0, 1) := by decide +kernel
theorem dX3_measureRoller_24 : decode cX3_measureRoller 24 = .ok (.iload_n 1, 1) := by decide +kernel
theorem dX3_measureRoller_25 : decode cX3_measureRoller 25 = .ok (.invokevirtual 85, 3) := by decide +kernel
theorem dX3_measureRoller_28 : decode cX3_measureRoller 28 = .ok (.ladd, 1) := by decide +kernel
theorem dX3_measureRoller_29 : decode cX3_measureRoller 29 = .ok (.lstore 7, 2) := by decide +kernel
theorem dX3_measureRoller_31 : decode cX3_measureRoller 31 = .ok (.lload 7, 2) := by decide +kernel
theorem dX3_measureRoller_33 : decode cX3_measureRoller 33 = .ok (.lload_n 2, 1) := by decide +kernel
theorem dX3_measureRoller_34 : decode cX3_measureRoller 34 = .ok (.lload 4, 2) := by decide +kernel
theorem dX3_measureRoller_36 : decode cX3_measureRoller 36 = .ok (.invokestatic 107, 3) := by decide +kernel
theorem dX3_measureRoller_39 : decode cX3_measureRoller 39 = .ok (.lstore 9, 2) := by decide +kernel
theorem dX3_measureRoller_41 : decode cX3_measureRoller 41 = .ok (.aload_n 0, 1) := by decide +kernel
theorem dX3_measureRoller_42 : decode cX3_measureRoller 42 = .ok (.iconst 4, 1) := by decide +kernel
theorem dX3_measureRoller_43 : decode cX3_measureRoller 43 = .ok (.iload_n 1, 1) := by decide +kernel
theorem dX3_measureRoller_44 : decode cX3_measureRoller 44 = .ok (.lload 7, 2) := by decide +kernel
theorem dX3_measureRoller_46 : decode cX3_measureRoller 46 = .ok (.invokevirtual 59, 3) := by decide +kernel
theorem dX3_measureRoller_49 : decode cX3_measureRoller 49 = .ok (.aload_n 0, 1) := by decide +kernel
theorem dX3_measureRoller_50 : decode cX3_measureRoller 50 = .ok (.bipush 7, 2) := by decide +kernel
theorem dX3_measureRoller_52 : decode cX3_measureRoller 52 = .ok (.iload_n 1, 1) := by decide +kernel
theorem dX3_measureRoller_53 : decode cX3_measureRoller 53 = .ok (.lload 9, 2) := by decide +kernel
theorem dX3_measureRoller_55 : decode cX3_measureRoller 55 = .ok (.invokevirtual 59, 3) := by decide +kernel
theorem dX3_measureRoller_58 : decode cX3_measureRoller 58 = .ok (.aload_n 0, 1) := by decide +kernel
theorem dX3_measureRoller_59 : decode cX3_measureRoller 59 = .ok (.bipush 8, 2) := by decide +kernel
theorem dX3_measureRoller_61 : decode cX3_measureRoller 61 = .ok (.iload_n 1, 1) := by decide +kernel
theorem dX3_measureRoller_62 : decode cX3_measureRoller 62 = .ok (.iload 6, 2) := by decide +kernel
theorem dX3_measureRoller_64 : decode cX3_measureRoller 64 = .ok (.i2l, 1) := by decide +kernel
theorem dX3_measureRoller_65 : decode cX3_measureRoller 65 = .ok (.lload 7, 2) := by decide +kernel
theorem dX3_measureRoller_67 : decode cX3_measureRoller 67 = .ok (.lload 7, 2) := by decide +kernel
theorem dX3_measureRoller_69 : decode cX3_measureRoller 69 = .ok (.lmul, 1) := by decide +kernel
theorem dX3_measureRoller_70 : decode cX3_measureRoller 70 = .ok (.lload_n 2, 1) := by decide +kernel
theorem dX3_measureRoller_71 : decode cX3_measureRoller 71 = .ok (.lload_n 2, 1) := by decide +kernel
theorem dX3_measureRoller_72 : decode cX3_measureRoller 72 = .ok (.lmul, 1) := by decide +kernel
theorem dX3_measureRoller_73 : decode cX3_measureRoller 73 = .ok (.ladd, 1) := by decide +kernel
theorem dX3_measureRoller_74 : decode cX3_measureRoller 74 = .ok (.lload 9, 2) := by decide +kernel
theorem dX3_measureRoller_76 : decode cX3_measureRoller 76 = .ok (.invokestatic 111, 3) := by decide +kernel
theorem dX3_measureRoller_79 : decode cX3_measureRoller 79 = .ok (.i2l, 1) := by decide +kernel
theorem dX3_measureRoller_80 : decode cX3_measureRoller 80 = .ok (.invokevirtual 59, 3) := by decide +kernel
theorem dX3_measureRoller_83 : decode cX3_measureRoller 83 = .ok (.aload_n 0, 1) := by decide +kernel
theorem dX3_measureRoller_84 : decode cX3_measureRoller 84 = .ok (.bipush 9, 2) := by decide +kernel
theorem dX3_measureRoller_86 : decode cX3_measureRoller 86 = .ok (.iload_n 1, 1) := by decide +kernel
theorem dX3_measureRoller_87 : decode cX3_measureRoller 87 = .ok (.lload 7, 2) := by decide +kernel
theorem dX3_measureRoller_89 : decode cX3_measureRoller 89 = .ok (.lconst 0, 1) := by decide +kernel
theorem dX3_measureRoller_90 : decode cX3_measureRoller 90 = .ok (.lcmp, 1) := by decide +kernel
theorem dX3_measureRoller_91 : decode cX3_measureRoller 91 = .ok (.ifCond .le 17, 3) := by decide +kernel
theorem dX3_measureRoller_94 : decode cX3_measureRoller 94 = .ok (.ldc2_w 105, 3) := by decide +kernel
theorem dX3_measureRoller_97 : decode cX3_measureRoller 97 = .ok (.lload_n 2, 1) := by decide +kernel
theorem dX3_measureRoller_98 : decode cX3_measureRoller 98 = .ok (.invokestatic 115, 3) := by decide +kernel
theorem dX3_measureRoller_101 : decode cX3_measureRoller 101 = .ok (.lmul, 1) := by decide +kernel
theorem dX3_measureRoller_102 : decode cX3_measureRoller 102 = .ok (.lload 7, 2) := by decide +kernel
theorem dX3_measureRoller_104 : decode cX3_measureRoller 104 = .ok (.ldiv, 1) := by decide +kernel
theorem dX3_measureRoller_105 : decode cX3_measureRoller 105 = .ok (.goto 4, 3) := by decide +kernel
theorem dX3_measureRoller_108 : decode cX3_measureRoller 108 = .ok (.lconst 0, 1) := by decide +kernel
theorem dX3_measureRoller_109 : decode cX3_measureRoller 109 = .ok (.invokevirtual 59, 3) := by decide +kernel
theorem dX3_measureRoller_112 : decode cX3_measureRoller 112 = .ok (.return_, 1) := by decide +kernel
theorem dX3_bend_0 : decode cX3_bend 0 = .ok (.lload_n 0, 1) := by decide +kernel
theorem dX3_bend_1 : decode cX3_bend 1 = .ok (.lload_n 0, 1) := by decide +kernel
theorem dX3_bend_2 : decode cX3_bend 2 = .ok (.lmul, 1) := by decide +kernel
theorem dX3_bend_3 : decode cX3_bend 3 = .ok (.ldc2_w 63, 3) := by decide +kernel
theorem dX3_bend_6 : decode cX3_bend 6 = .ok (.lload_n 2, 1) := by decide +kernel
theorem dX3_bend_7 : decode cX3_bend 7 = .ok (.lmul, 1) := by decide +kernel
theorem dX3_bend_8 : decode cX3_bend 8 = .ok (.lload_n 2, 1) := by decide +kernel
theorem dX3_bend_9 : decode cX3_bend 9 = .ok (.lmul, 1) := by decide +kernel
theorem dX3_bend_10 : decode cX3_bend 10 = .ok (.ladd, 1) := by decide +kernel
theorem dX3_bend_11 : decode cX3_bend 11 = .ok (.lload_n 0, 1) := by decide +kernel
theorem dX3_bend_12 : decode cX3_bend 12 = .ok (.lload 4, 2) := by decide +kernel
theorem dX3_bend_14 : decode cX3_bend 14 = .ok (.lmul, 1) := by decide +kernel
theorem dX3_bend_15 : decode cX3_bend 15 = .ok (.lsub, 1) := by decide +kernel
theorem dX3_bend_16 : decode cX3_bend 16 = .ok (.lreturn, 1) := by decide +kernel
theorem dX3_undercutOf_0 : decode cX3_undercutOf 0 = .ok (.lload 4, 2) := by decide +kernel
theorem dX3_undercutOf_2 : decode cX3_undercutOf 2 = .ok (.lconst 0, 1) := by decide +kernel
theorem dX3_undercutOf_3 : decode cX3_undercutOf 3 = .ok (.lcmp, 1) := by decide +kernel
theorem dX3_undercutOf_4 : decode cX3_undercutOf 4 = .ok (.ifCond .gt 5, 3) := by decide +kernel
theorem dX3_undercutOf_7 : decode cX3_undercutOf 7 = .ok (.iconst 0, 1) := by decide +kernel
theorem dX3_undercutOf_8 : decode cX3_undercutOf 8 = .ok (.ireturn, 1) := by decide +kernel
theorem dX3_undercutOf_9 : decode cX3_undercutOf 9 = .ok (.lload_n 0, 1) := by decide +kernel
theorem dX3_undercutOf_10 : decode cX3_undercutOf 10 = .ok (.lload 4, 2) := by decide +kernel
theorem dX3_undercutOf_12 : decode cX3_undercutOf 12 = .ok (.lmul, 1) := by decide +kernel
theorem dX3_undercutOf_13 : decode cX3_undercutOf 13 = .ok (.lstore 6, 2) := by decide +kernel
theorem dX3_undercutOf_15 : decode cX3_undercutOf 15 = .ok (.lload_n 2, 1) := by decide +kernel
theorem dX3_undercutOf_16 : decode cX3_undercutOf 16 = .ok (.ldc2_w 119, 3) := by decide +kernel
theorem dX3_undercutOf_19 : decode cX3_undercutOf 19 = .ok (.lcmp, 1) := by decide +kernel
theorem dX3_undercutOf_20 : decode cX3_undercutOf 20 = .ok (.ifCond .gt 12, 3) := by decide +kernel
theorem dX3_undercutOf_23 : decode cX3_undercutOf 23 = .ok (.lload 6, 2) := by decide +kernel
theorem dX3_undercutOf_25 : decode cX3_undercutOf 25 = .ok (.ldc2_w 121, 3) := by decide +kernel
theorem dX3_undercutOf_28 : decode cX3_undercutOf 28 = .ok (.lcmp, 1) := by decide +kernel
theorem dX3_undercutOf_29 : decode cX3_undercutOf 29 = .ok (.ifCond .le 5, 3) := by decide +kernel
theorem dX3_undercutOf_32 : decode cX3_undercutOf 32 = .ok (.iconst 2, 1) := by decide +kernel
theorem dX3_undercutOf_33 : decode cX3_undercutOf 33 = .ok (.ireturn, 1) := by decide +kernel
theorem dX3_undercutOf_34 : decode cX3_undercutOf 34 = .ok (.lload_n 2, 1) := by decide +kernel
theorem dX3_undercutOf_35 : decode cX3_undercutOf 35 = .ok (.lload_n 2, 1) := by decide +kernel
theorem dX3_undercutOf_36 : decode cX3_undercutOf 36 = .ok (.lmul, 1) := by decide +kernel
theorem dX3_undercutOf_37 : decode cX3_undercutOf 37 = .ok (.lload_n 2, 1) := by decide +kernel
theorem dX3_undercutOf_38 : decode cX3_undercutOf 38 = .ok (.lmul, 1) := by decide +kernel
theorem dX3_undercutOf_39 : decode cX3_undercutOf 39 = .ok (.lload 6, 2) := by decide +kernel
theorem dX3_undercutOf_41 : decode cX3_undercutOf 41 = .ok (.lload 6, 2) := by decide +kernel
theorem dX3_undercutOf_43 : decode cX3_undercutOf 43 = .ok (.lmul, 1) := by decide +kernel
theorem dX3_undercutOf_44 : decode cX3_undercutOf 44 = .ok (.lcmp, 1) := by decide +kernel
theorem dX3_undercutOf_45 : decode cX3_undercutOf 45 = .ok (.ifCond .ge 7, 3) := by decide +kernel
theorem dX3_undercutOf_48 : decode cX3_undercutOf 48 = .ok (.iconst 1, 1) := by decide +kernel
theorem dX3_undercutOf_49 : decode cX3_undercutOf 49 = .ok (.goto 4, 3) := by decide +kernel
theorem dX3_undercutOf_52 : decode cX3_undercutOf 52 = .ok (.iconst 0, 1) := by decide +kernel
theorem dX3_undercutOf_53 : decode cX3_undercutOf 53 = .ok (.ireturn, 1) := by decide +kernel
theorem dX3_rest_0 : decode cX3_rest 0 = .ok (.aload_n 0, 1) := by decide +kernel
theorem dX3_rest_1 : decode cX3_rest 1 = .ok (.getfield 16, 3) := by decide +kernel
theorem dX3_rest_4 : decode cX3_rest 4 = .ok (.iconst 5, 1) := by decide +kernel
theorem dX3_rest_5 : decode cX3_rest 5 = .ok (.invokevirtual 35, 3) := by decide +kernel
theorem dX3_rest_8 : decode cX3_rest 8 = .ok (.i2l, 1) := by decide +kernel
theorem dX3_rest_9 : decode cX3_rest 9 = .ok (.aload_n 0, 1) := by decide +kernel
theorem dX3_rest_10 : decode cX3_rest 10 = .ok (.getfield 16, 3) := by decide +kernel
theorem dX3_rest_13 : decode cX3_rest 13 = .ok (.bipush 6, 2) := by decide +kernel
theorem dX3_rest_15 : decode cX3_rest 15 = .ok (.invokevirtual 35, 3) := by decide +kernel
theorem dX3_rest_18 : decode cX3_rest 18 = .ok (.i2l, 1) := by decide +kernel
theorem dX3_rest_19 : decode cX3_rest 19 = .ok (.aload_n 0, 1) := by decide +kernel
theorem dX3_rest_20 : decode cX3_rest 20 = .ok (.iconst 0, 1) := by decide +kernel
theorem dX3_rest_21 : decode cX3_rest 21 = .ok (.iload_n 1, 1) := by decide +kernel
theorem dX3_rest_22 : decode cX3_rest 22 = .ok (.invokevirtual 85, 3) := by decide +kernel
theorem dX3_rest_25 : decode cX3_rest 25 = .ok (.lmul, 1) := by decide +kernel
theorem dX3_rest_26 : decode cX3_rest 26 = .ok (.ladd, 1) := by decide +kernel
theorem dX3_rest_27 : decode cX3_rest 27 = .ok (.lreturn, 1) := by decide +kernel
theorem dX3_greatestSize_0 : decode cX3_greatestSize 0 = .ok (.lconst 0, 1) := by decide +kernel
theorem dX3_greatestSize_1 : decode cX3_greatestSize 1 = .ok (.lstore_n 2, 1) := by decide +kernel
theorem dX3_greatestSize_2 : decode cX3_greatestSize 2 = .ok (.iconst 0, 1) := by decide +kernel
theorem dX3_greatestSize_3 : decode cX3_greatestSize 3 = .ok (.istore 4, 2) := by decide +kernel
theorem dX3_greatestSize_5 : decode cX3_greatestSize 5 = .ok (.iload 4, 2) := by decide +kernel
theorem dX3_greatestSize_7 : decode cX3_greatestSize 7 = .ok (.aload_n 0, 1) := by decide +kernel
theorem dX3_greatestSize_8 : decode cX3_greatestSize 8 = .ok (.getfield 27, 3) := by decide +kernel
theorem dX3_greatestSize_11 : decode cX3_greatestSize 11 = .ok (.if_icmp .ge 24, 3) := by decide +kernel
theorem dX3_greatestSize_14 : decode cX3_greatestSize 14 = .ok (.lload_n 2, 1) := by decide +kernel
theorem dX3_greatestSize_15 : decode cX3_greatestSize 15 = .ok (.aload_n 0, 1) := by decide +kernel
theorem dX3_greatestSize_16 : decode cX3_greatestSize 16 = .ok (.iload_n 1, 1) := by decide +kernel
theorem dX3_greatestSize_17 : decode cX3_greatestSize 17 = .ok (.iload 4, 2) := by decide +kernel
theorem dX3_greatestSize_19 : decode cX3_greatestSize 19 = .ok (.invokevirtual 85, 3) := by decide +kernel
theorem dX3_greatestSize_22 : decode cX3_greatestSize 22 = .ok (.invokestatic 115, 3) := by decide +kernel
theorem dX3_greatestSize_25 : decode cX3_greatestSize 25 = .ok (.invokestatic 123, 3) := by decide +kernel
theorem dX3_greatestSize_28 : decode cX3_greatestSize 28 = .ok (.lstore_n 2, 1) := by decide +kernel
theorem dX3_greatestSize_29 : decode cX3_greatestSize 29 = .ok (.iinc 4 1, 3) := by decide +kernel
theorem dX3_greatestSize_32 : decode cX3_greatestSize 32 = .ok (.goto (-27), 3) := by decide +kernel
theorem dX3_greatestSize_35 : decode cX3_greatestSize 35 = .ok (.lload_n 2, 1) := by decide +kernel
theorem dX3_greatestSize_36 : decode cX3_greatestSize 36 = .ok (.l2i, 1) := by decide +kernel
theorem dX3_greatestSize_37 : decode cX3_greatestSize 37 = .ok (.ireturn, 1) := by decide +kernel
theorem dX3_firstOfSize_0 : decode cX3_firstOfSize 0 = .ok (.iconst 0, 1) := by decide +kernel
theorem dX3_firstOfSize_1 : decode cX3_firstOfSize 1 = .ok (.istore_n 3, 1) := by decide +kernel
theorem dX3_firstOfSize_2 : decode cX3_firstOfSize 2 = .ok (.iload_n 3, 1) := by decide +kernel
theorem dX3_firstOfSize_3 : decode cX3_firstOfSize 3 = .ok (.aload_n 0, 1) := by decide +kernel
theorem dX3_firstOfSize_4 : decode cX3_firstOfSize 4 = .ok (.getfield 27, 3) := by decide +kernel
theorem dX3_firstOfSize_7 : decode cX3_firstOfSize 7 = .ok (.if_icmp .ge 26, 3) := by decide +kernel
theorem dX3_firstOfSize_10 : decode cX3_firstOfSize 10 = .ok (.aload_n 0, 1) := by decide +kernel
theorem dX3_firstOfSize_11 : decode cX3_firstOfSize 11 = .ok (.iload_n 1, 1) := by decide +kernel
theorem dX3_firstOfSize_12 : decode cX3_firstOfSize 12 = .ok (.iload_n 3, 1) := by decide +kernel
theorem dX3_firstOfSize_13 : decode cX3_firstOfSize 13 = .ok (.invokevirtual 85, 3) := by decide +kernel
theorem dX3_firstOfSize_16 : decode cX3_firstOfSize 16 = .ok (.invokestatic 115, 3) := by decide +kernel
theorem dX3_firstOfSize_19 : decode cX3_firstOfSize 19 = .ok (.iload_n 2, 1) := by decide +kernel
theorem dX3_firstOfSize_20 : decode cX3_firstOfSize 20 = .ok (.i2l, 1) := by decide +kernel
theorem dX3_firstOfSize_21 : decode cX3_firstOfSize 21 = .ok (.lcmp, 1) := by decide +kernel
theorem dX3_firstOfSize_22 : decode cX3_firstOfSize 22 = .ok (.ifCond .ne 5, 3) := by decide +kernel
theorem dX3_firstOfSize_25 : decode cX3_firstOfSize 25 = .ok (.iload_n 3, 1) := by decide +kernel
theorem dX3_firstOfSize_26 : decode cX3_firstOfSize 26 = .ok (.ireturn, 1) := by decide +kernel
theorem dX3_firstOfSize_27 : decode cX3_firstOfSize 27 = .ok (.iinc 3 1, 3) := by decide +kernel
theorem dX3_firstOfSize_30 : decode cX3_firstOfSize 30 = .ok (.goto (-28), 3) := by decide +kernel
theorem dX3_firstOfSize_33 : decode cX3_firstOfSize 33 = .ok (.iconst (-1), 1) := by decide +kernel
theorem dX3_firstOfSize_34 : decode cX3_firstOfSize 34 = .ok (.ireturn, 1) := by decide +kernel
theorem dX3_timesOfSize_0 : decode cX3_timesOfSize 0 = .ok (.iconst 0, 1) := by decide +kernel
theorem dX3_timesOfSize_1 : decode cX3_timesOfSize 1 = .ok (.istore_n 3, 1) := by decide +kernel
theorem dX3_timesOfSize_2 : decode cX3_timesOfSize 2 = .ok (.iconst 0, 1) := by decide +kernel
theorem dX3_timesOfSize_3 : decode cX3_timesOfSize 3 = .ok (.istore 4, 2) := by decide +kernel
theorem dX3_timesOfSize_5 : decode cX3_timesOfSize 5 = .ok (.iload 4, 2) := by decide +kernel
theorem dX3_timesOfSize_7 : decode cX3_timesOfSize 7 = .ok (.aload_n 0, 1) := by decide +kernel
theorem dX3_timesOfSize_8 : decode cX3_timesOfSize 8 = .ok (.getfield 27, 3) := by decide +kernel
theorem dX3_timesOfSize_11 : decode cX3_timesOfSize 11 = .ok (.if_icmp .ge 33, 3) := by decide +kernel
theorem dX3_timesOfSize_14 : decode cX3_timesOfSize 14 = .ok (.iload_n 3, 1) := by decide +kernel
theorem dX3_timesOfSize_15 : decode cX3_timesOfSize 15 = .ok (.aload_n 0, 1) := by decide +kernel
theorem dX3_timesOfSize_16 : decode cX3_timesOfSize 16 = .ok (.iload_n 1, 1) := by decide +kernel
theorem dX3_timesOfSize_17 : decode cX3_timesOfSize 17 = .ok (.iload 4, 2) := by decide +kernel
theorem dX3_timesOfSize_19 : decode cX3_timesOfSize 19 = .ok (.invokevirtual 85, 3) := by decide +kernel
theorem dX3_timesOfSize_22 : decode cX3_timesOfSize 22 = .ok (.invokestatic 115, 3) := by decide +kernel
theorem dX3_timesOfSize_25 : decode cX3_timesOfSize 25 = .ok (.iload_n 2, 1) := by decide +kernel
theorem dX3_timesOfSize_26 : decode cX3_timesOfSize 26 = .ok (.i2l, 1) := by decide +kernel
theorem dX3_timesOfSize_27 : decode cX3_timesOfSize 27 = .ok (.lcmp, 1) := by decide +kernel
theorem dX3_timesOfSize_28 : decode cX3_timesOfSize 28 = .ok (.ifCond .ne 7, 3) := by decide +kernel
theorem dX3_timesOfSize_31 : decode cX3_timesOfSize 31 = .ok (.iconst 1, 1) := by decide +kernel
theorem dX3_timesOfSize_32 : decode cX3_timesOfSize 32 = .ok (.goto 4, 3) := by decide +kernel
theorem dX3_timesOfSize_35 : decode cX3_timesOfSize 35 = .ok (.iconst 0, 1) := by decide +kernel
theorem dX3_timesOfSize_36 : decode cX3_timesOfSize 36 = .ok (.iadd, 1) := by decide +kernel
theorem dX3_timesOfSize_37 : decode cX3_timesOfSize 37 = .ok (.istore_n 3, 1) := by decide +kernel
theorem dX3_timesOfSize_38 : decode cX3_timesOfSize 38 = .ok (.iinc 4 1, 3) := by decide +kernel
theorem dX3_timesOfSize_41 : decode cX3_timesOfSize 41 = .ok (.goto (-36), 3) := by decide +kernel
theorem dX3_timesOfSize_44 : decode cX3_timesOfSize 44 = .ok (.iload_n 3, 1) := by decide +kernel
theorem dX3_timesOfSize_45 : decode cX3_timesOfSize 45 = .ok (.ireturn, 1) := by decide +kernel
theorem dX3_evenness_0 : decode cX3_evenness 0 = .ok (.aload_n 0, 1) := by decide +kernel
theorem dX3_evenness_1 : decode cX3_evenness 1 = .ok (.getfield 16, 3) := by decide +kernel
theorem dX3_evenness_4 : decode cX3_evenness 4 = .ok (.bipush 10, 2) := by decide +kernel
theorem dX3_evenness_6 : decode cX3_evenness 6 = .ok (.invokevirtual 35, 3) := by decide +kernel
theorem dX3_evenness_9 : decode cX3_evenness 9 = .ok (.istore_n 2, 1) := by decide +kernel
theorem dX3_evenness_10 : decode cX3_evenness 10 = .ok (.iconst 0, 1) := by decide +kernel
theorem dX3_evenness_11 : decode cX3_evenness 11 = .ok (.istore_n 3, 1) := by decide +kernel
theorem dX3_evenness_12 : decode cX3_evenness 12 = .ok (.iload_n 3, 1) := by decide +kernel
theorem dX3_evenness_13 : decode cX3_evenness 13 = .ok (.iconst 3, 1) := by decide +kernel
theorem dX3_evenness_14 : decode cX3_evenness 14 = .ok (.if_icmp .ge 37, 3) := by decide +kernel
theorem dX3_evenness_17 : decode cX3_evenness 17 = .ok (.aload_n 0, 1) := by decide +kernel
theorem dX3_evenness_18 : decode cX3_evenness 18 = .ok (.iload_n 3, 1) := by decide +kernel
theorem dX3_evenness_19 : decode cX3_evenness 19 = .ok (.iconst 1, 1) := by decide +kernel
theorem dX3_evenness_20 : decode cX3_evenness 20 = .ok (.iadd, 1) := by decide +kernel
theorem dX3_evenness_21 : decode cX3_evenness 21 = .ok (.iload_n 1, 1) := by decide +kernel
theorem dX3_evenness_22 : decode cX3_evenness 22 = .ok (.invokevirtual 85, 3) := by decide +kernel
theorem dX3_evenness_25 : decode cX3_evenness 25 = .ok (.aload_n 0, 1) := by decide +kernel
theorem dX3_evenness_26 : decode cX3_evenness 26 = .ok (.iload_n 3, 1) := by decide +kernel
theorem dX3_evenness_27 : decode cX3_evenness 27 = .ok (.iconst 1, 1) := by decide +kernel
theorem dX3_evenness_28 : decode cX3_evenness 28 = .ok (.iadd, 1) := by decide +kernel
theorem dX3_evenness_29 : decode cX3_evenness 29 = .ok (.iload_n 1, 1) := by decide +kernel
theorem dX3_evenness_30 : decode cX3_evenness 30 = .ok (.iconst 1, 1) := by decide +kernel
theorem dX3_evenness_31 : decode cX3_evenness 31 = .ok (.isub, 1) := by decide +kernel
theorem dX3_evenness_32 : decode cX3_evenness 32 = .ok (.invokevirtual 85, 3) := by decide +kernel
theorem dX3_evenness_35 : decode cX3_evenness 35 = .ok (.lsub, 1) := by decide +kernel
theorem dX3_evenness_36 : decode cX3_evenness 36 = .ok (.invokestatic 115, 3) := by decide +kernel
theorem dX3_evenness_39 : decode cX3_evenness 39 = .ok (.iload_n 2, 1) := by decide +kernel
theorem dX3_evenness_40 : decode cX3_evenness 40 = .ok (.i2l, 1) := by decide +kernel
theorem dX3_evenness_41 : decode cX3_evenness 41 = .ok (.lcmp, 1) := by decide +kernel
theorem dX3_evenness_42 : decode cX3_evenness 42 = .ok (.ifCond .gt 9, 3) := by decide +kernel
theorem dX3_evenness_45 : decode cX3_evenness 45 = .ok (.iinc 3 1, 3) := by decide +kernel
theorem dX3_evenness_48 : decode cX3_evenness 48 = .ok (.goto (-36), 3) := by decide +kernel
theorem dX3_evenness_51 : decode cX3_evenness 51 = .ok (.iload_n 3, 1) := by decide +kernel
theorem dX3_evenness_52 : decode cX3_evenness 52 = .ok (.ireturn, 1) := by decide +kernel
theorem dX3_isBad_0 : decode cX3_isBad 0 = .ok (.iload_n 1, 1) := by decide +kernel
theorem dX3_isBad_1 : decode cX3_isBad 1 = .ok (.tableswitch 92 0 2 #[27, 45, 65], 27) := by decide +kernel
theorem dX3_isBad_28 : decode cX3_isBad 28 = .ok (.aload_n 0, 1) := by decide +kernel
theorem dX3_isBad_29 : decode cX3_isBad 29 = .ok (.bipush 8, 2) := by decide +kernel
theorem dX3_isBad_31 : decode cX3_isBad 31 = .ok (.iload_n 2, 1) := by decide +kernel
theorem dX3_isBad_32 : decode cX3_isBad 32 = .ok (.invokevirtual 85, 3) := by decide +kernel
theorem dX3_isBad_35 : decode cX3_isBad 35 = .ok (.lconst 1, 1) := by decide +kernel
theorem dX3_isBad_36 : decode cX3_isBad 36 = .ok (.lcmp, 1) := by decide +kernel
theorem dX3_isBad_37 : decode cX3_isBad 37 = .ok (.ifCond .ne 7, 3) := by decide +kernel
theorem dX3_isBad_40 : decode cX3_isBad 40 = .ok (.iconst 1, 1) := by decide +kernel
theorem dX3_isBad_41 : decode cX3_isBad 41 = .ok (.goto 4, 3) := by decide +kernel
theorem dX3_isBad_44 : decode cX3_isBad 44 = .ok (.iconst 0, 1) := by decide +kernel
theorem dX3_isBad_45 : decode cX3_isBad 45 = .ok (.ireturn, 1) := by decide +kernel
theorem dX3_isBad_46 : decode cX3_isBad 46 = .ok (.aload_n 0, 1) := by decide +kernel
theorem dX3_isBad_47 : decode cX3_isBad 47 = .ok (.bipush 8, 2) := by decide +kernel
theorem dX3_isBad_49 : decode cX3_isBad 49 = .ok (.iload_n 2, 1) := by decide +kernel
theorem dX3_isBad_50 : decode cX3_isBad 50 = .ok (.invokevirtual 85, 3) := by decide +kernel
theorem dX3_isBad_53 : decode cX3_isBad 53 = .ok (.ldc2_w 63, 3) := by decide +kernel
theorem dX3_isBad_56 : decode cX3_isBad 56 = .ok (.lcmp, 1) := by decide +kernel
theorem dX3_isBad_57 : decode cX3_isBad 57 = .ok (.ifCond .ne 7, 3) := by decide +kernel
theorem dX3_isBad_60 : decode cX3_isBad 60 = .ok (.iconst 1, 1) := by decide +kernel
theorem dX3_isBad_61 : decode cX3_isBad 61 = .ok (.goto 4, 3) := by decide +kernel
theorem dX3_isBad_64 : decode cX3_isBad 64 = .ok (.iconst 0, 1) := by decide +kernel
theorem dX3_isBad_65 : decode cX3_isBad 65 = .ok (.ireturn, 1) := by decide +kernel
theorem dX3_isBad_66 : decode cX3_isBad 66 = .ok (.aload_n 0, 1) := by decide +kernel
theorem dX3_isBad_67 : decode cX3_isBad 67 = .ok (.bipush 9, 2) := by decide +kernel
theorem dX3_isBad_69 : decode cX3_isBad 69 = .ok (.iload_n 2, 1) := by decide +kernel
theorem dX3_isBad_70 : decode cX3_isBad 70 = .ok (.invokevirtual 85, 3) := by decide +kernel
theorem dX3_isBad_73 : decode cX3_isBad 73 = .ok (.aload_n 0, 1) := by decide +kernel
theorem dX3_isBad_74 : decode cX3_isBad 74 = .ok (.getfield 16, 3) := by decide +kernel
theorem dX3_isBad_77 : decode cX3_isBad 77 = .ok (.bipush 9, 2) := by decide +kernel
theorem dX3_isBad_79 : decode cX3_isBad 79 = .ok (.invokevirtual 35, 3) := by decide +kernel
theorem dX3_isBad_82 : decode cX3_isBad 82 = .ok (.i2l, 1) := by decide +kernel
theorem dX3_isBad_83 : decode cX3_isBad 83 = .ok (.lcmp, 1) := by decide +kernel
theorem dX3_isBad_84 : decode cX3_isBad 84 = .ok (.ifCond .le 7, 3) := by decide +kernel
theorem dX3_isBad_87 : decode cX3_isBad 87 = .ok (.iconst 1, 1) := by decide +kernel
theorem dX3_isBad_88 : decode cX3_isBad 88 = .ok (.goto 4, 3) := by decide +kernel
theorem dX3_isBad_91 : decode cX3_isBad 91 = .ok (.iconst 0, 1) := by decide +kernel
theorem dX3_isBad_92 : decode cX3_isBad 92 = .ok (.ireturn, 1) := by decide +kernel
theorem dX3_isBad_93 : decode cX3_isBad 93 = .ok (.aload_n 0, 1) := by decide +kernel
theorem dX3_isBad_94 : decode cX3_isBad 94 = .ok (.bipush 10, 2) := by decide +kernel
theorem dX3_isBad_96 : decode cX3_isBad 96 = .ok (.iload_n 2, 1) := by decide +kernel
theorem dX3_isBad_97 : decode cX3_isBad 97 = .ok (.invokevirtual 85, 3) := by decide +kernel
theorem dX3_isBad_100 : decode cX3_isBad 100 = .ok (.lconst 0, 1) := by decide +kernel
theorem dX3_isBad_101 : decode cX3_isBad 101 = .ok (.lcmp, 1) := by decide +kernel
theorem dX3_isBad_102 : decode cX3_isBad 102 = .ok (.ifCond .ge 7, 3) := by decide +kernel
theorem dX3_isBad_105 : decode cX3_isBad 105 = .ok (.iconst 1, 1) := by decide +kernel
theorem dX3_isBad_106 : decode cX3_isBad 106 = .ok (.goto 4, 3) := by decide +kernel
theorem dX3_isBad_109 : decode cX3_isBad 109 = .ok (.iconst 0, 1) := by decide +kernel
theorem dX3_isBad_110 : decode cX3_isBad 110 = .ok (.ireturn, 1) := by decide +kernel
theorem dX3_countBad_0 : decode cX3_countBad 0 = .ok (.iconst 0, 1) := by decide +kernel
theorem dX3_countBad_1 : decode cX3_countBad 1 = .ok (.istore_n 2, 1) := by decide +kernel
theorem dX3_countBad_2 : decode cX3_countBad 2 = .ok (.iconst 0, 1) := by decide +kernel
theorem dX3_countBad_3 : decode cX3_countBad 3 = .ok (.istore_n 3, 1) := by decide +kernel
theorem dX3_countBad_4 : decode cX3_countBad 4 = .ok (.iload_n 3, 1) := by decide +kernel
theorem dX3_countBad_5 : decode cX3_countBad 5 = .ok (.aload_n 0, 1) := by decide +kernel
theorem dX3_countBad_6 : decode cX3_countBad 6 = .ok (.getfield 27, 3) := by decide +kernel
theorem dX3_countBad_9 : decode cX3_countBad 9 = .ok (.if_icmp .ge 26, 3) := by decide +kernel
theorem dX3_countBad_12 : decode cX3_countBad 12 = .ok (.iload_n 2, 1) := by decide +kernel
theorem dX3_countBad_13 : decode cX3_countBad 13 = .ok (.aload_n 0, 1) := by decide +kernel
theorem dX3_countBad_14 : decode cX3_countBad 14 = .ok (.iload_n 1, 1) := by decide +kernel
theorem dX3_countBad_15 : decode cX3_countBad 15 = .ok (.iload_n 3, 1) := by decide +kernel
theorem dX3_countBad_16 : decode cX3_countBad 16 = .ok (.invokevirtual 126, 3) := by decide +kernel
theorem dX3_countBad_19 : decode cX3_countBad 19 = .ok (.ifCond .eq 7, 3) := by decide +kernel
theorem dX3_countBad_22 : decode cX3_countBad 22 = .ok (.iconst 1, 1) := by decide +kernel
theorem dX3_countBad_23 : decode cX3_countBad 23 = .ok (.goto 4, 3) := by decide +kernel
theorem dX3_countBad_26 : decode cX3_countBad 26 = .ok (.iconst 0, 1) := by decide +kernel
theorem dX3_countBad_27 : decode cX3_countBad 27 = .ok (.iadd, 1) := by decide +kernel
theorem dX3_countBad_28 : decode cX3_countBad 28 = .ok (.istore_n 2, 1) := by decide +kernel
theorem dX3_countBad_29 : decode cX3_countBad 29 = .ok (.iinc 3 1, 3) := by decide +kernel
theorem dX3_countBad_32 : decode cX3_countBad 32 = .ok (.goto (-28), 3) := by decide +kernel
theorem dX3_countBad_35 : decode cX3_countBad 35 = .ok (.iload_n 2, 1) := by decide +kernel
theorem dX3_countBad_36 : decode cX3_countBad 36 = .ok (.ireturn, 1) := by decide +kernel
theorem dX3_findBad_0 : decode cX3_findBad 0 = .ok (.iconst 0, 1) := by decide +kernel
theorem dX3_findBad_1 : decode cX3_findBad 1 = .ok (.istore_n 3, 1) := by decide +kernel
theorem dX3_findBad_2 : decode cX3_findBad 2 = .ok (.iconst 0, 1) := by decide +kernel
theorem dX3_findBad_3 : decode cX3_findBad 3 = .ok (.istore 4, 2) := by decide +kernel
theorem dX3_findBad_5 : decode cX3_findBad 5 = .ok (.iload 4, 2) := by decide +kernel
theorem dX3_findBad_7 : decode cX3_findBad 7 = .ok (.aload_n 0, 1) := by decide +kernel
theorem dX3_findBad_8 : decode cX3_findBad 8 = .ok (.getfield 27, 3) := by decide +kernel
theorem dX3_findBad_11 : decode cX3_findBad 11 = .ok (.if_icmp .ge 30, 3) := by decide +kernel
theorem dX3_findBad_14 : decode cX3_findBad 14 = .ok (.aload_n 0, 1) := by decide +kernel
theorem dX3_findBad_15 : decode cX3_findBad 15 = .ok (.iload_n 1, 1) := by decide +kernel
theorem dX3_findBad_16 : decode cX3_findBad 16 = .ok (.iload 4, 2) := by decide +kernel
theorem dX3_findBad_18 : decode cX3_findBad 18 = .ok (.invokevirtual 126, 3) := by decide +kernel
theorem dX3_findBad_21 : decode cX3_findBad 21 = .ok (.ifCond .eq 14, 3) := by decide +kernel
theorem dX3_findBad_24 : decode cX3_findBad 24 = .ok (.iload_n 3, 1) := by decide +kernel
theorem dX3_findBad_25 : decode cX3_findBad 25 = .ok (.iload_n 2, 1) := by decide +kernel
theorem dX3_findBad_26 : decode cX3_findBad 26 = .ok (.if_icmp .ne 6, 3) := by decide +kernel
theorem dX3_findBad_29 : decode cX3_findBad 29 = .ok (.iload 4, 2) := by decide +kernel
theorem dX3_findBad_31 : decode cX3_findBad 31 = .ok (.ireturn, 1) := by decide +kernel
theorem dX3_findBad_32 : decode cX3_findBad 32 = .ok (.iinc 3 1, 3) := by decide +kernel
theorem dX3_findBad_35 : decode cX3_findBad 35 = .ok (.iinc 4 1, 3) := by decide +kernel
theorem dX3_findBad_38 : decode cX3_findBad 38 = .ok (.goto (-33), 3) := by decide +kernel
theorem dX3_findBad_41 : decode cX3_findBad 41 = .ok (.iconst (-1), 1) := by decide +kernel
theorem dX3_findBad_42 : decode cX3_findBad 42 = .ok (.ireturn, 1) := by decide +kernel
theorem dX3_firstGreatest_0 : decode cX3_firstGreatest 0 = .ok (.iconst 0, 1) := by decide +kernel
theorem dX3_firstGreatest_1 : decode cX3_firstGreatest 1 = .ok (.istore_n 2, 1) := by decide +kernel
theorem dX3_firstGreatest_2 : decode cX3_firstGreatest 2 = .ok (.iconst 1, 1) := by decide +kernel
theorem dX3_firstGreatest_3 : decode cX3_firstGreatest 3 = .ok (.istore_n 3, 1) := by decide +kernel
theorem dX3_firstGreatest_4 : decode cX3_firstGreatest 4 = .ok (.iload_n 3, 1) := by decide +kernel
theorem dX3_firstGreatest_5 : decode cX3_firstGreatest 5 = .ok (.aload_n 0, 1) := by decide +kernel
theorem dX3_firstGreatest_6 : decode cX3_firstGreatest 6 = .ok (.getfield 27, 3) := by decide +kernel
theorem dX3_firstGreatest_9 : decode cX3_firstGreatest 9 = .ok (.if_icmp .ge 31, 3) := by decide +kernel
theorem dX3_firstGreatest_12 : decode cX3_firstGreatest 12 = .ok (.aload_n 0, 1) := by decide +kernel
theorem dX3_firstGreatest_13 : decode cX3_firstGreatest 13 = .ok (.iload_n 1, 1) := by decide +kernel
theorem dX3_firstGreatest_14 : decode cX3_firstGreatest 14 = .ok (.iload_n 3, 1) := by decide +kernel
theorem dX3_firstGreatest_15 : decode cX3_firstGreatest 15 = .ok (.invokevirtual 85, 3) := by decide +kernel
theorem dX3_firstGreatest_18 : decode cX3_firstGreatest 18 = .ok (.aload_n 0, 1) := by decide +kernel
theorem dX3_firstGreatest_19 : decode cX3_firstGreatest 19 = .ok (.iload_n 1, 1) := by decide +kernel
theorem dX3_firstGreatest_20 : decode cX3_firstGreatest 20 = .ok (.iload_n 2, 1) := by decide +kernel
theorem dX3_firstGreatest_21 : decode cX3_firstGreatest 21 = .ok (.invokevirtual 85, 3) := by decide +kernel
theorem dX3_firstGreatest_24 : decode cX3_firstGreatest 24 = .ok (.lcmp, 1) := by decide +kernel
theorem dX3_firstGreatest_25 : decode cX3_firstGreatest 25 = .ok (.ifCond .le 7, 3) := by decide +kernel
theorem dX3_firstGreatest_28 : decode cX3_firstGreatest 28 = .ok (.iload_n 3, 1) := by decide +kernel
theorem dX3_firstGreatest_29 : decode cX3_firstGreatest 29 = .ok (.goto 4, 3) := by decide +kernel
theorem dX3_firstGreatest_32 : decode cX3_firstGreatest 32 = .ok (.iload_n 2, 1) := by decide +kernel
theorem dX3_firstGreatest_33 : decode cX3_firstGreatest 33 = .ok (.istore_n 2, 1) := by decide +kernel
theorem dX3_firstGreatest_34 : decode cX3_firstGreatest 34 = .ok (.iinc 3 1, 3) := by decide +kernel
theorem dX3_firstGreatest_37 : decode cX3_firstGreatest 37 = .ok (.goto (-33), 3) := by decide +kernel
theorem dX3_firstGreatest_40 : decode cX3_firstGreatest 40 = .ok (.iload_n 2, 1) := by decide +kernel
theorem dX3_firstGreatest_41 : decode cX3_firstGreatest 41 = .ok (.ireturn, 1) := by decide +kernel
theorem dX3_firstLeast_0 : decode cX3_firstLeast 0 = .ok (.iconst 0, 1) := by decide +kernel
theorem dX3_firstLeast_1 : decode cX3_firstLeast 1 = .ok (.istore_n 2, 1) := by decide +kernel
theorem dX3_firstLeast_2 : decode cX3_firstLeast 2 = .ok (.iconst 1, 1) := by decide +kernel
theorem dX3_firstLeast_3 : decode cX3_firstLeast 3 = .ok (.istore_n 3, 1) := by decide +kernel
theorem dX3_firstLeast_4 : decode cX3_firstLeast 4 = .ok (.iload_n 3, 1) := by decide +kernel
theorem dX3_firstLeast_5 : decode cX3_firstLeast 5 = .ok (.aload_n 0, 1) := by decide +kernel
theorem dX3_firstLeast_6 : decode cX3_firstLeast 6 = .ok (.getfield 27, 3) := by decide +kernel
theorem dX3_firstLeast_9 : decode cX3_firstLeast 9 = .ok (.if_icmp .ge 31, 3) := by decide +kernel
theorem dX3_firstLeast_12 : decode cX3_firstLeast 12 = .ok (.aload_n 0, 1) := by decide +kernel
theorem dX3_firstLeast_13 : decode cX3_firstLeast 13 = .ok (.iload_n 1, 1) := by decide +kernel
theorem dX3_firstLeast_14 : decode cX3_firstLeast 14 = .ok (.iload_n 3, 1) := by decide +kernel
theorem dX3_firstLeast_15 : decode cX3_firstLeast 15 = .ok (.invokevirtual 85, 3) := by decide +kernel
theorem dX3_firstLeast_18 : decode cX3_firstLeast 18 = .ok (.aload_n 0, 1) := by decide +kernel
theorem dX3_firstLeast_19 : decode cX3_firstLeast 19 = .ok (.iload_n 1, 1) := by decide +kernel
theorem dX3_firstLeast_20 : decode cX3_firstLeast 20 = .ok (.iload_n 2, 1) := by decide +kernel
theorem dX3_firstLeast_21 : decode cX3_firstLeast 21 = .ok (.invokevirtual 85, 3) := by decide +kernel
theorem dX3_firstLeast_24 : decode cX3_firstLeast 24 = .ok (.lcmp, 1) := by decide +kernel
theorem dX3_firstLeast_25 : decode cX3_firstLeast 25 = .ok (.ifCond .ge 7, 3) := by decide +kernel
theorem dX3_firstLeast_28 : decode cX3_firstLeast 28 = .ok (.iload_n 3, 1) := by decide +kernel
theorem dX3_firstLeast_29 : decode cX3_firstLeast 29 = .ok (.goto 4, 3) := by decide +kernel
theorem dX3_firstLeast_32 : decode cX3_firstLeast 32 = .ok (.iload_n 2, 1) := by decide +kernel
theorem dX3_firstLeast_33 : decode cX3_firstLeast 33 = .ok (.istore_n 2, 1) := by decide +kernel
theorem dX3_firstLeast_34 : decode cX3_firstLeast 34 = .ok (.iinc 3 1, 3) := by decide +kernel
theorem dX3_firstLeast_37 : decode cX3_firstLeast 37 = .ok (.goto (-33), 3) := by decide +kernel
theorem dX3_firstLeast_40 : decode cX3_firstLeast 40 = .ok (.iload_n 2, 1) := by decide +kernel
theorem dX3_firstLeast_41 : decode cX3_firstLeast 41 = .ok (.ireturn, 1) := by decide +kernel
theorem dX3_liftTogether_0 : decode cX3_liftTogether 0 = .ok (.iconst 0, 1) := by decide +kernel
theorem dX3_liftTogether_1 : decode cX3_liftTogether 1 = .ok (.istore_n 1, 1) := by decide +kernel
theorem dX3_liftTogether_2 : decode cX3_liftTogether 2 = .ok (.iconst 0, 1) := by decide +kernel
theorem dX3_liftTogether_3 : decode cX3_liftTogether 3 = .ok (.istore_n 2, 1) := by decide +kernel
theorem dX3_liftTogether_4 : decode cX3_liftTogether 4 = .ok (.iload_n 2, 1) := by decide +kernel
theorem dX3_liftTogether_5 : decode cX3_liftTogether 5 = .ok (.aload_n 0, 1) := by decide +kernel
theorem dX3_liftTogether_6 : decode cX3_liftTogether 6 = .ok (.getfield 27, 3) := by decide +kernel
theorem dX3_liftTogether_9 : decode cX3_liftTogether 9 = .ok (.if_icmp .ge 19, 3) := by decide +kernel
theorem dX3_liftTogether_12 : decode cX3_liftTogether 12 = .ok (.iload_n 1, 1) := by decide +kernel
theorem dX3_liftTogether_13 : decode cX3_liftTogether 13 = .ok (.aload_n 0, 1) := by decide +kernel
theorem dX3_liftTogether_14 : decode cX3_liftTogether 14 = .ok (.iconst 0, 1) := by decide +kernel
theorem dX3_liftTogether_15 : decode cX3_liftTogether 15 = .ok (.iload_n 2, 1) := by decide +kernel
theorem dX3_liftTogether_16 : decode cX3_liftTogether 16 = .ok (.invokevirtual 85, 3) := by decide +kernel
theorem dX3_liftTogether_19 : decode cX3_liftTogether 19 = .ok (.l2i, 1) := by decide +kernel
theorem dX3_liftTogether_20 : decode cX3_liftTogether 20 = .ok (.iadd, 1) := by decide +kernel
theorem dX3_liftTogether_21 : decode cX3_liftTogether 21 = .ok (.istore_n 1, 1) := by decide +kernel
theorem dX3_liftTogether_22 : decode cX3_liftTogether 22 = .ok (.iinc 2 1, 3) := by decide +kernel
theorem dX3_liftTogether_25 : decode cX3_liftTogether 25 = .ok (.goto (-21), 3) := by decide +kernel
theorem dX3_liftTogether_28 : decode cX3_liftTogether 28 = .ok (.iload_n 1, 1) := by decide +kernel
theorem dX3_liftTogether_29 : decode cX3_liftTogether 29 = .ok (.ireturn, 1) := by decide +kernel
theorem dX3_missOf_0 : decode cX3_missOf 0 = .ok (.aload_n 0, 1) := by decide +kernel
theorem dX3_missOf_1 : decode cX3_missOf 1 = .ok (.iconst 0, 1) := by decide +kernel
theorem dX3_missOf_2 : decode cX3_missOf 2 = .ok (.aload_n 0, 1) := by decide +kernel
theorem dX3_missOf_3 : decode cX3_missOf 3 = .ok (.getfield 16, 3) := by decide +kernel
theorem dX3_missOf_6 : decode cX3_missOf 6 = .ok (.iload_n 1, 1) := by decide +kernel
theorem dX3_missOf_7 : decode cX3_missOf 7 = .ok (.iconst 0, 1) := by decide +kernel
theorem dX3_missOf_8 : decode cX3_missOf 8 = .ok (.invokestatic 130, 3) := by decide +kernel
theorem dX3_missOf_11 : decode cX3_missOf 11 = .ok (.invokevirtual 35, 3) := by decide +kernel
theorem dX3_missOf_14 : decode cX3_missOf 14 = .ok (.invokevirtual 85, 3) := by decide +kernel
theorem dX3_missOf_17 : decode cX3_missOf 17 = .ok (.lstore_n 2, 1) := by decide +kernel
theorem dX3_missOf_18 : decode cX3_missOf 18 = .ok (.lload_n 2, 1) := by decide +kernel
theorem dX3_missOf_19 : decode cX3_missOf 19 = .ok (.aload_n 0, 1) := by decide +kernel
theorem dX3_missOf_20 : decode cX3_missOf 20 = .ok (.getfield 16, 3) := by decide +kernel
theorem dX3_missOf_23 : decode cX3_missOf 23 = .ok (.iload_n 1, 1) := by decide +kernel
theorem dX3_missOf_24 : decode cX3_missOf 24 = .ok (.iconst 1, 1) := by decide +kernel
theorem dX3_missOf_25 : decode cX3_missOf 25 = .ok (.invokestatic 130, 3) := by decide +kernel
theorem dX3_missOf_28 : decode cX3_missOf 28 = .ok (.invokevirtual 35, 3) := by decide +kernel
theorem dX3_missOf_31 : decode cX3_missOf 31 = .ok (.i2l, 1) := by decide +kernel
theorem dX3_missOf_32 : decode cX3_missOf 32 = .ok (.lsub, 1) := by decide +kernel
theorem dX3_missOf_33 : decode cX3_missOf 33 = .ok (.invokestatic 115, 3) := by decide +kernel
theorem dX3_missOf_36 : decode cX3_missOf 36 = .ok (.l2i, 1) := by decide +kernel
theorem dX3_missOf_37 : decode cX3_missOf 37 = .ok (.ireturn, 1) := by decide +kernel
theorem dX3_metBits_0 : decode cX3_metBits 0 = .ok (.iconst 0, 1) := by decide +kernel
theorem dX3_metBits_1 : decode cX3_metBits 1 = .ok (.istore_n 1, 1) := by decide +kernel
theorem dX3_metBits_2 : decode cX3_metBits 2 = .ok (.iconst 0, 1) := by decide +kernel
theorem dX3_metBits_3 : decode cX3_metBits 3 = .ok (.istore_n 2, 1) := by decide +kernel
theorem dX3_metBits_4 : decode cX3_metBits 4 = .ok (.iload_n 2, 1) := by decide +kernel
theorem dX3_metBits_5 : decode cX3_metBits 5 = .ok (.aload_n 0, 1) := by decide +kernel
theorem dX3_metBits_6 : decode cX3_metBits 6 = .ok (.getfield 16, 3) := by decide +kernel
theorem dX3_metBits_9 : decode cX3_metBits 9 = .ok (.bipush 11, 2) := by decide +kernel
theorem dX3_metBits_11 : decode cX3_metBits 11 = .ok (.invokevirtual 35, 3) := by decide +kernel
theorem dX3_metBits_14 : decode cX3_metBits 14 = .ok (.if_icmp .ge 39, 3) := by decide +kernel
theorem dX3_metBits_17 : decode cX3_metBits 17 = .ok (.iload_n 1, 1) := by decide +kernel
theorem dX3_metBits_18 : decode cX3_metBits 18 = .ok (.aload_n 0, 1) := by decide +kernel
theorem dX3_metBits_19 : decode cX3_metBits 19 = .ok (.iload_n 2, 1) := by decide +kernel
theorem dX3_metBits_20 : decode cX3_metBits 20 = .ok (.invokevirtual 133, 3) := by decide +kernel
theorem dX3_metBits_23 : decode cX3_metBits 23 = .ok (.aload_n 0, 1) := by decide +kernel
theorem dX3_metBits_24 : decode cX3_metBits 24 = .ok (.getfield 16, 3) := by decide +kernel
theorem dX3_metBits_27 : decode cX3_metBits 27 = .ok (.iload_n 2, 1) := by decide +kernel
theorem dX3_metBits_28 : decode cX3_metBits 28 = .ok (.iconst 2, 1) := by decide +kernel
theorem dX3_metBits_29 : decode cX3_metBits 29 = .ok (.invokestatic 130, 3) := by decide +kernel
theorem dX3_metBits_32 : decode cX3_metBits 32 = .ok (.invokevirtual 35, 3) := by decide +kernel
theorem dX3_metBits_35 : decode cX3_metBits 35 = .ok (.if_icmp .gt 9, 3) := by decide +kernel
theorem dX3_metBits_38 : decode cX3_metBits 38 = .ok (.iconst 1, 1) := by decide +kernel
theorem dX3_metBits_39 : decode cX3_metBits 39 = .ok (.iload_n 2, 1) := by decide +kernel
theorem dX3_metBits_40 : decode cX3_metBits 40 = .ok (.ishl, 1) := by decide +kernel
theorem dX3_metBits_41 : decode cX3_metBits 41 = .ok (.goto 4, 3) := by decide +kernel
theorem dX3_metBits_44 : decode cX3_metBits 44 = .ok (.iconst 0, 1) := by decide +kernel
theorem dX3_metBits_45 : decode cX3_metBits 45 = .ok (.ior, 1) := by decide +kernel
theorem dX3_metBits_46 : decode cX3_metBits 46 = .ok (.istore_n 1, 1) := by decide +kernel
theorem dX3_metBits_47 : decode cX3_metBits 47 = .ok (.iinc 2 1, 3) := by decide +kernel
theorem dX3_metBits_50 : decode cX3_metBits 50 = .ok (.goto (-46), 3) := by decide +kernel
theorem dX3_metBits_53 : decode cX3_metBits 53 = .ok (.iload_n 1, 1) := by decide +kernel
theorem dX3_metBits_54 : decode cX3_metBits 54 = .ok (.ireturn, 1) := by decide +kernel
theorem dX3_isGoodAt_0 : decode cX3_isGoodAt 0 = .ok (.aload_n 0, 1) := by decide +kernel
theorem dX3_isGoodAt_1 : decode cX3_isGoodAt 1 = .ok (.bipush 8, 2) := by decide +kernel
theorem dX3_isGoodAt_3 : decode cX3_isGoodAt 3 = .ok (.iload_n 1, 1) := by decide +kernel
theorem dX3_isGoodAt_4 : decode cX3_isGoodAt 4 = .ok (.invokevirtual 85, 3) := by decide +kernel
theorem dX3_isGoodAt_7 : decode cX3_isGoodAt 7 = .ok (.lconst 0, 1) := by decide +kernel
theorem dX3_isGoodAt_8 : decode cX3_isGoodAt 8 = .ok (.lcmp, 1) := by decide +kernel
theorem dX3_isGoodAt_9 : decode cX3_isGoodAt 9 = .ok (.ifCond .ne 21, 3) := by decide +kernel
theorem dX3_isGoodAt_12 : decode cX3_isGoodAt 12 = .ok (.aload_n 0, 1) := by decide +kernel
theorem dX3_isGoodAt_13 : decode cX3_isGoodAt 13 = .ok (.iconst 2, 1) := by decide +kernel
theorem dX3_isGoodAt_14 : decode cX3_isGoodAt 14 = .ok (.iload_n 1, 1) := by decide +kernel
theorem dX3_isGoodAt_15 : decode cX3_isGoodAt 15 = .ok (.invokevirtual 126, 3) := by decide +kernel
theorem dX3_isGoodAt_18 : decode cX3_isGoodAt 18 = .ok (.ifCond .ne 12, 3) := by decide +kernel
theorem dX3_isGoodAt_21 : decode cX3_isGoodAt 21 = .ok (.aload_n 0, 1) := by decide +kernel
theorem dX3_isGoodAt_22 : decode cX3_isGoodAt 22 = .ok (.iconst 3, 1) := by decide +kernel
theorem dX3_isGoodAt_23 : decode cX3_isGoodAt 23 = .ok (.iload_n 1, 1) := by decide +kernel
theorem dX3_isGoodAt_24 : decode cX3_isGoodAt 24 = .ok (.invokevirtual 126, 3) := by decide +kernel
theorem dX3_isGoodAt_27 : decode cX3_isGoodAt 27 = .ok (.ifCond .eq 5, 3) := by decide +kernel
theorem dX3_isGoodAt_30 : decode cX3_isGoodAt 30 = .ok (.iconst 0, 1) := by decide +kernel
theorem dX3_isGoodAt_31 : decode cX3_isGoodAt 31 = .ok (.ireturn, 1) := by decide +kernel
theorem dX3_isGoodAt_32 : decode cX3_isGoodAt 32 = .ok (.iconst 0, 1) := by decide +kernel
theorem dX3_isGoodAt_33 : decode cX3_isGoodAt 33 = .ok (.istore_n 2, 1) := by decide +kernel
theorem dX3_isGoodAt_34 : decode cX3_isGoodAt 34 = .ok (.iload_n 2, 1) := by decide +kernel
theorem dX3_isGoodAt_35 : decode cX3_isGoodAt 35 = .ok (.aload_n 0, 1) := by decide +kernel
theorem dX3_isGoodAt_36 : decode cX3_isGoodAt 36 = .ok (.getfield 16, 3) := by decide +kernel
theorem dX3_isGoodAt_39 : decode cX3_isGoodAt 39 = .ok (.bipush 11, 2) := by decide +kernel
theorem dX3_isGoodAt_41 : decode cX3_isGoodAt 41 = .ok (.invokevirtual 35, 3) := by decide +kernel
theorem dX3_isGoodAt_44 : decode cX3_isGoodAt 44 = .ok (.if_icmp .ge 47, 3) := by decide +kernel
theorem dX3_isGoodAt_47 : decode cX3_isGoodAt 47 = .ok (.aload_n 0, 1) := by decide +kernel
theorem dX3_isGoodAt_48 : decode cX3_isGoodAt 48 = .ok (.getfield 16, 3) := by decide +kernel
theorem dX3_isGoodAt_51 : decode cX3_isGoodAt 51 = .ok (.iload_n 2, 1) := by decide +kernel
theorem dX3_isGoodAt_52 : decode cX3_isGoodAt 52 = .ok (.iconst 0, 1) := by decide +kernel
theorem dX3_isGoodAt_53 : decode cX3_isGoodAt 53 = .ok (.invokestatic 130, 3) := by decide +kernel
theorem dX3_isGoodAt_56 : decode cX3_isGoodAt 56 = .ok (.invokevirtual 35, 3) := by decide +kernel
theorem dX3_isGoodAt_59 : decode cX3_isGoodAt 59 = .ok (.iload_n 1, 1) := by decide +kernel
theorem dX3_isGoodAt_60 : decode cX3_isGoodAt 60 = .ok (.if_icmp .ne 25, 3) := by decide +kernel
theorem dX3_isGoodAt_63 : decode cX3_isGoodAt 63 = .ok (.aload_n 0, 1) := by decide +kernel
theorem dX3_isGoodAt_64 : decode cX3_isGoodAt 64 = .ok (.iload_n 2, 1) := by decide +kernel
theorem dX3_isGoodAt_65 : decode cX3_isGoodAt 65 = .ok (.invokevirtual 133, 3) := by decide +kernel
theorem dX3_isGoodAt_68 : decode cX3_isGoodAt 68 = .ok (.aload_n 0, 1) := by decide +kernel
theorem dX3_isGoodAt_69 : decode cX3_isGoodAt 69 = .ok (.getfield 16, 3) := by decide +kernel
theorem dX3_isGoodAt_72 : decode cX3_isGoodAt 72 = .ok (.iload_n 2, 1) := by decide +kernel
theorem dX3_isGoodAt_73 : decode cX3_isGoodAt 73 = .ok (.iconst 2, 1) := by decide +kernel
theorem dX3_isGoodAt_74 : decode cX3_isGoodAt 74 = .ok (.invokestatic 130, 3) := by decide +kernel
theorem dX3_isGoodAt_77 : decode cX3_isGoodAt 77 = .ok (.invokevirtual 35, 3) := by decide +kernel
theorem dX3_isGoodAt_80 : decode cX3_isGoodAt 80 = .ok (.if_icmp .le 5, 3) := by decide +kernel
theorem dX3_isGoodAt_83 : decode cX3_isGoodAt 83 = .ok (.iconst 0, 1) := by decide +kernel
theorem dX3_isGoodAt_84 : decode cX3_isGoodAt 84 = .ok (.ireturn, 1) := by decide +kernel
theorem dX3_isGoodAt_85 : decode cX3_isGoodAt 85 = .ok (.iinc 2 1, 3) := by decide +kernel
theorem dX3_isGoodAt_88 : decode cX3_isGoodAt 88 = .ok (.goto (-54), 3) := by decide +kernel
theorem dX3_isGoodAt_91 : decode cX3_isGoodAt 91 = .ok (.iconst 1, 1) := by decide +kernel
theorem dX3_isGoodAt_92 : decode cX3_isGoodAt 92 = .ok (.ireturn, 1) := by decide +kernel
theorem dX3_isGood_0 : decode cX3_isGood 0 = .ok (.iconst 0, 1) := by decide +kernel
theorem dX3_isGood_1 : decode cX3_isGood 1 = .ok (.istore_n 1, 1) := by decide +kernel
theorem dX3_isGood_2 : decode cX3_isGood 2 = .ok (.iload_n 1, 1) := by decide +kernel
theorem dX3_isGood_3 : decode cX3_isGood 3 = .ok (.aload_n 0, 1) := by decide +kernel
theorem dX3_isGood_4 : decode cX3_isGood 4 = .ok (.getfield 27, 3) := by decide +kernel
theorem dX3_isGood_7 : decode cX3_isGood 7 = .ok (.if_icmp .ge 19, 3) := by decide +kernel
theorem dX3_isGood_10 : decode cX3_isGood 10 = .ok (.aload_n 0, 1) := by decide +kernel
theorem dX3_isGood_11 : decode cX3_isGood 11 = .ok (.iload_n 1, 1) := by decide +kernel
theorem dX3_isGood_12 : decode cX3_isGood 12 = .ok (.invokevirtual 136, 3) := by decide +kernel
theorem dX3_isGood_15 : decode cX3_isGood 15 = .ok (.ifCond .ne 5, 3) := by decide +kernel
theorem dX3_isGood_18 : decode cX3_isGood 18 = .ok (.iconst 0, 1) := by decide +kernel
theorem dX3_isGood_19 : decode cX3_isGood 19 = .ok (.ireturn, 1) := by decide +kernel
theorem dX3_isGood_20 : decode cX3_isGood 20 = .ok (.iinc 1 1, 3) := by decide +kernel
theorem dX3_isGood_23 : decode cX3_isGood 23 = .ok (.goto (-21), 3) := by decide +kernel
theorem dX3_isGood_26 : decode cX3_isGood 26 = .ok (.iconst 1, 1) := by decide +kernel
theorem dX3_isGood_27 : decode cX3_isGood 27 = .ok (.ireturn, 1) := by decide +kernel
theorem dX3_greatestRoller_0 : decode cX3_greatestRoller 0 = .ok (.getstatic 140, 3) := by decide +kernel
theorem dX3_greatestRoller_3 : decode cX3_greatestRoller 3 = .ok (.iconst 4, 1) := by decide +kernel
theorem dX3_greatestRoller_4 : decode cX3_greatestRoller 4 = .ok (.iaload, 1) := by decide +kernel
theorem dX3_greatestRoller_5 : decode cX3_greatestRoller 5 = .ok (.iconst 0, 1) := by decide +kernel
theorem dX3_greatestRoller_6 : decode cX3_greatestRoller 6 = .ok (.sipush 1448, 3) := by decide +kernel
theorem dX3_greatestRoller_9 : decode cX3_greatestRoller 9 = .ok (.aload_n 0, 1) := by decide +kernel
theorem dX3_greatestRoller_10 : decode cX3_greatestRoller 10 = .ok (.getfield 16, 3) := by decide +kernel
theorem dX3_greatestRoller_13 : decode cX3_greatestRoller 13 = .ok (.iconst 3, 1) := by decide +kernel
theorem dX3_greatestRoller_14 : decode cX3_greatestRoller 14 = .ok (.invokevirtual 35, 3) := by decide +kernel
theorem dX3_greatestRoller_17 : decode cX3_greatestRoller 17 = .ok (.isub, 1) := by decide +kernel
theorem dX3_greatestRoller_18 : decode cX3_greatestRoller 18 = .ok (.invokestatic 144, 3) := by decide +kernel
theorem dX3_greatestRoller_21 : decode cX3_greatestRoller 21 = .ok (.invokestatic 146, 3) := by decide +kernel
theorem dX3_greatestRoller_24 : decode cX3_greatestRoller 24 = .ok (.istore_n 1, 1) := by decide +kernel
theorem dX3_greatestRoller_25 : decode cX3_greatestRoller 25 = .ok (.iconst 0, 1) := by decide +kernel
theorem dX3_greatestRoller_26 : decode cX3_greatestRoller 26 = .ok (.istore_n 2, 1) := by decide +kernel
theorem dX3_greatestRoller_27 : decode cX3_greatestRoller 27 = .ok (.iload_n 2, 1) := by decide +kernel
theorem dX3_greatestRoller_28 : decode cX3_greatestRoller 28 = .ok (.aload_n 0, 1) := by decide +kernel
theorem dX3_greatestRoller_29 : decode cX3_greatestRoller 29 = .ok (.getfield 27, 3) := by decide +kernel
theorem dX3_greatestRoller_32 : decode cX3_greatestRoller 32 = .ok (.if_icmp .ge 28, 3) := by decide +kernel
theorem dX3_greatestRoller_35 : decode cX3_greatestRoller 35 = .ok (.aload_n 0, 1) := by decide +kernel
theorem dX3_greatestRoller_36 : decode cX3_greatestRoller 36 = .ok (.iload_n 2, 1) := by decide +kernel
theorem dX3_greatestRoller_37 : decode cX3_greatestRoller 37 = .ok (.invokevirtual 149, 3) := by decide +kernel
theorem dX3_greatestRoller_40 : decode cX3_greatestRoller 40 = .ok (.ifCond .eq 12, 3) := by decide +kernel
theorem dX3_greatestRoller_43 : decode cX3_greatestRoller 43 = .ok (.aload_n 0, 1) := by decide +kernel
theorem dX3_greatestRoller_44 : decode cX3_greatestRoller 44 = .ok (.iload_n 2, 1) := by decide +kernel
theorem dX3_greatestRoller_45 : decode cX3_greatestRoller 45 = .ok (.iload_n 1, 1) := by decide +kernel
theorem dX3_greatestRoller_46 : decode cX3_greatestRoller 46 = .ok (.invokevirtual 152, 3) := by decide +kernel
theorem dX3_greatestRoller_49 : decode cX3_greatestRoller 49 = .ok (.goto 4, 3) := by decide +kernel
theorem dX3_greatestRoller_52 : decode cX3_greatestRoller 52 = .ok (.iload_n 1, 1) := by decide +kernel
theorem dX3_greatestRoller_53 : decode cX3_greatestRoller 53 = .ok (.istore_n 1, 1) := by decide +kernel
theorem dX3_greatestRoller_54 : decode cX3_greatestRoller 54 = .ok (.iinc 2 1, 3) := by decide +kernel
theorem dX3_greatestRoller_57 : decode cX3_greatestRoller 57 = .ok (.goto (-30), 3) := by decide +kernel
theorem dX3_greatestRoller_60 : decode cX3_greatestRoller 60 = .ok (.iconst 0, 1) := by decide +kernel
theorem dX3_greatestRoller_61 : decode cX3_greatestRoller 61 = .ok (.istore_n 2, 1) := by decide +kernel
theorem dX3_greatestRoller_62 : decode cX3_greatestRoller 62 = .ok (.iload_n 2, 1) := by decide +kernel
theorem dX3_greatestRoller_63 : decode cX3_greatestRoller 63 = .ok (.aload_n 0, 1) := by decide +kernel
theorem dX3_greatestRoller_64 : decode cX3_greatestRoller 64 = .ok (.getfield 27, 3) := by decide +kernel
theorem dX3_greatestRoller_67 : decode cX3_greatestRoller 67 = .ok (.if_icmp .ge 28, 3) := by decide +kernel
theorem dX3_greatestRoller_70 : decode cX3_greatestRoller 70 = .ok (.aload_n 0, 1) := by decide +kernel
theorem dX3_greatestRoller_71 : decode cX3_greatestRoller 71 = .ok (.iload_n 2, 1) := by decide +kernel
theorem dX3_greatestRoller_72 : decode cX3_greatestRoller 72 = .ok (.invokevirtual 149, 3) := by decide +kernel
theorem dX3_greatestRoller_75 : decode cX3_greatestRoller 75 = .ok (.ifCond .eq 7, 3) := by decide +kernel
theorem dX3_greatestRoller_78 : decode cX3_greatestRoller 78 = .ok (.iload_n 1, 1) := by decide +kernel
theorem dX3_greatestRoller_79 : decode cX3_greatestRoller 79 = .ok (.goto 9, 3) := by decide +kernel
theorem dX3_greatestRoller_82 : decode cX3_greatestRoller 82 = .ok (.aload_n 0, 1) := by decide +kernel
theorem dX3_greatestRoller_83 : decode cX3_greatestRoller 83 = .ok (.iload_n 2, 1) := by decide +kernel
theorem dX3_greatestRoller_84 : decode cX3_greatestRoller 84 = .ok (.iload_n 1, 1) := by decide +kernel
theorem dX3_greatestRoller_85 : decode cX3_greatestRoller 85 = .ok (.invokevirtual 155, 3) := by decide +kernel
theorem dX3_greatestRoller_88 : decode cX3_greatestRoller 88 = .ok (.istore_n 1, 1) := by decide +kernel
theorem dX3_greatestRoller_89 : decode cX3_greatestRoller 89 = .ok (.iinc 2 1, 3) := by decide +kernel
theorem dX3_greatestRoller_92 : decode cX3_greatestRoller 92 = .ok (.goto (-30), 3) := by decide +kernel
theorem dX3_greatestRoller_95 : decode cX3_greatestRoller 95 = .ok (.iload_n 1, 1) := by decide +kernel
theorem dX3_greatestRoller_96 : decode cX3_greatestRoller 96 = .ok (.ireturn, 1) := by decide +kernel
theorem dX3_isCalm_0 : decode cX3_isCalm 0 = .ok (.aload_n 0, 1) := by decide +kernel
theorem dX3_isCalm_1 : decode cX3_isCalm 1 = .ok (.getfield 16, 3) := by decide +kernel
theorem dX3_isCalm_4 : decode cX3_isCalm 4 = .ok (.iconst 3, 1) := by decide +kernel
theorem dX3_isCalm_5 : decode cX3_isCalm 5 = .ok (.invokevirtual 35, 3) := by decide +kernel
theorem dX3_isCalm_8 : decode cX3_isCalm 8 = .ok (.i2l, 1) := by decide +kernel
theorem dX3_isCalm_9 : decode cX3_isCalm 9 = .ok (.aload_n 0, 1) := by decide +kernel
theorem dX3_isCalm_10 : decode cX3_isCalm 10 = .ok (.iconst 0, 1) := by decide +kernel
theorem dX3_isCalm_11 : decode cX3_isCalm 11 = .ok (.iload_n 1, 1) := by decide +kernel
theorem dX3_isCalm_12 : decode cX3_isCalm 12 = .ok (.invokevirtual 85, 3) := by decide +kernel
theorem dX3_isCalm_15 : decode cX3_isCalm 15 = .ok (.ladd, 1) := by decide +kernel
theorem dX3_isCalm_16 : decode cX3_isCalm 16 = .ok (.lstore_n 2, 1) := by decide +kernel
theorem dX3_isCalm_17 : decode cX3_isCalm 17 = .ok (.aload_n 0, 1) := by decide +kernel
theorem dX3_isCalm_18 : decode cX3_isCalm 18 = .ok (.iconst 5, 1) := by decide +kernel
theorem dX3_isCalm_19 : decode cX3_isCalm 19 = .ok (.iload_n 1, 1) := by decide +kernel
theorem dX3_isCalm_20 : decode cX3_isCalm 20 = .ok (.invokevirtual 85, 3) := by decide +kernel
theorem dX3_isCalm_23 : decode cX3_isCalm 23 = .ok (.invokestatic 115, 3) := by decide +kernel
theorem dX3_isCalm_26 : decode cX3_isCalm 26 = .ok (.lload_n 2, 1) := by decide +kernel
theorem dX3_isCalm_27 : decode cX3_isCalm 27 = .ok (.lcmp, 1) := by decide +kernel
theorem dX3_isCalm_28 : decode cX3_isCalm 28 = .ok (.ifCond .gt 22, 3) := by decide +kernel
theorem dX3_isCalm_31 : decode cX3_isCalm 31 = .ok (.aload_n 0, 1) := by decide +kernel
theorem dX3_isCalm_32 : decode cX3_isCalm 32 = .ok (.bipush 6, 2) := by decide +kernel
theorem dX3_isCalm_34 : decode cX3_isCalm 34 = .ok (.iload_n 1, 1) := by decide +kernel
theorem dX3_isCalm_35 : decode cX3_isCalm 35 = .ok (.invokevirtual 85, 3) := by decide +kernel
theorem dX3_isCalm_38 : decode cX3_isCalm 38 = .ok (.invokestatic 115, 3) := by decide +kernel
theorem dX3_isCalm_41 : decode cX3_isCalm 41 = .ok (.lload_n 2, 1) := by decide +kernel
theorem dX3_isCalm_42 : decode cX3_isCalm 42 = .ok (.lcmp, 1) := by decide +kernel
theorem dX3_isCalm_43 : decode cX3_isCalm 43 = .ok (.ifCond .gt 7, 3) := by decide +kernel
theorem dX3_isCalm_46 : decode cX3_isCalm 46 = .ok (.iconst 1, 1) := by decide +kernel
theorem dX3_isCalm_47 : decode cX3_isCalm 47 = .ok (.goto 4, 3) := by decide +kernel
theorem dX3_isCalm_50 : decode cX3_isCalm 50 = .ok (.iconst 0, 1) := by decide +kernel
theorem dX3_isCalm_51 : decode cX3_isCalm 51 = .ok (.ireturn, 1) := by decide +kernel
theorem dX3_lowerToClear_0 : decode cX3_lowerToClear 0 = .ok (.iload_n 2, 1) := by decide +kernel
theorem dX3_lowerToClear_1 : decode cX3_lowerToClear 1 = .ok (.istore_n 3, 1) := by decide +kernel
theorem dX3_lowerToClear_2 : decode cX3_lowerToClear 2 = .ok (.iload_n 3, 1) := by decide +kernel
theorem dX3_lowerToClear_3 : decode cX3_lowerToClear 3 = .ok (.ifCond .le 18, 3) := by decide +kernel
theorem dX3_lowerToClear_6 : decode cX3_lowerToClear 6 = .ok (.aload_n 0, 1) := by decide +kernel
theorem dX3_lowerToClear_7 : decode cX3_lowerToClear 7 = .ok (.iload_n 3, 1) := by decide +kernel
theorem dX3_lowerToClear_8 : decode cX3_lowerToClear 8 = .ok (.iload_n 1, 1) := by decide +kernel
theorem dX3_lowerToClear_9 : decode cX3_lowerToClear 9 = .ok (.invokevirtual 158, 3) := by decide +kernel
theorem dX3_lowerToClear_12 : decode cX3_lowerToClear 12 = .ok (.ifCond .eq 9, 3) := by decide +kernel
theorem dX3_lowerToClear_15 : decode cX3_lowerToClear 15 = .ok (.iinc 3 (-1), 3) := by decide +kernel
theorem dX3_lowerToClear_18 : decode cX3_lowerToClear 18 = .ok (.goto (-16), 3) := by decide +kernel
theorem dX3_lowerToClear_21 : decode cX3_lowerToClear 21 = .ok (.iload_n 3, 1) := by decide +kernel
theorem dX3_lowerToClear_22 : decode cX3_lowerToClear 22 = .ok (.ireturn, 1) := by decide +kernel
theorem dX3_clearUpTo_0 : decode cX3_clearUpTo 0 = .ok (.iconst 1, 1) := by decide +kernel
theorem dX3_clearUpTo_1 : decode cX3_clearUpTo 1 = .ok (.istore_n 3, 1) := by decide +kernel
theorem dX3_clearUpTo_2 : decode cX3_clearUpTo 2 = .ok (.iload_n 3, 1) := by decide +kernel
theorem dX3_clearUpTo_3 : decode cX3_clearUpTo 3 = .ok (.iload_n 2, 1) := by decide +kernel
theorem dX3_clearUpTo_4 : decode cX3_clearUpTo 4 = .ok (.if_icmp .gt 22, 3) := by decide +kernel
theorem dX3_clearUpTo_7 : decode cX3_clearUpTo 7 = .ok (.aload_n 0, 1) := by decide +kernel
theorem dX3_clearUpTo_8 : decode cX3_clearUpTo 8 = .ok (.iload_n 3, 1) := by decide +kernel
theorem dX3_clearUpTo_9 : decode cX3_clearUpTo 9 = .ok (.iload_n 1, 1) := by decide +kernel
theorem dX3_clearUpTo_10 : decode cX3_clearUpTo 10 = .ok (.invokevirtual 158, 3) := by decide +kernel
theorem dX3_clearUpTo_13 : decode cX3_clearUpTo 13 = .ok (.ifCond .eq 7, 3) := by decide +kernel
theorem dX3_clearUpTo_16 : decode cX3_clearUpTo 16 = .ok (.iload_n 3, 1) := by decide +kernel
theorem dX3_clearUpTo_17 : decode cX3_clearUpTo 17 = .ok (.iconst 1, 1) := by decide +kernel
theorem dX3_clearUpTo_18 : decode cX3_clearUpTo 18 = .ok (.isub, 1) := by decide +kernel
theorem dX3_clearUpTo_19 : decode cX3_clearUpTo 19 = .ok (.ireturn, 1) := by decide +kernel
theorem dX3_clearUpTo_20 : decode cX3_clearUpTo 20 = .ok (.iinc 3 1, 3) := by decide +kernel
theorem dX3_clearUpTo_23 : decode cX3_clearUpTo 23 = .ok (.goto (-21), 3) := by decide +kernel
theorem dX3_clearUpTo_26 : decode cX3_clearUpTo 26 = .ok (.iload_n 2, 1) := by decide +kernel
theorem dX3_clearUpTo_27 : decode cX3_clearUpTo 27 = .ok (.ireturn, 1) := by decide +kernel
theorem dX3_undercutBy_0 : decode cX3_undercutBy 0 = .ok (.aload_n 0, 1) := by decide +kernel
theorem dX3_undercutBy_1 : decode cX3_undercutBy 1 = .ok (.getfield 16, 3) := by decide +kernel
theorem dX3_undercutBy_4 : decode cX3_undercutBy 4 = .ok (.iconst 3, 1) := by decide +kernel
theorem dX3_undercutBy_5 : decode cX3_undercutBy 5 = .ok (.invokevirtual 35, 3) := by decide +kernel
theorem dX3_undercutBy_8 : decode cX3_undercutBy 8 = .ok (.iload_n 1, 1) := by decide +kernel
theorem dX3_undercutBy_9 : decode cX3_undercutBy 9 = .ok (.iadd, 1) := by decide +kernel
theorem dX3_undercutBy_10 : decode cX3_undercutBy 10 = .ok (.i2l, 1) := by decide +kernel
theorem dX3_undercutBy_11 : decode cX3_undercutBy 11 = .ok (.aload_n 0, 1) := by decide +kernel
theorem dX3_undercutBy_12 : decode cX3_undercutBy 12 = .ok (.iconst 0, 1) := by decide +kernel
theorem dX3_undercutBy_13 : decode cX3_undercutBy 13 = .ok (.iload_n 2, 1) := by decide +kernel
theorem dX3_undercutBy_14 : decode cX3_undercutBy 14 = .ok (.invokevirtual 85, 3) := by decide +kernel
theorem dX3_undercutBy_17 : decode cX3_undercutBy 17 = .ok (.ladd, 1) := by decide +kernel
theorem dX3_undercutBy_18 : decode cX3_undercutBy 18 = .ok (.lstore_n 3, 1) := by decide +kernel
theorem dX3_undercutBy_19 : decode cX3_undercutBy 19 = .ok (.aload_n 0, 1) := by decide +kernel
theorem dX3_undercutBy_20 : decode cX3_undercutBy 20 = .ok (.iconst 5, 1) := by decide +kernel
theorem dX3_undercutBy_21 : decode cX3_undercutBy 21 = .ok (.iload_n 2, 1) := by decide +kernel
theorem dX3_undercutBy_22 : decode cX3_undercutBy 22 = .ok (.invokevirtual 85, 3) := by decide +kernel
theorem dX3_undercutBy_25 : decode cX3_undercutBy 25 = .ok (.lstore 5, 2) := by decide +kernel
theorem dX3_undercutBy_27 : decode cX3_undercutBy 27 = .ok (.iload_n 1, 1) := by decide +kernel
theorem dX3_undercutBy_28 : decode cX3_undercutBy 28 = .ok (.i2l, 1) := by decide +kernel
theorem dX3_undercutBy_29 : decode cX3_undercutBy 29 = .ok (.lload_n 3, 1) := by decide +kernel
theorem dX3_undercutBy_30 : decode cX3_undercutBy 30 = .ok (.lload_n 3, 1) := by decide +kernel
theorem dX3_undercutBy_31 : decode cX3_undercutBy 31 = .ok (.lmul, 1) := by decide +kernel
theorem dX3_undercutBy_32 : decode cX3_undercutBy 32 = .ok (.lload 5, 2) := by decide +kernel
theorem dX3_undercutBy_34 : decode cX3_undercutBy 34 = .ok (.lload 5, 2) := by decide +kernel
theorem dX3_undercutBy_36 : decode cX3_undercutBy 36 = .ok (.lmul, 1) := by decide +kernel
theorem dX3_undercutBy_37 : decode cX3_undercutBy 37 = .ok (.ladd, 1) := by decide +kernel
theorem dX3_undercutBy_38 : decode cX3_undercutBy 38 = .ok (.lload_n 3, 1) := by decide +kernel
theorem dX3_undercutBy_39 : decode cX3_undercutBy 39 = .ok (.lload 5, 2) := by decide +kernel
theorem dX3_undercutBy_41 : decode cX3_undercutBy 41 = .ok (.aload_n 0, 1) := by decide +kernel
theorem dX3_undercutBy_42 : decode cX3_undercutBy 42 = .ok (.bipush 6, 2) := by decide +kernel
theorem dX3_undercutBy_44 : decode cX3_undercutBy 44 = .ok (.iload_n 2, 1) := by decide +kernel
theorem dX3_undercutBy_45 : decode cX3_undercutBy 45 = .ok (.invokevirtual 85, 3) := by decide +kernel
theorem dX3_undercutBy_48 : decode cX3_undercutBy 48 = .ok (.invokestatic 107, 3) := by decide +kernel
theorem dX3_undercutBy_51 : decode cX3_undercutBy 51 = .ok (.invokestatic 111, 3) := by decide +kernel
theorem dX3_undercutBy_54 : decode cX3_undercutBy 54 = .ok (.ireturn, 1) := by decide +kernel
theorem dX3_leastBase_0 : decode cX3_leastBase 0 = .ok (.getstatic 161, 3) := by decide +kernel
theorem dX3_leastBase_3 : decode cX3_leastBase 3 = .ok (.iconst 3, 1) := by decide +kernel
theorem dX3_leastBase_4 : decode cX3_leastBase 4 = .ok (.iaload, 1) := by decide +kernel
theorem dX3_leastBase_5 : decode cX3_leastBase 5 = .ok (.i2l, 1) := by decide +kernel
theorem dX3_leastBase_6 : decode cX3_leastBase 6 = .ok (.lstore_n 1, 1) := by decide +kernel
theorem dX3_leastBase_7 : decode cX3_leastBase 7 = .ok (.aload_n 0, 1) := by decide +kernel
theorem dX3_leastBase_8 : decode cX3_leastBase 8 = .ok (.getfield 16, 3) := by decide +kernel
theorem dX3_leastBase_11 : decode cX3_leastBase 11 = .ok (.bipush 9, 2) := by decide +kernel
theorem dX3_leastBase_13 : decode cX3_leastBase 13 = .ok (.invokevirtual 35, 3) := by decide +kernel
theorem dX3_leastBase_16 : decode cX3_leastBase 16 = .ok (.i2l, 1) := by decide +kernel
theorem dX3_leastBase_17 : decode cX3_leastBase 17 = .ok (.lconst 1, 1) := by decide +kernel
theorem dX3_leastBase_18 : decode cX3_leastBase 18 = .ok (.ladd, 1) := by decide +kernel
theorem dX3_leastBase_19 : decode cX3_leastBase 19 = .ok (.lstore_n 3, 1) := by decide +kernel
theorem dX3_leastBase_20 : decode cX3_leastBase 20 = .ok (.iconst 0, 1) := by decide +kernel
theorem dX3_leastBase_21 : decode cX3_leastBase 21 = .ok (.istore 5, 2) := by decide +kernel
theorem dX3_leastBase_23 : decode cX3_leastBase 23 = .ok (.iload 5, 2) := by decide +kernel
theorem dX3_leastBase_25 : decode cX3_leastBase 25 = .ok (.aload_n 0, 1) := by decide +kernel
theorem dX3_leastBase_26 : decode cX3_leastBase 26 = .ok (.getfield 27, 3) := by decide +kernel
theorem dX3_leastBase_29 : decode cX3_leastBase 29 = .ok (.if_icmp .ge 60, 3) := by decide +kernel
theorem dX3_leastBase_32 : decode cX3_leastBase 32 = .ok (.lload_n 3, 1) := by decide +kernel
theorem dX3_leastBase_33 : decode cX3_leastBase 33 = .ok (.lconst 0, 1) := by decide +kernel
theorem dX3_leastBase_34 : decode cX3_leastBase 34 = .ok (.lcmp, 1) := by decide +kernel
theorem dX3_leastBase_35 : decode cX3_leastBase 35 = .ok (.ifCond .le 54, 3) := by decide +kernel
theorem dX3_leastBase_38 : decode cX3_leastBase 38 = .ok (.ldc2_w 105, 3) := by decide +kernel
theorem dX3_leastBase_41 : decode cX3_leastBase 41 = .ok (.aload_n 0, 1) := by decide +kernel
theorem dX3_leastBase_42 : decode cX3_leastBase 42 = .ok (.iconst 5, 1) := by decide +kernel
theorem dX3_leastBase_43 : decode cX3_leastBase 43 = .ok (.iload 5, 2) := by decide +kernel
theorem dX3_leastBase_45 : decode cX3_leastBase 45 = .ok (.invokevirtual 85, 3) := by decide +kernel
theorem dX3_leastBase_48 : decode cX3_leastBase 48 = .ok (.invokestatic 115, 3) := by decide +kernel
theorem dX3_leastBase_51 : decode cX3_leastBase 51 = .ok (.lmul, 1) := by decide +kernel
theorem dX3_leastBase_52 : decode cX3_leastBase 52 = .ok (.lload_n 3, 1) := by decide +kernel
theorem dX3_leastBase_53 : decode cX3_leastBase 53 = .ok (.ldiv, 1) := by decide +kernel
theorem dX3_leastBase_54 : decode cX3_leastBase 54 = .ok (.lconst 1, 1) := by decide +kernel
theorem dX3_leastBase_55 : decode cX3_leastBase 55 = .ok (.ladd, 1) := by decide +kernel
theorem dX3_leastBase_56 : decode cX3_leastBase 56 = .ok (.lstore 6, 2) := by decide +kernel
theorem dX3_leastBase_58 : decode cX3_leastBase 58 = .ok (.lload_n 1, 1) := by decide +kernel
theorem dX3_leastBase_59 : decode cX3_leastBase 59 = .ok (.lload 6, 2) := by decide +kernel
theorem dX3_leastBase_61 : decode cX3_leastBase 61 = .ok (.aload_n 0, 1) := by decide +kernel
theorem dX3_leastBase_62 : decode cX3_leastBase 62 = .ok (.getfield 16, 3) := by decide +kernel
theorem dX3_leastBase_65 : decode cX3_leastBase 65 = .ok (.iconst 4, 1) := by decide +kernel
theorem dX3_leastBase_66 : decode cX3_leastBase 66 = .ok (.invokevirtual 35, 3) := by decide +kernel
theorem dX3_leastBase_69 : decode cX3_leastBase 69 = .ok (.i2l, 1) := by decide +kernel
theorem dX3_leastBase_70 : decode cX3_leastBase 70 = .ok (.lsub, 1) := by decide +kernel
theorem dX3_leastBase_71 : decode cX3_leastBase 71 = .ok (.aload_n 0, 1) := by decide +kernel
theorem dX3_leastBase_72 : decode cX3_leastBase 72 = .ok (.iconst 0, 1) := by decide +kernel
theorem dX3_leastBase_73 : decode cX3_leastBase 73 = .ok (.iload 5, 2) := by decide +kernel
theorem dX3_leastBase_75 : decode cX3_leastBase 75 = .ok (.invokevirtual 85, 3) := by decide +kernel
theorem dX3_leastBase_78 : decode cX3_leastBase 78 = .ok (.lsub, 1) := by decide +kernel
theorem dX3_leastBase_79 : decode cX3_leastBase 79 = .ok (.invokestatic 123, 3) := by decide +kernel
theorem dX3_leastBase_82 : decode cX3_leastBase 82 = .ok (.lstore_n 1, 1) := by decide +kernel
theorem dX3_leastBase_83 : decode cX3_leastBase 83 = .ok (.iinc 5 1, 3) := by decide +kernel
theorem dX3_leastBase_86 : decode cX3_leastBase 86 = .ok (.goto (-63), 3) := by decide +kernel
theorem dX3_leastBase_89 : decode cX3_leastBase 89 = .ok (.lload_n 1, 1) := by decide +kernel
theorem dX3_leastBase_90 : decode cX3_leastBase 90 = .ok (.getstatic 140, 3) := by decide +kernel
theorem dX3_leastBase_93 : decode cX3_leastBase 93 = .ok (.iconst 3, 1) := by decide +kernel
theorem dX3_leastBase_94 : decode cX3_leastBase 94 = .ok (.iaload, 1) := by decide +kernel
theorem dX3_leastBase_95 : decode cX3_leastBase 95 = .ok (.i2l, 1) := by decide +kernel
theorem dX3_leastBase_96 : decode cX3_leastBase 96 = .ok (.lcmp, 1) := by decide +kernel
theorem dX3_leastBase_97 : decode cX3_leastBase 97 = .ok (.ifCond .gt 8, 3) := by decide +kernel
theorem dX3_leastBase_100 : decode cX3_leastBase 100 = .ok (.lload_n 1, 1) := by decide +kernel
theorem dX3_leastBase_101 : decode cX3_leastBase 101 = .ok (.l2i, 1) := by decide +kernel
theorem dX3_leastBase_102 : decode cX3_leastBase 102 = .ok (.goto 4, 3) := by decide +kernel
theorem dX3_leastBase_105 : decode cX3_leastBase 105 = .ok (.iconst (-1), 1) := by decide +kernel
theorem dX3_leastBase_106 : decode cX3_leastBase 106 = .ok (.ireturn, 1) := by decide +kernel
theorem dX3_greatestSpeed_0 : decode cX3_greatestSpeed 0 = .ok (.getstatic 140, 3) := by decide +kernel
theorem dX3_greatestSpeed_3 : decode cX3_greatestSpeed 3 = .ok (.bipush 8, 2) := by decide +kernel
theorem dX3_greatestSpeed_5 : decode cX3_greatestSpeed 5 = .ok (.iaload, 1) := by decide +kernel
theorem dX3_greatestSpeed_6 : decode cX3_greatestSpeed 6 = .ok (.i2l, 1) := by decide +kernel
theorem dX3_greatestSpeed_7 : decode cX3_greatestSpeed 7 = .ok (.getstatic 140, 3) := by decide +kernel
theorem dX3_greatestSpeed_10 : decode cX3_greatestSpeed 10 = .ok (.bipush 8, 2) := by decide +kernel
theorem dX3_greatestSpeed_12 : decode cX3_greatestSpeed 12 = .ok (.iaload, 1) := by decide +kernel
theorem dX3_greatestSpeed_13 : decode cX3_greatestSpeed 13 = .ok (.i2l, 1) := by decide +kernel
theorem dX3_greatestSpeed_14 : decode cX3_greatestSpeed 14 = .ok (.lmul, 1) := by decide +kernel
theorem dX3_greatestSpeed_15 : decode cX3_greatestSpeed 15 = .ok (.lstore_n 1, 1) := by decide +kernel
theorem dX3_greatestSpeed_16 : decode cX3_greatestSpeed 16 = .ok (.iconst 0, 1) := by decide +kernel
theorem dX3_greatestSpeed_17 : decode cX3_greatestSpeed 17 = .ok (.istore_n 3, 1) := by decide +kernel
theorem dX3_greatestSpeed_18 : decode cX3_greatestSpeed 18 = .ok (.iload_n 3, 1) := by decide +kernel
theorem dX3_greatestSpeed_19 : decode cX3_greatestSpeed 19 = .ok (.aload_n 0, 1) := by decide +kernel
theorem dX3_greatestSpeed_20 : decode cX3_greatestSpeed 20 = .ok (.getfield 27, 3) := by decide +kernel
theorem dX3_greatestSpeed_23 : decode cX3_greatestSpeed 23 = .ok (.if_icmp .ge 53, 3) := by decide +kernel
theorem dX3_greatestSpeed_26 : decode cX3_greatestSpeed 26 = .ok (.aload_n 0, 1) := by decide +kernel
theorem dX3_greatestSpeed_27 : decode cX3_greatestSpeed 27 = .ok (.getfield 16, 3) := by decide +kernel
theorem dX3_greatestSpeed_30 : decode cX3_greatestSpeed 30 = .ok (.bipush 7, 2) := by decide +kernel
theorem dX3_greatestSpeed_32 : decode cX3_greatestSpeed 32 = .ok (.invokevirtual 35, 3) := by decide +kernel
theorem dX3_greatestSpeed_35 : decode cX3_greatestSpeed 35 = .ok (.i2l, 1) := by decide +kernel
theorem dX3_greatestSpeed_36 : decode cX3_greatestSpeed 36 = .ok (.aload_n 0, 1) := by decide +kernel
theorem dX3_greatestSpeed_37 : decode cX3_greatestSpeed 37 = .ok (.iconst 2, 1) := by decide +kernel
theorem dX3_greatestSpeed_38 : decode cX3_greatestSpeed 38 = .ok (.iload_n 3, 1) := by decide +kernel
theorem dX3_greatestSpeed_39 : decode cX3_greatestSpeed 39 = .ok (.invokevirtual 85, 3) := by decide +kernel
theorem dX3_greatestSpeed_42 : decode cX3_greatestSpeed 42 = .ok (.lneg, 1) := by decide +kernel
theorem dX3_greatestSpeed_43 : decode cX3_greatestSpeed 43 = .ok (.lmul, 1) := by decide +kernel
theorem dX3_greatestSpeed_44 : decode cX3_greatestSpeed 44 = .ok (.lstore 4, 2) := by decide +kernel
theorem dX3_greatestSpeed_46 : decode cX3_greatestSpeed 46 = .ok (.lload 4, 2) := by decide +kernel
theorem dX3_greatestSpeed_48 : decode cX3_greatestSpeed 48 = .ok (.lconst 0, 1) := by decide +kernel
theorem dX3_greatestSpeed_49 : decode cX3_greatestSpeed 49 = .ok (.lcmp, 1) := by decide +kernel
theorem dX3_greatestSpeed_50 : decode cX3_greatestSpeed 50 = .ok (.ifCond .le 20, 3) := by decide +kernel
theorem dX3_greatestSpeed_53 : decode cX3_greatestSpeed 53 = .ok (.lload_n 1, 1) := by decide +kernel
theorem dX3_greatestSpeed_54 : decode cX3_greatestSpeed 54 = .ok (.ldc2_w 105, 3) := by decide +kernel
theorem dX3_greatestSpeed_57 : decode cX3_greatestSpeed 57 = .ok (.aload_n 0, 1) := by decide +kernel
theorem dX3_greatestSpeed_58 : decode cX3_greatestSpeed 58 = .ok (.iload_n 3, 1) := by decide +kernel
theorem dX3_greatestSpeed_59 : decode cX3_greatestSpeed 59 = .ok (.invokevirtual 101, 3) := by decide +kernel
theorem dX3_greatestSpeed_62 : decode cX3_greatestSpeed 62 = .ok (.lmul, 1) := by decide +kernel
theorem dX3_greatestSpeed_63 : decode cX3_greatestSpeed 63 = .ok (.lload 4, 2) := by decide +kernel
theorem dX3_greatestSpeed_65 : decode cX3_greatestSpeed 65 = .ok (.ldiv, 1) := by decide +kernel
theorem dX3_greatestSpeed_66 : decode cX3_greatestSpeed 66 = .ok (.invokestatic 164, 3) := by decide +kernel
theorem dX3_greatestSpeed_69 : decode cX3_greatestSpeed 69 = .ok (.lstore_n 1, 1) := by decide +kernel
theorem dX3_greatestSpeed_70 : decode cX3_greatestSpeed 70 = .ok (.iinc 3 1, 3) := by decide +kernel
theorem dX3_greatestSpeed_73 : decode cX3_greatestSpeed 73 = .ok (.goto (-55), 3) := by decide +kernel
theorem dX3_greatestSpeed_76 : decode cX3_greatestSpeed 76 = .ok (.iconst 0, 1) := by decide +kernel
theorem dX3_greatestSpeed_77 : decode cX3_greatestSpeed 77 = .ok (.istore_n 3, 1) := by decide +kernel
theorem dX3_greatestSpeed_78 : decode cX3_greatestSpeed 78 = .ok (.sipush 8192, 3) := by decide +kernel
theorem dX3_greatestSpeed_81 : decode cX3_greatestSpeed 81 = .ok (.istore 4, 2) := by decide +kernel
theorem dX3_greatestSpeed_83 : decode cX3_greatestSpeed 83 = .ok (.iload 4, 2) := by decide +kernel
theorem dX3_greatestSpeed_85 : decode cX3_greatestSpeed 85 = .ok (.ifCond .le 38, 3) := by decide +kernel
theorem dX3_greatestSpeed_88 : decode cX3_greatestSpeed 88 = .ok (.iload_n 3, 1) := by decide +kernel
theorem dX3_greatestSpeed_89 : decode cX3_greatestSpeed 89 = .ok (.iload 4, 2) := by decide +kernel
theorem dX3_greatestSpeed_91 : decode cX3_greatestSpeed 91 = .ok (.iadd, 1) := by decide +kernel
theorem dX3_greatestSpeed_92 : decode cX3_greatestSpeed 92 = .ok (.i2l, 1) := by decide +kernel
theorem dX3_greatestSpeed_93 : decode cX3_greatestSpeed 93 = .ok (.lstore 5, 2) := by decide +kernel
theorem dX3_greatestSpeed_95 : decode cX3_greatestSpeed 95 = .ok (.iload_n 3, 1) := by decide +kernel
theorem dX3_greatestSpeed_96 : decode cX3_greatestSpeed 96 = .ok (.lload 5, 2) := by decide +kernel
theorem dX3_greatestSpeed_98 : decode cX3_greatestSpeed 98 = .ok (.lload 5, 2) := by decide +kernel
theorem dX3_greatestSpeed_100 : decode cX3_greatestSpeed 100 = .ok (.lmul, 1) := by decide +kernel
theorem dX3_greatestSpeed_101 : decode cX3_greatestSpeed 101 = .ok (.lload_n 1, 1) := by decide +kernel
theorem dX3_greatestSpeed_102 : decode cX3_greatestSpeed 102 = .ok (.lcmp, 1) := by decide +kernel
theorem dX3_greatestSpeed_103 : decode cX3_greatestSpeed 103 = .ok (.ifCond .gt 8, 3) := by decide +kernel
theorem dX3_greatestSpeed_106 : decode cX3_greatestSpeed 106 = .ok (.iload 4, 2) := by decide +kernel
theorem dX3_greatestSpeed_108 : decode cX3_greatestSpeed 108 = .ok (.goto 4, 3) := by decide +kernel
theorem dX3_greatestSpeed_111 : decode cX3_greatestSpeed 111 = .ok (.iconst 0, 1) := by decide +kernel
theorem dX3_greatestSpeed_112 : decode cX3_greatestSpeed 112 = .ok (.iadd, 1) := by decide +kernel
theorem dX3_greatestSpeed_113 : decode cX3_greatestSpeed 113 = .ok (.istore_n 3, 1) := by decide +kernel
theorem dX3_greatestSpeed_114 : decode cX3_greatestSpeed 114 = .ok (.iload 4, 2) := by decide +kernel
theorem dX3_greatestSpeed_116 : decode cX3_greatestSpeed 116 = .ok (.iconst 1, 1) := by decide +kernel
theorem dX3_greatestSpeed_117 : decode cX3_greatestSpeed 117 = .ok (.ishr, 1) := by decide +kernel
theorem dX3_greatestSpeed_118 : decode cX3_greatestSpeed 118 = .ok (.istore 4, 2) := by decide +kernel
theorem dX3_greatestSpeed_120 : decode cX3_greatestSpeed 120 = .ok (.goto (-37), 3) := by decide +kernel
theorem dX3_greatestSpeed_123 : decode cX3_greatestSpeed 123 = .ok (.iload_n 3, 1) := by decide +kernel
theorem dX3_greatestSpeed_124 : decode cX3_greatestSpeed 124 = .ok (.ireturn, 1) := by decide +kernel
theorem dX4_init_0 : decode cX4_init 0 = .ok (.aload_n 0, 1) := by decide +kernel
theorem dX4_init_1 : decode cX4_init 1 = .ok (.invokespecial 3, 3) := by decide +kernel
theorem dX4_init_4 : decode cX4_init 4 = .ok (.new 9, 3) := by decide +kernel
theorem dX4_init_7 : decode cX4_init 7 = .ok (.dup, 1) := by decide +kernel
theorem dX4_init_8 : decode cX4_init 8 = .ok (.invokespecial 11, 3) := by decide +kernel
theorem dX4_init_11 : decode cX4_init 11 = .ok (.astore_n 1, 1) := by decide +kernel
theorem dX4_init_12 : decode cX4_init 12 = .ok (.aload_n 0, 1) := by decide +kernel
theorem dX4_init_13 : decode cX4_init 13 = .ok (.aload_n 1, 1) := by decide +kernel
theorem dX4_init_14 : decode cX4_init 14 = .ok (.putfield 12, 3) := by decide +kernel
theorem dX4_init_17 : decode cX4_init 17 = .ok (.aload_n 0, 1) := by decide +kernel
theorem dX4_init_18 : decode cX4_init 18 = .ok (.new 16, 3) := by decide +kernel
theorem dX4_init_21 : decode cX4_init 21 = .ok (.dup, 1) := by decide +kernel
theorem dX4_init_22 : decode cX4_init 22 = .ok (.invokespecial 18, 3) := by decide +kernel
theorem dX4_init_25 : decode cX4_init 25 = .ok (.putfield 19, 3) := by decide +kernel
theorem dX4_init_28 : decode cX4_init 28 = .ok (.aload_n 0, 1) := by decide +kernel
theorem dX4_init_29 : decode cX4_init 29 = .ok (.new 23, 3) := by decide +kernel
theorem dX4_init_32 : decode cX4_init 32 = .ok (.dup, 1) := by decide +kernel
theorem dX4_init_33 : decode cX4_init 33 = .ok (.aload_n 1, 1) := by decide +kernel
theorem dX4_init_34 : decode cX4_init 34 = .ok (.invokespecial 25, 3) := by decide +kernel
theorem dX4_init_37 : decode cX4_init 37 = .ok (.putfield 28, 3) := by decide +kernel
theorem dX4_init_40 : decode cX4_init 40 = .ok (.aload_n 0, 1) := by decide +kernel
theorem dX4_init_41 : decode cX4_init 41 = .ok (.new 32, 3) := by decide +kernel
theorem dX4_init_44 : decode cX4_init 44 = .ok (.dup, 1) := by decide +kernel
theorem dX4_init_45 : decode cX4_init 45 = .ok (.aload_n 1, 1) := by decide +kernel
theorem dX4_init_46 : decode cX4_init 46 = .ok (.new 23, 3) := by decide +kernel
theorem dX4_init_49 : decode cX4_init 49 = .ok (.dup, 1) := by decide +kernel
theorem dX4_init_50 : decode cX4_init 50 = .ok (.aload_n 1, 1) := by decide +kernel
theorem dX4_init_51 : decode cX4_init 51 = .ok (.invokespecial 25, 3) := by decide +kernel
theorem dX4_init_54 : decode cX4_init 54 = .ok (.invokespecial 34, 3) := by decide +kernel
theorem dX4_init_57 : decode cX4_init 57 = .ok (.putfield 37, 3) := by decide +kernel
theorem dX4_init_60 : decode cX4_init 60 = .ok (.return_, 1) := by decide +kernel
theorem dX4_steps_0 : decode cX4_steps 0 = .ok (.iconst 0, 1) := by decide +kernel
theorem dX4_steps_1 : decode cX4_steps 1 = .ok (.iload_n 1, 1) := by decide +kernel
theorem dX4_steps_2 : decode cX4_steps 2 = .ok (.invokestatic 41, 3) := by decide +kernel
theorem dX4_steps_5 : decode cX4_steps 5 = .ok (.ifCond .ne 5, 3) := by decide +kernel
theorem dX4_steps_8 : decode cX4_steps 8 = .ok (.iconst (-1), 1) := by decide +kernel
theorem dX4_steps_9 : decode cX4_steps 9 = .ok (.ireturn, 1) := by decide +kernel
theorem dX4_steps_10 : decode cX4_steps 10 = .ok (.aload_n 0, 1) := by decide +kernel
theorem dX4_steps_11 : decode cX4_steps 11 = .ok (.getfield 12, 3) := by decide +kernel
theorem dX4_steps_14 : decode cX4_steps 14 = .ok (.iconst 1, 1) := by decide +kernel
theorem dX4_steps_15 : decode cX4_steps 15 = .ok (.invokevirtual 45, 3) := by decide +kernel
theorem dX4_steps_18 : decode cX4_steps 18 = .ok (.istore_n 2, 1) := by decide +kernel
theorem dX4_steps_19 : decode cX4_steps 19 = .ok (.aload_n 0, 1) := by decide +kernel
theorem dX4_steps_20 : decode cX4_steps 20 = .ok (.getfield 19, 3) := by decide +kernel
theorem dX4_steps_23 : decode cX4_steps 23 = .ok (.invokevirtual 49, 3) := by decide +kernel
theorem dX4_steps_26 : decode cX4_steps 26 = .ok (.aload_n 0, 1) := by decide +kernel
theorem dX4_steps_27 : decode cX4_steps 27 = .ok (.invokevirtual 52, 3) := by decide +kernel
theorem dX4_steps_30 : decode cX4_steps 30 = .ok (.aload_n 0, 1) := by decide +kernel
theorem dX4_steps_31 : decode cX4_steps 31 = .ok (.getfield 12, 3) := by decide +kernel
theorem dX4_steps_34 : decode cX4_steps 34 = .ok (.iconst 0, 1) := by decide +kernel
theorem dX4_steps_35 : decode cX4_steps 35 = .ok (.iload_n 1, 1) := by decide +kernel
theorem dX4_steps_36 : decode cX4_steps 36 = .ok (.invokevirtual 55, 3) := by decide +kernel
theorem dX4_steps_39 : decode cX4_steps 39 = .ok (.aload_n 0, 1) := by decide +kernel
theorem dX4_steps_40 : decode cX4_steps 40 = .ok (.getfield 12, 3) := by decide +kernel
theorem dX4_steps_43 : decode cX4_steps 43 = .ok (.iconst 1, 1) := by decide +kernel
theorem dX4_steps_44 : decode cX4_steps 44 = .ok (.iconst 0, 1) := by decide +kernel
theorem dX4_steps_45 : decode cX4_steps 45 = .ok (.invokevirtual 55, 3) := by decide +kernel
theorem dX4_steps_48 : decode cX4_steps 48 = .ok (.aload_n 0, 1) := by decide +kernel
theorem dX4_steps_49 : decode cX4_steps 49 = .ok (.getfield 12, 3) := by decide +kernel
theorem dX4_steps_52 : decode cX4_steps 52 = .ok (.bipush 11, 2) := by decide +kernel
theorem dX4_steps_54 : decode cX4_steps 54 = .ok (.iconst 0, 1) := by decide +kernel
theorem dX4_steps_55 : decode cX4_steps 55 = .ok (.invokevirtual 55, 3) := by decide +kernel
theorem dX4_steps_58 : decode cX4_steps 58 = .ok (.iload_n 2, 1) := by decide +kernel
theorem dX4_steps_59 : decode cX4_steps 59 = .ok (.ireturn, 1) := by decide +kernel
theorem dX4_segment_0 : decode cX4_segment 0 = .ok (.aload_n 0, 1) := by decide +kernel
theorem dX4_segment_1 : decode cX4_segment 1 = .ok (.getfield 12, 3) := by decide +kernel
theorem dX4_segment_4 : decode cX4_segment 4 = .ok (.iconst 1, 1) := by decide +kernel
theorem dX4_segment_5 : decode cX4_segment 5 = .ok (.invokevirtual 45, 3) := by decide +kernel
theorem dX4_segment_8 : decode cX4_segment 8 = .ok (.istore 4, 2) := by decide +kernel
theorem dX4_segment_10 : decode cX4_segment 10 = .ok (.iload 4, 2) := by decide +kernel
theorem dX4_segment_12 : decode cX4_segment 12 = .ok (.bipush 12, 2) := by decide +kernel
theorem dX4_segment_14 : decode cX4_segment 14 = .ok (.if_icmp .ge 27, 3) := by decide +kernel
theorem dX4_segment_17 : decode cX4_segment 17 = .ok (.iconst 0, 1) := by decide +kernel
theorem dX4_segment_18 : decode cX4_segment 18 = .ok (.iload_n 1, 1) := by decide +kernel
theorem dX4_segment_19 : decode cX4_segment 19 = .ok (.invokestatic 59, 3) := by decide +kernel
theorem dX4_segment_22 : decode cX4_segment 22 = .ok (.ifCond .eq 19, 3) := by decide +kernel
theorem dX4_segment_25 : decode cX4_segment 25 = .ok (.iconst 1, 1) := by decide +kernel
theorem dX4_segment_26 : decode cX4_segment 26 = .ok (.iload_n 2, 1) := by decide +kernel
theorem dX4_segment_27 : decode cX4_segment 27 = .ok (.invokestatic 59, 3) := by decide +kernel
theorem dX4_segment_30 : decode cX4_segment 30 = .ok (.ifCond .eq 11, 3) := by decide +kernel
theorem dX4_segment_33 : decode cX4_segment 33 = .ok (.iconst 2, 1) := by decide +kernel
theorem dX4_segment_34 : decode cX4_segment 34 = .ok (.iload_n 3, 1) := by decide +kernel
theorem dX4_segment_35 : decode cX4_segment 35 = .ok (.invokestatic 59, 3) := by decide +kernel
theorem dX4_segment_38 : decode cX4_segment 38 = .ok (.ifCond .ne 5, 3) := by decide +kernel
theorem dX4_segment_41 : decode cX4_segment 41 = .ok (.iconst (-1), 1) := by decide +kernel
theorem dX4_segment_42 : decode cX4_segment 42 = .ok (.ireturn, 1) := by decide +kernel
theorem dX4_segment_43 : decode cX4_segment 43 = .ok (.aload_n 0, 1) := by decide +kernel
theorem dX4_segment_44 : decode cX4_segment 44 = .ok (.invokevirtual 62, 3) := by decide +kernel
theorem dX4_segment_47 : decode cX4_segment 47 = .ok (.aload_n 0, 1) := by decide +kernel
theorem dX4_segment_48 : decode cX4_segment 48 = .ok (.getfield 12, 3) := by decide +kernel
theorem dX4_segment_51 : decode cX4_segment 51 = .ok (.iconst 1, 1) := by decide +kernel
theorem dX4_segment_52 : decode cX4_segment 52 = .ok (.iload 4, 2) := by decide +kernel
theorem dX4_segment_54 : decode cX4_segment 54 = .ok (.iconst 1, 1) := by decide +kernel
theorem dX4_segment_55 : decode cX4_segment 55 = .ok (.iadd, 1) := by decide +kernel
theorem dX4_segment_56 : decode cX4_segment 56 = .ok (.invokevirtual 55, 3) := by decide +kernel
theorem dX4_segment_59 : decode cX4_segment 59 = .ok (.aload_n 0, 1) := by decide +kernel
theorem dX4_segment_60 : decode cX4_segment 60 = .ok (.getfield 12, 3) := by decide +kernel
theorem dX4_segment_63 : decode cX4_segment 63 = .ok (.iload 4, 2) := by decide +kernel
theorem dX4_segment_65 : decode cX4_segment 65 = .ok (.iconst 0, 1) := by decide +kernel
theorem dX4_segment_66 : decode cX4_segment 66 = .ok (.invokestatic 65, 3) := by decide +kernel
theorem dX4_segment_69 : decode cX4_segment 69 = .ok (.iload_n 1, 1) := by decide +kernel
theorem dX4_segment_70 : decode cX4_segment 70 = .ok (.invokevirtual 55, 3) := by decide +kernel
theorem dX4_segment_73 : decode cX4_segment 73 = .ok (.aload_n 0, 1) := by decide +kernel
theorem dX4_segment_74 : decode cX4_segment 74 = .ok (.getfield 12, 3) := by decide +kernel
theorem dX4_segment_77 : decode cX4_segment 77 = .ok (.iload 4, 2) := by decide +kernel
theorem dX4_segment_79 : decode cX4_segment 79 = .ok (.iconst 1, 1) := by decide +kernel
theorem dX4_segment_80 : decode cX4_segment 80 = .ok (.invokestatic 65, 3) := by decide +kernel
theorem dX4_segment_83 : decode cX4_segment 83 = .ok (.iload_n 2, 1) := by decide +kernel
theorem dX4_segment_84 : decode cX4_segment 84 = .ok (.invokevirtual 55, 3) := by decide +kernel
theorem dX4_segment_87 : decode cX4_segment 87 = .ok (.aload_n 0, 1) := by decide +kernel
theorem dX4_segment_88 : decode cX4_segment 88 = .ok (.getfield 12, 3) := by decide +kernel
theorem dX4_segment_91 : decode cX4_segment 91 = .ok (.iload 4, 2) := by decide +kernel
theorem dX4_segment_93 : decode cX4_segment 93 = .ok (.iconst 2, 1) := by decide +kernel
theorem dX4_segment_94 : decode cX4_segment 94 = .ok (.invokestatic 65, 3) := by decide +kernel
theorem dX4_segment_97 : decode cX4_segment 97 = .ok (.iload_n 3, 1) := by decide +kernel
theorem dX4_segment_98 : decode cX4_segment 98 = .ok (.invokevirtual 55, 3) := by decide +kernel
theorem dX4_segment_101 : decode cX4_segment 101 = .ok (.iload 4, 2) := by decide +kernel
theorem dX4_segment_103 : decode cX4_segment 103 = .ok (.ireturn, 1) := by decide +kernel
theorem dX4_alter_0 : decode cX4_alter 0 = .ok (.aload_n 0, 1) := by decide +kernel
theorem dX4_alter_1 : decode cX4_alter 1 = .ok (.getfield 12, 3) := by decide +kernel
theorem dX4_alter_4 : decode cX4_alter 4 = .ok (.iload_n 1, 1) := by decide +kernel
theorem dX4_alter_5 : decode cX4_alter 5 = .ok (.invokevirtual 69, 3) := by decide +kernel
theorem dX4_alter_8 : decode cX4_alter 8 = .ok (.ifCond .eq 11, 3) := by decide +kernel
theorem dX4_alter_11 : decode cX4_alter 11 = .ok (.iload_n 2, 1) := by decide +kernel
theorem dX4_alter_12 : decode cX4_alter 12 = .ok (.iload_n 3, 1) := by decide +kernel
theorem dX4_alter_13 : decode cX4_alter 13 = .ok (.invokestatic 59, 3) := by decide +kernel
theorem dX4_alter_16 : decode cX4_alter 16 = .ok (.ifCond .ne 5, 3) := by decide +kernel
theorem dX4_alter_19 : decode cX4_alter 19 = .ok (.iconst (-1), 1) := by decide +kernel
theorem dX4_alter_20 : decode cX4_alter 20 = .ok (.ireturn, 1) := by decide +kernel
theorem dX4_alter_21 : decode cX4_alter 21 = .ok (.aload_n 0, 1) := by decide +kernel
theorem dX4_alter_22 : decode cX4_alter 22 = .ok (.invokevirtual 62, 3) := by decide +kernel
theorem dX4_alter_25 : decode cX4_alter 25 = .ok (.aload_n 0, 1) := by decide +kernel
theorem dX4_alter_26 : decode cX4_alter 26 = .ok (.getfield 12, 3) := by decide +kernel
theorem dX4_alter_29 : decode cX4_alter 29 = .ok (.iload_n 1, 1) := by decide +kernel
theorem dX4_alter_30 : decode cX4_alter 30 = .ok (.iload_n 2, 1) := by decide +kernel
theorem dX4_alter_31 : decode cX4_alter 31 = .ok (.invokestatic 65, 3) := by decide +kernel
theorem dX4_alter_34 : decode cX4_alter 34 = .ok (.iload_n 3, 1) := by decide +kernel
theorem dX4_alter_35 : decode cX4_alter 35 = .ok (.invokevirtual 73, 3) := by decide +kernel
theorem dX4_alter_38 : decode cX4_alter 38 = .ok (.ireturn, 1) := by decide +kernel
theorem dX4_drop_0 : decode cX4_drop 0 = .ok (.aload_n 0, 1) := by decide +kernel
theorem dX4_drop_1 : decode cX4_drop 1 = .ok (.getfield 12, 3) := by decide +kernel
theorem dX4_drop_4 : decode cX4_drop 4 = .ok (.iconst 1, 1) := by decide +kernel
theorem dX4_drop_5 : decode cX4_drop 5 = .ok (.invokevirtual 45, 3) := by decide +kernel
theorem dX4_drop_8 : decode cX4_drop 8 = .ok (.iconst 1, 1) := by decide +kernel
theorem dX4_drop_9 : decode cX4_drop 9 = .ok (.isub, 1) := by decide +kernel
theorem dX4_drop_10 : decode cX4_drop 10 = .ok (.istore_n 1, 1) := by decide +kernel
theorem dX4_drop_11 : decode cX4_drop 11 = .ok (.iload_n 1, 1) := by decide +kernel
theorem dX4_drop_12 : decode cX4_drop 12 = .ok (.ifCond .ge 5, 3) := by decide +kernel
theorem dX4_drop_15 : decode cX4_drop 15 = .ok (.iconst (-1), 1) := by decide +kernel
theorem dX4_drop_16 : decode cX4_drop 16 = .ok (.ireturn, 1) := by decide +kernel
theorem dX4_drop_17 : decode cX4_drop 17 = .ok (.aload_n 0, 1) := by decide +kernel
theorem dX4_drop_18 : decode cX4_drop 18 = .ok (.invokevirtual 62, 3) := by decide +kernel
theorem dX4_drop_21 : decode cX4_drop 21 = .ok (.aload_n 0, 1) := by decide +kernel
theorem dX4_drop_22 : decode cX4_drop 22 = .ok (.getfield 12, 3) := by decide +kernel
theorem dX4_drop_25 : decode cX4_drop 25 = .ok (.iconst 1, 1) := by decide +kernel
theorem dX4_drop_26 : decode cX4_drop 26 = .ok (.iload_n 1, 1) := by decide +kernel
theorem dX4_drop_27 : decode cX4_drop 27 = .ok (.invokevirtual 55, 3) := by decide +kernel
theorem dX4_drop_30 : decode cX4_drop 30 = .ok (.iload_n 1, 1) := by decide +kernel
theorem dX4_drop_31 : decode cX4_drop 31 = .ok (.ireturn, 1) := by decide +kernel
theorem dX4_start_0 : decode cX4_start 0 = .ok (.aload_n 0, 1) := by decide +kernel
theorem dX4_start_1 : decode cX4_start 1 = .ok (.iconst 2, 1) := by decide +kernel
theorem dX4_start_2 : decode cX4_start 2 = .ok (.iload_n 1, 1) := by decide +kernel
theorem dX4_start_3 : decode cX4_start 3 = .ok (.invokevirtual 76, 3) := by decide +kernel
theorem dX4_start_6 : decode cX4_start 6 = .ok (.ireturn, 1) := by decide +kernel
theorem dX4_base_0 : decode cX4_base 0 = .ok (.aload_n 0, 1) := by decide +kernel
theorem dX4_base_1 : decode cX4_base 1 = .ok (.iconst 3, 1) := by decide +kernel
theorem dX4_base_2 : decode cX4_base 2 = .ok (.iload_n 1, 1) := by decide +kernel
theorem dX4_base_3 : decode cX4_base 3 = .ok (.invokevirtual 76, 3) := by decide +kernel
theorem dX4_base_6 : decode cX4_base 6 = .ok (.ireturn, 1) := by decide +kernel
theorem dX4_roller_0 : decode cX4_roller 0 = .ok (.aload_n 0, 1) := by decide +kernel
theorem dX4_roller_1 : decode cX4_roller 1 = .ok (.iconst 4, 1) := by decide +kernel
theorem dX4_roller_2 : decode cX4_roller 2 = .ok (.iload_n 1, 1) := by decide +kernel
theorem dX4_roller_3 : decode cX4_roller 3 = .ok (.invokevirtual 76, 3) := by decide +kernel
theorem dX4_roller_6 : decode cX4_roller 6 = .ok (.ireturn, 1) := by decide +kernel
theorem dX4_spring_0 : decode cX4_spring 0 = .ok (.iconst 5, 1) := by decide +kernel
theorem dX4_spring_1 : decode cX4_spring 1 = .ok (.iload_n 1, 1) := by decide +kernel
theorem dX4_spring_2 : decode cX4_spring 2 = .ok (.invokestatic 41, 3) := by decide +kernel
theorem dX4_spring_5 : decode cX4_spring 5 = .ok (.ifCond .eq 21, 3) := by decide +kernel
theorem dX4_spring_8 : decode cX4_spring 8 = .ok (.bipush 6, 2) := by decide +kernel
theorem dX4_spring_10 : decode cX4_spring 10 = .ok (.iload_n 2, 1) := by decide +kernel
theorem dX4_spring_11 : decode cX4_spring 11 = .ok (.invokestatic 41, 3) := by decide +kernel
theorem dX4_spring_14 : decode cX4_spring 14 = .ok (.ifCond .eq 12, 3) := by decide +kernel
theorem dX4_spring_17 : decode cX4_spring 17 = .ok (.bipush 7, 2) := by decide +kernel
theorem dX4_spring_19 : decode cX4_spring 19 = .ok (.iload_n 3, 1) := by decide +kernel
theorem dX4_spring_20 : decode cX4_spring 20 = .ok (.invokestatic 41, 3) := by decide +kernel
theorem dX4_spring_23 : decode cX4_spring 23 = .ok (.ifCond .ne 5, 3) := by decide +kernel
theorem dX4_spring_26 : decode cX4_spring 26 = .ok (.iconst 0, 1) := by decide +kernel
theorem dX4_spring_27 : decode cX4_spring 27 = .ok (.ireturn, 1) := by decide +kernel
theorem dX4_spring_28 : decode cX4_spring 28 = .ok (.aload_n 0, 1) := by decide +kernel
theorem dX4_spring_29 : decode cX4_spring 29 = .ok (.invokevirtual 62, 3) := by decide +kernel
theorem dX4_spring_32 : decode cX4_spring 32 = .ok (.aload_n 0, 1) := by decide +kernel
theorem dX4_spring_33 : decode cX4_spring 33 = .ok (.getfield 12, 3) := by decide +kernel
theorem dX4_spring_36 : decode cX4_spring 36 = .ok (.iconst 5, 1) := by decide +kernel
theorem dX4_spring_37 : decode cX4_spring 37 = .ok (.iload_n 1, 1) := by decide +kernel
theorem dX4_spring_38 : decode cX4_spring 38 = .ok (.invokevirtual 55, 3) := by decide +kernel
theorem dX4_spring_41 : decode cX4_spring 41 = .ok (.aload_n 0, 1) := by decide +kernel
theorem dX4_spring_42 : decode cX4_spring 42 = .ok (.getfield 12, 3) := by decide +kernel
theorem dX4_spring_45 : decode cX4_spring 45 = .ok (.bipush 6, 2) := by decide +kernel
theorem dX4_spring_47 : decode cX4_spring 47 = .ok (.iload_n 2, 1) := by decide +kernel
theorem dX4_spring_48 : decode cX4_spring 48 = .ok (.invokevirtual 55, 3) := by decide +kernel
theorem dX4_spring_51 : decode cX4_spring 51 = .ok (.aload_n 0, 1) := by decide +kernel
theorem dX4_spring_52 : decode cX4_spring 52 = .ok (.getfield 12, 3) := by decide +kernel
theorem dX4_spring_55 : decode cX4_spring 55 = .ok (.bipush 7, 2) := by decide +kernel
theorem dX4_spring_57 : decode cX4_spring 57 = .ok (.iload_n 3, 1) := by decide +kernel
theorem dX4_spring_58 : decode cX4_spring 58 = .ok (.invokevirtual 55, 3) := by decide +kernel
theorem dX4_spring_61 : decode cX4_spring 61 = .ok (.iconst 1, 1) := by decide +kernel
theorem dX4_spring_62 : decode cX4_spring 62 = .ok (.ireturn, 1) := by decide +kernel
theorem dX4_speed_0 : decode cX4_speed 0 = .ok (.aload_n 0, 1) := by decide +kernel
theorem dX4_speed_1 : decode cX4_speed 1 = .ok (.bipush 8, 2) := by decide +kernel
theorem dX4_speed_3 : decode cX4_speed 3 = .ok (.iload_n 1, 1) := by decide +kernel
theorem dX4_speed_4 : decode cX4_speed 4 = .ok (.invokevirtual 76, 3) := by decide +kernel
theorem dX4_speed_7 : decode cX4_speed 7 = .ok (.ireturn, 1) := by decide +kernel
theorem dX4_steepest_0 : decode cX4_steepest 0 = .ok (.aload_n 0, 1) := by decide +kernel
theorem dX4_steepest_1 : decode cX4_steepest 1 = .ok (.bipush 9, 2) := by decide +kernel
theorem dX4_steepest_3 : decode cX4_steepest 3 = .ok (.iload_n 1, 1) := by decide +kernel
theorem dX4_steepest_4 : decode cX4_steepest 4 = .ok (.invokevirtual 76, 3) := by decide +kernel
theorem dX4_steepest_7 : decode cX4_steepest 7 = .ok (.ireturn, 1) := by decide +kernel
theorem dX4_slack_0 : decode cX4_slack 0 = .ok (.aload_n 0, 1) := by decide +kernel
theorem dX4_slack_1 : decode cX4_slack 1 = .ok (.bipush 10, 2) := by decide +kernel
theorem dX4_slack_3 : decode cX4_slack 3 = .ok (.iload_n 1, 1) := by decide +kernel
theorem dX4_slack_4 : decode cX4_slack 4 = .ok (.invokevirtual 76, 3) := by decide +kernel
theorem dX4_slack_7 : decode cX4_slack 7 = .ok (.ireturn, 1) := by decide +kernel
theorem dX4_mark_0 : decode cX4_mark 0 = .ok (.aload_n 0, 1) := by decide +kernel
theorem dX4_mark_1 : decode cX4_mark 1 = .ok (.getfield 12, 3) := by decide +kernel
theorem dX4_mark_4 : decode cX4_mark 4 = .ok (.bipush 11, 2) := by decide +kernel
theorem dX4_mark_6 : decode cX4_mark 6 = .ok (.invokevirtual 45, 3) := by decide +kernel
theorem dX4_mark_9 : decode cX4_mark 9 = .ok (.istore 4, 2) := by decide +kernel
theorem dX4_mark_11 : decode cX4_mark 11 = .ok (.iload 4, 2) := by decide +kernel
theorem dX4_mark_13 : decode cX4_mark 13 = .ok (.bipush 8, 2) := by decide +kernel
theorem dX4_mark_15 : decode cX4_mark 15 = .ok (.if_icmp .ge 31, 3) := by decide +kernel
theorem dX4_mark_18 : decode cX4_mark 18 = .ok (.aload_n 0, 1) := by decide +kernel
theorem dX4_mark_19 : decode cX4_mark 19 = .ok (.getfield 12, 3) := by decide +kernel
theorem dX4_mark_22 : decode cX4_mark 22 = .ok (.iload_n 1, 1) := by decide +kernel
theorem dX4_mark_23 : decode cX4_mark 23 = .ok (.invokevirtual 79, 3) := by decide +kernel
theorem dX4_mark_26 : decode cX4_mark 26 = .ok (.ifCond .eq 20, 3) := by decide +kernel
theorem dX4_mark_29 : decode cX4_mark 29 = .ok (.iconst 2, 1) := by decide +kernel
theorem dX4_mark_30 : decode cX4_mark 30 = .ok (.iload_n 2, 1) := by decide +kernel
theorem dX4_mark_31 : decode cX4_mark 31 = .ok (.invokestatic 41, 3) := by decide +kernel
theorem dX4_mark_34 : decode cX4_mark 34 = .ok (.ifCond .eq 12, 3) := by decide +kernel
theorem dX4_mark_37 : decode cX4_mark 37 = .ok (.bipush 10, 2) := by decide +kernel
theorem dX4_mark_39 : decode cX4_mark 39 = .ok (.iload_n 3, 1) := by decide +kernel
theorem dX4_mark_40 : decode cX4_mark 40 = .ok (.invokestatic 41, 3) := by decide +kernel
theorem dX4_mark_43 : decode cX4_mark 43 = .ok (.ifCond .ne 5, 3) := by decide +kernel
theorem dX4_mark_46 : decode cX4_mark 46 = .ok (.iconst (-1), 1) := by decide +kernel
theorem dX4_mark_47 : decode cX4_mark 47 = .ok (.ireturn, 1) := by decide +kernel
theorem dX4_mark_48 : decode cX4_mark 48 = .ok (.aload_n 0, 1) := by decide +kernel
theorem dX4_mark_49 : decode cX4_mark 49 = .ok (.invokevirtual 62, 3) := by decide +kernel
theorem dX4_mark_52 : decode cX4_mark 52 = .ok (.aload_n 0, 1) := by decide +kernel
theorem dX4_mark_53 : decode cX4_mark 53 = .ok (.getfield 12, 3) := by decide +kernel
theorem dX4_mark_56 : decode cX4_mark 56 = .ok (.bipush 11, 2) := by decide +kernel
theorem dX4_mark_58 : decode cX4_mark 58 = .ok (.iload 4, 2) := by decide +kernel
theorem dX4_mark_60 : decode cX4_mark 60 = .ok (.iconst 1, 1) := by decide +kernel
theorem dX4_mark_61 : decode cX4_mark 61 = .ok (.iadd, 1) := by decide +kernel
theorem dX4_mark_62 : decode cX4_mark 62 = .ok (.invokevirtual 55, 3) := by decide +kernel
theorem dX4_mark_65 : decode cX4_mark 65 = .ok (.aload_n 0, 1) := by decide +kernel
theorem dX4_mark_66 : decode cX4_mark 66 = .ok (.getfield 12, 3) := by decide +kernel
theorem dX4_mark_69 : decode cX4_mark 69 = .ok (.iload 4, 2) := by decide +kernel
theorem dX4_mark_71 : decode cX4_mark 71 = .ok (.iconst 0, 1) := by decide +kernel
theorem dX4_mark_72 : decode cX4_mark 72 = .ok (.invokestatic 82, 3) := by decide +kernel
theorem dX4_mark_75 : decode cX4_mark 75 = .ok (.iload_n 1, 1) := by decide +kernel
theorem dX4_mark_76 : decode cX4_mark 76 = .ok (.invokevirtual 55, 3) := by decide +kernel
theorem dX4_mark_79 : decode cX4_mark 79 = .ok (.aload_n 0, 1) := by decide +kernel
theorem dX4_mark_80 : decode cX4_mark 80 = .ok (.getfield 12, 3) := by decide +kernel
theorem dX4_mark_83 : decode cX4_mark 83 = .ok (.iload 4, 2) := by decide +kernel
theorem dX4_mark_85 : decode cX4_mark 85 = .ok (.iconst 1, 1) := by decide +kernel
theorem dX4_mark_86 : decode cX4_mark 86 = .ok (.invokestatic 82, 3) := by decide +kernel
theorem dX4_mark_89 : decode cX4_mark 89 = .ok (.iload_n 2, 1) := by decide +kernel
theorem dX4_mark_90 : decode cX4_mark 90 = .ok (.invokevirtual 55, 3) := by decide +kernel
theorem dX4_mark_93 : decode cX4_mark 93 = .ok (.aload_n 0, 1) := by decide +kernel
theorem dX4_mark_94 : decode cX4_mark 94 = .ok (.getfield 12, 3) := by decide +kernel
theorem dX4_mark_97 : decode cX4_mark 97 = .ok (.iload 4, 2) := by decide +kernel
theorem dX4_mark_99 : decode cX4_mark 99 = .ok (.iconst 2, 1) := by decide +kernel
theorem dX4_mark_100 : decode cX4_mark 100 = .ok (.invokestatic 82, 3) := by decide +kernel
theorem dX4_mark_103 : decode cX4_mark 103 = .ok (.iload_n 3, 1) := by decide +kernel
theorem dX4_mark_104 : decode cX4_mark 104 = .ok (.invokevirtual 55, 3) := by decide +kernel
theorem dX4_mark_107 : decode cX4_mark 107 = .ok (.iload 4, 2) := by decide +kernel
theorem dX4_mark_109 : decode cX4_mark 109 = .ok (.ireturn, 1) := by decide +kernel
theorem dX4_unmark_0 : decode cX4_unmark 0 = .ok (.aload_n 0, 1) := by decide +kernel
theorem dX4_unmark_1 : decode cX4_unmark 1 = .ok (.getfield 12, 3) := by decide +kernel
theorem dX4_unmark_4 : decode cX4_unmark 4 = .ok (.iload_n 1, 1) := by decide +kernel
theorem dX4_unmark_5 : decode cX4_unmark 5 = .ok (.invokevirtual 85, 3) := by decide +kernel
theorem dX4_unmark_8 : decode cX4_unmark 8 = .ok (.ifCond .ne 5, 3) := by decide +kernel
theorem dX4_unmark_11 : decode cX4_unmark 11 = .ok (.iconst 0, 1) := by decide +kernel
theorem dX4_unmark_12 : decode cX4_unmark 12 = .ok (.ireturn, 1) := by decide +kernel
theorem dX4_unmark_13 : decode cX4_unmark 13 = .ok (.aload_n 0, 1) := by decide +kernel
theorem dX4_unmark_14 : decode cX4_unmark 14 = .ok (.invokevirtual 62, 3) := by decide +kernel
theorem dX4_unmark_17 : decode cX4_unmark 17 = .ok (.aload_n 0, 1) := by decide +kernel
theorem dX4_unmark_18 : decode cX4_unmark 18 = .ok (.getfield 12, 3) := by decide +kernel
theorem dX4_unmark_21 : decode cX4_unmark 21 = .ok (.iload_n 1, 1) := by decide +kernel
theorem dX4_unmark_22 : decode cX4_unmark 22 = .ok (.invokevirtual 88, 3) := by decide +kernel
theorem dX4_unmark_25 : decode cX4_unmark 25 = .ok (.iconst 1, 1) := by decide +kernel
theorem dX4_unmark_26 : decode cX4_unmark 26 = .ok (.ireturn, 1) := by decide +kernel
theorem dX4_back_0 : decode cX4_back 0 = .ok (.aload_n 0, 1) := by decide +kernel
theorem dX4_back_1 : decode cX4_back 1 = .ok (.getfield 19, 3) := by decide +kernel
theorem dX4_back_4 : decode cX4_back 4 = .ok (.invokevirtual 92, 3) := by decide +kernel
theorem dX4_back_7 : decode cX4_back 7 = .ok (.ifCond .ne 5, 3) := by decide +kernel
theorem dX4_back_10 : decode cX4_back 10 = .ok (.iconst 0, 1) := by decide +kernel
theorem dX4_back_11 : decode cX4_back 11 = .ok (.ireturn, 1) := by decide +kernel
theorem dX4_back_12 : decode cX4_back 12 = .ok (.aload_n 0, 1) := by decide +kernel
theorem dX4_back_13 : decode cX4_back 13 = .ok (.invokevirtual 52, 3) := by decide +kernel
theorem dX4_back_16 : decode cX4_back 16 = .ok (.aload_n 0, 1) := by decide +kernel
theorem dX4_back_17 : decode cX4_back 17 = .ok (.getfield 19, 3) := by decide +kernel
theorem dX4_back_20 : decode cX4_back 20 = .ok (.aload_n 0, 1) := by decide +kernel
theorem dX4_back_21 : decode cX4_back 21 = .ok (.getfield 12, 3) := by decide +kernel
theorem dX4_back_24 : decode cX4_back 24 = .ok (.invokevirtual 96, 3) := by decide +kernel
theorem dX4_back_27 : decode cX4_back 27 = .ok (.iconst 1, 1) := by decide +kernel
theorem dX4_back_28 : decode cX4_back 28 = .ok (.ireturn, 1) := by decide +kernel
theorem dX4_of_0 : decode cX4_of 0 = .ok (.aload_n 0, 1) := by decide +kernel
theorem dX4_of_1 : decode cX4_of 1 = .ok (.getfield 12, 3) := by decide +kernel
theorem dX4_of_4 : decode cX4_of 4 = .ok (.iload_n 1, 1) := by decide +kernel
theorem dX4_of_5 : decode cX4_of 5 = .ok (.invokevirtual 69, 3) := by decide +kernel
theorem dX4_of_8 : decode cX4_of 8 = .ok (.ifCond .ne 5, 3) := by decide +kernel
theorem dX4_of_11 : decode cX4_of 11 = .ok (.iconst (-1), 1) := by decide +kernel
theorem dX4_of_12 : decode cX4_of 12 = .ok (.ireturn, 1) := by decide +kernel
theorem dX4_of_13 : decode cX4_of 13 = .ok (.iload_n 2, 1) := by decide +kernel
theorem dX4_of_14 : decode cX4_of 14 = .ok (.tableswitch 86 0 5 #[38, 38, 38, 51, 60, 69], 38) := by decide +kernel
theorem dX4_of_52 : decode cX4_of 52 = .ok (.aload_n 0, 1) := by decide +kernel
theorem dX4_of_53 : decode cX4_of 53 = .ok (.getfield 12, 3) := by decide +kernel
theorem dX4_of_56 : decode cX4_of 56 = .ok (.iload_n 1, 1) := by decide +kernel
theorem dX4_of_57 : decode cX4_of 57 = .ok (.iload_n 2, 1) := by decide +kernel
theorem dX4_of_58 : decode cX4_of 58 = .ok (.invokestatic 65, 3) := by decide +kernel
theorem dX4_of_61 : decode cX4_of 61 = .ok (.invokevirtual 45, 3) := by decide +kernel
theorem dX4_of_64 : decode cX4_of 64 = .ok (.ireturn, 1) := by decide +kernel
theorem dX4_of_65 : decode cX4_of 65 = .ok (.aload_n 0, 1) := by decide +kernel
theorem dX4_of_66 : decode cX4_of 66 = .ok (.getfield 12, 3) := by decide +kernel
theorem dX4_of_69 : decode cX4_of 69 = .ok (.iload_n 1, 1) := by decide +kernel
theorem dX4_of_70 : decode cX4_of 70 = .ok (.invokevirtual 99, 3) := by decide +kernel
theorem dX4_of_73 : decode cX4_of 73 = .ok (.ireturn, 1) := by decide +kernel
theorem dX4_of_74 : decode cX4_of 74 = .ok (.aload_n 0, 1) := by decide +kernel
theorem dX4_of_75 : decode cX4_of 75 = .ok (.getfield 12, 3) := by decide +kernel
theorem dX4_of_78 : decode cX4_of 78 = .ok (.iload_n 1, 1) := by decide +kernel
theorem dX4_of_79 : decode cX4_of 79 = .ok (.invokevirtual 102, 3) := by decide +kernel
theorem dX4_of_82 : decode cX4_of 82 = .ok (.ireturn, 1) := by decide +kernel
theorem dX4_of_83 : decode cX4_of 83 = .ok (.aload_n 0, 1) := by decide +kernel
theorem dX4_of_84 : decode cX4_of 84 = .ok (.getfield 12, 3) := by decide +kernel
theorem dX4_of_87 : decode cX4_of 87 = .ok (.iload_n 1, 1) := by decide +kernel
theorem dX4_of_88 : decode cX4_of 88 = .ok (.invokevirtual 105, 3) := by decide +kernel
theorem dX4_of_91 : decode cX4_of 91 = .ok (.ifCond .eq 7, 3) := by decide +kernel
theorem dX4_of_94 : decode cX4_of 94 = .ok (.iconst 1, 1) := by decide +kernel
theorem dX4_of_95 : decode cX4_of 95 = .ok (.goto 4, 3) := by decide +kernel
theorem dX4_of_98 : decode cX4_of 98 = .ok (.iconst 0, 1) := by decide +kernel
theorem dX4_of_99 : decode cX4_of 99 = .ok (.ireturn, 1) := by decide +kernel
theorem dX4_of_100 : decode cX4_of 100 = .ok (.iconst (-1), 1) := by decide +kernel
theorem dX4_of_101 : decode cX4_of 101 = .ok (.ireturn, 1) := by decide +kernel
theorem dX4_lift_0 : decode cX4_lift 0 = .ok (.aload_n 0, 1) := by decide +kernel
theorem dX4_lift_1 : decode cX4_lift 1 = .ok (.invokevirtual 108, 3) := by decide +kernel
theorem dX4_lift_4 : decode cX4_lift 4 = .ok (.ifCond .eq 27, 3) := by decide +kernel
theorem dX4_lift_7 : decode cX4_lift 7 = .ok (.aload_n 0, 1) := by decide +kernel
theorem dX4_lift_8 : decode cX4_lift 8 = .ok (.getfield 12, 3) := by decide +kernel
theorem dX4_lift_11 : decode cX4_lift 11 = .ok (.iload_n 1, 1) := by decide +kernel
theorem dX4_lift_12 : decode cX4_lift 12 = .ok (.invokevirtual 79, 3) := by decide +kernel
theorem dX4_lift_15 : decode cX4_lift 15 = .ok (.ifCond .eq 16, 3) := by decide +kernel
theorem dX4_lift_18 : decode cX4_lift 18 = .ok (.aload_n 0, 1) := by decide +kernel
theorem dX4_lift_19 : decode cX4_lift 19 = .ok (.getfield 28, 3) := by decide +kernel
theorem dX4_lift_22 : decode cX4_lift 22 = .ok (.iconst 0, 1) := by decide +kernel
theorem dX4_lift_23 : decode cX4_lift 23 = .ok (.iload_n 1, 1) := by decide +kernel
theorem dX4_lift_24 : decode cX4_lift 24 = .ok (.invokevirtual 112, 3) := by decide +kernel
theorem dX4_lift_27 : decode cX4_lift 27 = .ok (.l2i, 1) := by decide +kernel
theorem dX4_lift_28 : decode cX4_lift 28 = .ok (.goto 4, 3) := by decide +kernel
theorem dX4_lift_31 : decode cX4_lift 31 = .ok (.iconst (-1), 1) := by decide +kernel
theorem dX4_lift_32 : decode cX4_lift 32 = .ok (.ireturn, 1) := by decide +kernel
theorem dX4_diff_0 : decode cX4_diff 0 = .ok (.iload_n 2, 1) := by decide +kernel
theorem dX4_diff_1 : decode cX4_diff 1 = .ok (.invokestatic 116, 3) := by decide +kernel
theorem dX4_diff_4 : decode cX4_diff 4 = .ok (.ifCond .eq 21, 3) := by decide +kernel
theorem dX4_diff_7 : decode cX4_diff 7 = .ok (.aload_n 0, 1) := by decide +kernel
theorem dX4_diff_8 : decode cX4_diff 8 = .ok (.invokevirtual 108, 3) := by decide +kernel
theorem dX4_diff_11 : decode cX4_diff 11 = .ok (.ifCond .eq 14, 3) := by decide +kernel
theorem dX4_diff_14 : decode cX4_diff 14 = .ok (.aload_n 0, 1) := by decide +kernel
theorem dX4_diff_15 : decode cX4_diff 15 = .ok (.getfield 12, 3) := by decide +kernel
theorem dX4_diff_18 : decode cX4_diff 18 = .ok (.iload_n 1, 1) := by decide +kernel
theorem dX4_diff_19 : decode cX4_diff 19 = .ok (.invokevirtual 79, 3) := by decide +kernel
theorem dX4_diff_22 : decode cX4_diff 22 = .ok (.ifCond .ne 11, 3) := by decide +kernel
theorem dX4_diff_25 : decode cX4_diff 25 = .ok (.new 119, 3) := by decide +kernel
theorem dX4_diff_28 : decode cX4_diff 28 = .ok (.dup, 1) := by decide +kernel
theorem dX4_diff_29 : decode cX4_diff 29 = .ok (.invokespecial 121, 3) := by decide +kernel
theorem dX4_diff_32 : decode cX4_diff 32 = .ok (.athrow, 1) := by decide +kernel
theorem dX4_diff_33 : decode cX4_diff 33 = .ok (.aload_n 0, 1) := by decide +kernel
theorem dX4_diff_34 : decode cX4_diff 34 = .ok (.getfield 28, 3) := by decide +kernel
theorem dX4_diff_37 : decode cX4_diff 37 = .ok (.iload_n 2, 1) := by decide +kernel
theorem dX4_diff_38 : decode cX4_diff 38 = .ok (.iload_n 1, 1) := by decide +kernel
theorem dX4_diff_39 : decode cX4_diff 39 = .ok (.invokevirtual 112, 3) := by decide +kernel
theorem dX4_diff_42 : decode cX4_diff 42 = .ok (.l2i, 1) := by decide +kernel
theorem dX4_diff_43 : decode cX4_diff 43 = .ok (.ireturn, 1) := by decide +kernel
theorem dX4_most_0 : decode cX4_most 0 = .ok (.iload_n 1, 1) := by decide +kernel
theorem dX4_most_1 : decode cX4_most 1 = .ok (.invokestatic 116, 3) := by decide +kernel
theorem dX4_most_4 : decode cX4_most 4 = .ok (.ifCond .eq 10, 3) := by decide +kernel
theorem dX4_most_7 : decode cX4_most 7 = .ok (.aload_n 0, 1) := by decide +kernel
theorem dX4_most_8 : decode cX4_most 8 = .ok (.invokevirtual 108, 3) := by decide +kernel
theorem dX4_most_11 : decode cX4_most 11 = .ok (.ifCond .ne 5, 3) := by decide +kernel
theorem dX4_most_14 : decode cX4_most 14 = .ok (.iconst (-1), 1) := by decide +kernel
theorem dX4_most_15 : decode cX4_most 15 = .ok (.ireturn, 1) := by decide +kernel
theorem dX4_most_16 : decode cX4_most 16 = .ok (.iload_n 2, 1) := by decide +kernel
theorem dX4_most_17 : decode cX4_most 17 = .ok (.tableswitch 70 0 2 #[27, 36, 53], 27) := by decide +kernel
theorem dX4_most_44 : decode cX4_most 44 = .ok (.aload_n 0, 1) := by decide +kernel
theorem dX4_most_45 : decode cX4_most 45 = .ok (.getfield 28, 3) := by decide +kernel
theorem dX4_most_48 : decode cX4_most 48 = .ok (.iload_n 1, 1) := by decide +kernel
theorem dX4_most_49 : decode cX4_most 49 = .ok (.invokevirtual 122, 3) := by decide +kernel
theorem dX4_most_52 : decode cX4_most 52 = .ok (.ireturn, 1) := by decide +kernel
theorem dX4_most_53 : decode cX4_most 53 = .ok (.aload_n 0, 1) := by decide +kernel
theorem dX4_most_54 : decode cX4_most 54 = .ok (.getfield 28, 3) := by decide +kernel
theorem dX4_most_57 : decode cX4_most 57 = .ok (.iload_n 1, 1) := by decide +kernel
theorem dX4_most_58 : decode cX4_most 58 = .ok (.aload_n 0, 1) := by decide +kernel
theorem dX4_most_59 : decode cX4_most 59 = .ok (.getfield 28, 3) := by decide +kernel
theorem dX4_most_62 : decode cX4_most 62 = .ok (.iload_n 1, 1) := by decide +kernel
theorem dX4_most_63 : decode cX4_most 63 = .ok (.invokevirtual 122, 3) := by decide +kernel
theorem dX4_most_66 : decode cX4_most 66 = .ok (.invokevirtual 125, 3) := by decide +kernel
theorem dX4_most_69 : decode cX4_most 69 = .ok (.ireturn, 1) := by decide +kernel
theorem dX4_most_70 : decode cX4_most 70 = .ok (.aload_n 0, 1) := by decide +kernel
theorem dX4_most_71 : decode cX4_most 71 = .ok (.getfield 28, 3) := by decide +kernel
theorem dX4_most_74 : decode cX4_most 74 = .ok (.iload_n 1, 1) := by decide +kernel
theorem dX4_most_75 : decode cX4_most 75 = .ok (.aload_n 0, 1) := by decide +kernel
theorem dX4_most_76 : decode cX4_most 76 = .ok (.getfield 28, 3) := by decide +kernel
theorem dX4_most_79 : decode cX4_most 79 = .ok (.iload_n 1, 1) := by decide +kernel
theorem dX4_most_80 : decode cX4_most 80 = .ok (.invokevirtual 122, 3) := by decide +kernel
theorem dX4_most_83 : decode cX4_most 83 = .ok (.invokevirtual 128, 3) := by decide +kernel
theorem dX4_most_86 : decode cX4_most 86 = .ok (.ireturn, 1) := by decide +kernel
theorem dX4_most_87 : decode cX4_most 87 = .ok (.iconst (-1), 1) := by decide +kernel
theorem dX4_most_88 : decode cX4_most 88 = .ok (.ireturn, 1) := by decide +kernel
theorem dX4_border_0 : decode cX4_border 0 = .ok (.aload_n 0, 1) := by decide +kernel
theorem dX4_border_1 : decode cX4_border 1 = .ok (.getfield 12, 3) := by decide +kernel
theorem dX4_border_4 : decode cX4_border 4 = .ok (.iload_n 1, 1) := by decide +kernel
theorem dX4_border_5 : decode cX4_border 5 = .ok (.invokevirtual 69, 3) := by decide +kernel
theorem dX4_border_8 : decode cX4_border 8 = .ok (.ifCond .eq 10, 3) := by decide +kernel
theorem dX4_border_11 : decode cX4_border 11 = .ok (.aload_n 0, 1) := by decide +kernel
theorem dX4_border_12 : decode cX4_border 12 = .ok (.invokevirtual 108, 3) := by decide +kernel
theorem dX4_border_15 : decode cX4_border 15 = .ok (.ifCond .ne 5, 3) := by decide +kernel
theorem dX4_border_18 : decode cX4_border 18 = .ok (.iconst (-1), 1) := by decide +kernel
theorem dX4_border_19 : decode cX4_border 19 = .ok (.ireturn, 1) := by decide +kernel
theorem dX4_border_20 : decode cX4_border 20 = .ok (.aload_n 0, 1) := by decide +kernel
theorem dX4_border_21 : decode cX4_border 21 = .ok (.getfield 28, 3) := by decide +kernel
theorem dX4_border_24 : decode cX4_border 24 = .ok (.aload_n 0, 1) := by decide +kernel
theorem dX4_border_25 : decode cX4_border 25 = .ok (.getfield 12, 3) := by decide +kernel
theorem dX4_border_28 : decode cX4_border 28 = .ok (.iload_n 1, 1) := by decide +kernel
theorem dX4_border_29 : decode cX4_border 29 = .ok (.invokevirtual 102, 3) := by decide +kernel
theorem dX4_border_32 : decode cX4_border 32 = .ok (.invokevirtual 131, 3) := by decide +kernel
theorem dX4_border_35 : decode cX4_border 35 = .ok (.ireturn, 1) := by decide +kernel
theorem dX4_shape_0 : decode cX4_shape 0 = .ok (.iload_n 2, 1) := by decide +kernel
theorem dX4_shape_1 : decode cX4_shape 1 = .ok (.ifCond .lt 26, 3) := by decide +kernel
theorem dX4_shape_4 : decode cX4_shape 4 = .ok (.iload_n 2, 1) := by decide +kernel
theorem dX4_shape_5 : decode cX4_shape 5 = .ok (.iconst 3, 1) := by decide +kernel
theorem dX4_shape_6 : decode cX4_shape 6 = .ok (.if_icmp .gt 21, 3) := by decide +kernel
theorem dX4_shape_9 : decode cX4_shape 9 = .ok (.aload_n 0, 1) := by decide +kernel
theorem dX4_shape_10 : decode cX4_shape 10 = .ok (.invokevirtual 108, 3) := by decide +kernel
theorem dX4_shape_13 : decode cX4_shape 13 = .ok (.ifCond .eq 14, 3) := by decide +kernel
theorem dX4_shape_16 : decode cX4_shape 16 = .ok (.aload_n 0, 1) := by decide +kernel
theorem dX4_shape_17 : decode cX4_shape 17 = .ok (.getfield 12, 3) := by decide +kernel
theorem dX4_shape_20 : decode cX4_shape 20 = .ok (.iload_n 1, 1) := by decide +kernel
theorem dX4_shape_21 : decode cX4_shape 21 = .ok (.invokevirtual 79, 3) := by decide +kernel
theorem dX4_shape_24 : decode cX4_shape 24 = .ok (.ifCond .ne 11, 3) := by decide +kernel
theorem dX4_shape_27 : decode cX4_shape 27 = .ok (.new 119, 3) := by decide +kernel
theorem dX4_shape_30 : decode cX4_shape 30 = .ok (.dup, 1) := by decide +kernel
theorem dX4_shape_31 : decode cX4_shape 31 = .ok (.invokespecial 121, 3) := by decide +kernel
theorem dX4_shape_34 : decode cX4_shape 34 = .ok (.athrow, 1) := by decide +kernel
theorem dX4_shape_35 : decode cX4_shape 35 = .ok (.aload_n 0, 1) := by decide +kernel
theorem dX4_shape_36 : decode cX4_shape 36 = .ok (.getfield 28, 3) := by decide +kernel
theorem dX4_shape_39 : decode cX4_shape 39 = .ok (.iconst 4, 1) := by decide +kernel
theorem dX4_shape_40 : decode cX4_shape 40 = .ok (.iload_n 2, 1) := by decide +kernel
theorem dX4_shape_41 : decode cX4_shape 41 = .ok (.iadd, 1) := by decide +kernel
theorem dX4_shape_42 : decode cX4_shape 42 = .ok (.iload_n 1, 1) := by decide +kernel
theorem dX4_shape_43 : decode cX4_shape 43 = .ok (.invokevirtual 112, 3) := by decide +kernel
theorem dX4_shape_46 : decode cX4_shape 46 = .ok (.lreturn, 1) := by decide +kernel
theorem dX4_undercut_0 : decode cX4_undercut 0 = .ok (.aload_n 0, 1) := by decide +kernel
theorem dX4_undercut_1 : decode cX4_undercut 1 = .ok (.invokevirtual 108, 3) := by decide +kernel
theorem dX4_undercut_4 : decode cX4_undercut 4 = .ok (.ifCond .eq 28, 3) := by decide +kernel
theorem dX4_undercut_7 : decode cX4_undercut 7 = .ok (.aload_n 0, 1) := by decide +kernel
theorem dX4_undercut_8 : decode cX4_undercut 8 = .ok (.getfield 12, 3) := by decide +kernel
theorem dX4_undercut_11 : decode cX4_undercut 11 = .ok (.iload_n 1, 1) := by decide +kernel
theorem dX4_undercut_12 : decode cX4_undercut 12 = .ok (.invokevirtual 79, 3) := by decide +kernel
theorem dX4_undercut_15 : decode cX4_undercut 15 = .ok (.ifCond .eq 17, 3) := by decide +kernel
theorem dX4_undercut_18 : decode cX4_undercut 18 = .ok (.aload_n 0, 1) := by decide +kernel
theorem dX4_undercut_19 : decode cX4_undercut 19 = .ok (.getfield 28, 3) := by decide +kernel
theorem dX4_undercut_22 : decode cX4_undercut 22 = .ok (.bipush 8, 2) := by decide +kernel
theorem dX4_undercut_24 : decode cX4_undercut 24 = .ok (.iload_n 1, 1) := by decide +kernel
theorem dX4_undercut_25 : decode cX4_undercut 25 = .ok (.invokevirtual 112, 3) := by decide +kernel
theorem dX4_undercut_28 : decode cX4_undercut 28 = .ok (.l2i, 1) := by decide +kernel
theorem dX4_undercut_29 : decode cX4_undercut 29 = .ok (.goto 4, 3) := by decide +kernel
theorem dX4_undercut_32 : decode cX4_undercut 32 = .ok (.iconst (-1), 1) := by decide +kernel
theorem dX4_undercut_33 : decode cX4_undercut 33 = .ok (.ireturn, 1) := by decide +kernel
theorem dX4_press_0 : decode cX4_press 0 = .ok (.aload_n 0, 1) := by decide +kernel
theorem dX4_press_1 : decode cX4_press 1 = .ok (.invokevirtual 108, 3) := by decide +kernel
theorem dX4_press_4 : decode cX4_press 4 = .ok (.ifCond .eq 28, 3) := by decide +kernel
theorem dX4_press_7 : decode cX4_press 7 = .ok (.aload_n 0, 1) := by decide +kernel
theorem dX4_press_8 : decode cX4_press 8 = .ok (.getfield 12, 3) := by decide +kernel
theorem dX4_press_11 : decode cX4_press 11 = .ok (.iload_n 1, 1) := by decide +kernel
theorem dX4_press_12 : decode cX4_press 12 = .ok (.invokevirtual 79, 3) := by decide +kernel
theorem dX4_press_15 : decode cX4_press 15 = .ok (.ifCond .eq 17, 3) := by decide +kernel
theorem dX4_press_18 : decode cX4_press 18 = .ok (.aload_n 0, 1) := by decide +kernel
theorem dX4_press_19 : decode cX4_press 19 = .ok (.getfield 28, 3) := by decide +kernel
theorem dX4_press_22 : decode cX4_press 22 = .ok (.bipush 9, 2) := by decide +kernel
theorem dX4_press_24 : decode cX4_press 24 = .ok (.iload_n 1, 1) := by decide +kernel
theorem dX4_press_25 : decode cX4_press 25 = .ok (.invokevirtual 112, 3) := by decide +kernel
theorem dX4_press_28 : decode cX4_press 28 = .ok (.l2i, 1) := by decide +kernel
theorem dX4_press_29 : decode cX4_press 29 = .ok (.goto 4, 3) := by decide +kernel
theorem dX4_press_32 : decode cX4_press 32 = .ok (.iconst (-1), 1) := by decide +kernel
theorem dX4_press_33 : decode cX4_press 33 = .ok (.ireturn, 1) := by decide +kernel
theorem dX4_force_0 : decode cX4_force 0 = .ok (.aload_n 0, 1) := by decide +kernel
theorem dX4_force_1 : decode cX4_force 1 = .ok (.invokevirtual 108, 3) := by decide +kernel
theorem dX4_force_4 : decode cX4_force 4 = .ok (.ifCond .eq 14, 3) := by decide +kernel
theorem dX4_force_7 : decode cX4_force 7 = .ok (.aload_n 0, 1) := by decide +kernel
theorem dX4_force_8 : decode cX4_force 8 = .ok (.getfield 12, 3) := by decide +kernel
theorem dX4_force_11 : decode cX4_force 11 = .ok (.iload_n 1, 1) := by decide +kernel
theorem dX4_force_12 : decode cX4_force 12 = .ok (.invokevirtual 79, 3) := by decide +kernel
theorem dX4_force_15 : decode cX4_force 15 = .ok (.ifCond .ne 11, 3) := by decide +kernel
theorem dX4_force_18 : decode cX4_force 18 = .ok (.new 119, 3) := by decide +kernel
theorem dX4_force_21 : decode cX4_force 21 = .ok (.dup, 1) := by decide +kernel
theorem dX4_force_22 : decode cX4_force 22 = .ok (.invokespecial 121, 3) := by decide +kernel
theorem dX4_force_25 : decode cX4_force 25 = .ok (.athrow, 1) := by decide +kernel
theorem dX4_force_26 : decode cX4_force 26 = .ok (.aload_n 0, 1) := by decide +kernel
theorem dX4_force_27 : decode cX4_force 27 = .ok (.getfield 28, 3) := by decide +kernel
theorem dX4_force_30 : decode cX4_force 30 = .ok (.bipush 10, 2) := by decide +kernel
theorem dX4_force_32 : decode cX4_force 32 = .ok (.iload_n 1, 1) := by decide +kernel
theorem dX4_force_33 : decode cX4_force 33 = .ok (.invokevirtual 112, 3) := by decide +kernel
theorem dX4_force_36 : decode cX4_force 36 = .ok (.lreturn, 1) := by decide +kernel
theorem dX4_bad_0 : decode cX4_bad 0 = .ok (.iload_n 1, 1) := by decide +kernel
theorem dX4_bad_1 : decode cX4_bad 1 = .ok (.ifCond .lt 20, 3) := by decide +kernel
theorem dX4_bad_4 : decode cX4_bad 4 = .ok (.iload_n 1, 1) := by decide +kernel
theorem dX4_bad_5 : decode cX4_bad 5 = .ok (.iconst 3, 1) := by decide +kernel
theorem dX4_bad_6 : decode cX4_bad 6 = .ok (.if_icmp .gt 15, 3) := by decide +kernel
theorem dX4_bad_9 : decode cX4_bad 9 = .ok (.iload_n 2, 1) := by decide +kernel
theorem dX4_bad_10 : decode cX4_bad 10 = .ok (.iconst (-1), 1) := by decide +kernel
theorem dX4_bad_11 : decode cX4_bad 11 = .ok (.if_icmp .lt 10, 3) := by decide +kernel
theorem dX4_bad_14 : decode cX4_bad 14 = .ok (.aload_n 0, 1) := by decide +kernel
theorem dX4_bad_15 : decode cX4_bad 15 = .ok (.invokevirtual 108, 3) := by decide +kernel
theorem dX4_bad_18 : decode cX4_bad 18 = .ok (.ifCond .ne 5, 3) := by decide +kernel
theorem dX4_bad_21 : decode cX4_bad 21 = .ok (.iconst (-1), 1) := by decide +kernel
theorem dX4_bad_22 : decode cX4_bad 22 = .ok (.ireturn, 1) := by decide +kernel
theorem dX4_bad_23 : decode cX4_bad 23 = .ok (.iload_n 2, 1) := by decide +kernel
theorem dX4_bad_24 : decode cX4_bad 24 = .ok (.iconst (-1), 1) := by decide +kernel
theorem dX4_bad_25 : decode cX4_bad 25 = .ok (.if_icmp .ne 14, 3) := by decide +kernel
theorem dX4_bad_28 : decode cX4_bad 28 = .ok (.aload_n 0, 1) := by decide +kernel
theorem dX4_bad_29 : decode cX4_bad 29 = .ok (.getfield 28, 3) := by decide +kernel
theorem dX4_bad_32 : decode cX4_bad 32 = .ok (.iload_n 1, 1) := by decide +kernel
theorem dX4_bad_33 : decode cX4_bad 33 = .ok (.invokevirtual 134, 3) := by decide +kernel
theorem dX4_bad_36 : decode cX4_bad 36 = .ok (.goto 12, 3) := by decide +kernel
theorem dX4_bad_39 : decode cX4_bad 39 = .ok (.aload_n 0, 1) := by decide +kernel
theorem dX4_bad_40 : decode cX4_bad 40 = .ok (.getfield 28, 3) := by decide +kernel
theorem dX4_bad_43 : decode cX4_bad 43 = .ok (.iload_n 1, 1) := by decide +kernel
theorem dX4_bad_44 : decode cX4_bad 44 = .ok (.iload_n 2, 1) := by decide +kernel
theorem dX4_bad_45 : decode cX4_bad 45 = .ok (.invokevirtual 137, 3) := by decide +kernel
theorem dX4_bad_48 : decode cX4_bad 48 = .ok (.ireturn, 1) := by decide +kernel
theorem dX4_top_0 : decode cX4_top 0 = .ok (.aload_n 0, 1) := by decide +kernel
theorem dX4_top_1 : decode cX4_top 1 = .ok (.invokevirtual 108, 3) := by decide +kernel
theorem dX4_top_4 : decode cX4_top 4 = .ok (.ifCond .ne 5, 3) := by decide +kernel
theorem dX4_top_7 : decode cX4_top 7 = .ok (.iconst (-1), 1) := by decide +kernel
theorem dX4_top_8 : decode cX4_top 8 = .ok (.ireturn, 1) := by decide +kernel
theorem dX4_top_9 : decode cX4_top 9 = .ok (.iload_n 1, 1) := by decide +kernel
theorem dX4_top_10 : decode cX4_top 10 = .ok (.tableswitch 113 0 5 #[38, 58, 68, 78, 96, 105], 38) := by decide +kernel
theorem dX4_top_48 : decode cX4_top 48 = .ok (.aload_n 0, 1) := by decide +kernel
theorem dX4_top_49 : decode cX4_top 49 = .ok (.getfield 28, 3) := by decide +kernel
theorem dX4_top_52 : decode cX4_top 52 = .ok (.bipush 9, 2) := by decide +kernel
theorem dX4_top_54 : decode cX4_top 54 = .ok (.aload_n 0, 1) := by decide +kernel
theorem dX4_top_55 : decode cX4_top 55 = .ok (.getfield 28, 3) := by decide +kernel
theorem dX4_top_58 : decode cX4_top 58 = .ok (.bipush 9, 2) := by decide +kernel
theorem dX4_top_60 : decode cX4_top 60 = .ok (.invokevirtual 140, 3) := by decide +kernel
theorem dX4_top_63 : decode cX4_top 63 = .ok (.invokevirtual 112, 3) := by decide +kernel
theorem dX4_top_66 : decode cX4_top 66 = .ok (.l2i, 1) := by decide +kernel
theorem dX4_top_67 : decode cX4_top 67 = .ok (.ireturn, 1) := by decide +kernel
theorem dX4_top_68 : decode cX4_top 68 = .ok (.aload_n 0, 1) := by decide +kernel
theorem dX4_top_69 : decode cX4_top 69 = .ok (.getfield 28, 3) := by decide +kernel
theorem dX4_top_72 : decode cX4_top 72 = .ok (.bipush 9, 2) := by decide +kernel
theorem dX4_top_74 : decode cX4_top 74 = .ok (.invokevirtual 140, 3) := by decide +kernel
theorem dX4_top_77 : decode cX4_top 77 = .ok (.ireturn, 1) := by decide +kernel
theorem dX4_top_78 : decode cX4_top 78 = .ok (.aload_n 0, 1) := by decide +kernel
theorem dX4_top_79 : decode cX4_top 79 = .ok (.getfield 28, 3) := by decide +kernel
theorem dX4_top_82 : decode cX4_top 82 = .ok (.bipush 10, 2) := by decide +kernel
theorem dX4_top_84 : decode cX4_top 84 = .ok (.invokevirtual 143, 3) := by decide +kernel
theorem dX4_top_87 : decode cX4_top 87 = .ok (.ireturn, 1) := by decide +kernel
theorem dX4_top_88 : decode cX4_top 88 = .ok (.aload_n 0, 1) := by decide +kernel
theorem dX4_top_89 : decode cX4_top 89 = .ok (.getfield 28, 3) := by decide +kernel
theorem dX4_top_92 : decode cX4_top 92 = .ok (.iconst 0, 1) := by decide +kernel
theorem dX4_top_93 : decode cX4_top 93 = .ok (.aload_n 0, 1) := by decide +kernel
theorem dX4_top_94 : decode cX4_top 94 = .ok (.getfield 28, 3) := by decide +kernel
theorem dX4_top_97 : decode cX4_top 97 = .ok (.iconst 0, 1) := by decide +kernel
theorem dX4_top_98 : decode cX4_top 98 = .ok (.invokevirtual 140, 3) := by decide +kernel
theorem dX4_top_101 : decode cX4_top 101 = .ok (.invokevirtual 112, 3) := by decide +kernel
theorem dX4_top_104 : decode cX4_top 104 = .ok (.l2i, 1) := by decide +kernel
theorem dX4_top_105 : decode cX4_top 105 = .ok (.ireturn, 1) := by decide +kernel
theorem dX4_top_106 : decode cX4_top 106 = .ok (.aload_n 0, 1) := by decide +kernel
theorem dX4_top_107 : decode cX4_top 107 = .ok (.getfield 28, 3) := by decide +kernel
theorem dX4_top_110 : decode cX4_top 110 = .ok (.iconst 0, 1) := by decide +kernel
theorem dX4_top_111 : decode cX4_top 111 = .ok (.invokevirtual 140, 3) := by decide +kernel
theorem dX4_top_114 : decode cX4_top 114 = .ok (.ireturn, 1) := by decide +kernel
theorem dX4_top_115 : decode cX4_top 115 = .ok (.aload_n 0, 1) := by decide +kernel
theorem dX4_top_116 : decode cX4_top 116 = .ok (.getfield 28, 3) := by decide +kernel
theorem dX4_top_119 : decode cX4_top 119 = .ok (.invokevirtual 146, 3) := by decide +kernel
theorem dX4_top_122 : decode cX4_top 122 = .ok (.ireturn, 1) := by decide +kernel
theorem dX4_top_123 : decode cX4_top 123 = .ok (.iconst (-1), 1) := by decide +kernel
theorem dX4_top_124 : decode cX4_top 124 = .ok (.ireturn, 1) := by decide +kernel
theorem dX4_met_0 : decode cX4_met 0 = .ok (.aload_n 0, 1) := by decide +kernel
theorem dX4_met_1 : decode cX4_met 1 = .ok (.invokevirtual 108, 3) := by decide +kernel
theorem dX4_met_4 : decode cX4_met 4 = .ok (.ifCond .eq 13, 3) := by decide +kernel
theorem dX4_met_7 : decode cX4_met 7 = .ok (.aload_n 0, 1) := by decide +kernel
theorem dX4_met_8 : decode cX4_met 8 = .ok (.getfield 28, 3) := by decide +kernel
theorem dX4_met_11 : decode cX4_met 11 = .ok (.invokevirtual 149, 3) := by decide +kernel
theorem dX4_met_14 : decode cX4_met 14 = .ok (.goto 4, 3) := by decide +kernel
theorem dX4_met_17 : decode cX4_met 17 = .ok (.iconst (-1), 1) := by decide +kernel
theorem dX4_met_18 : decode cX4_met 18 = .ok (.ireturn, 1) := by decide +kernel
theorem dX4_marked_0 : decode cX4_marked 0 = .ok (.aload_n 0, 1) := by decide +kernel
theorem dX4_marked_1 : decode cX4_marked 1 = .ok (.getfield 12, 3) := by decide +kernel
theorem dX4_marked_4 : decode cX4_marked 4 = .ok (.iload_n 1, 1) := by decide +kernel
theorem dX4_marked_5 : decode cX4_marked 5 = .ok (.invokevirtual 85, 3) := by decide +kernel
theorem dX4_marked_8 : decode cX4_marked 8 = .ok (.ifCond .eq 12, 3) := by decide +kernel
theorem dX4_marked_11 : decode cX4_marked 11 = .ok (.iload_n 2, 1) := by decide +kernel
theorem dX4_marked_12 : decode cX4_marked 12 = .ok (.ifCond .lt 8, 3) := by decide +kernel
theorem dX4_marked_15 : decode cX4_marked 15 = .ok (.iload_n 2, 1) := by decide +kernel
theorem dX4_marked_16 : decode cX4_marked 16 = .ok (.iconst 3, 1) := by decide +kernel
theorem dX4_marked_17 : decode cX4_marked 17 = .ok (.if_icmp .le 5, 3) := by decide +kernel
theorem dX4_marked_20 : decode cX4_marked 20 = .ok (.iconst (-1), 1) := by decide +kernel
theorem dX4_marked_21 : decode cX4_marked 21 = .ok (.ireturn, 1) := by decide +kernel
theorem dX4_marked_22 : decode cX4_marked 22 = .ok (.iload_n 2, 1) := by decide +kernel
theorem dX4_marked_23 : decode cX4_marked 23 = .ok (.iconst 3, 1) := by decide +kernel
theorem dX4_marked_24 : decode cX4_marked 24 = .ok (.if_icmp .ne 23, 3) := by decide +kernel
theorem dX4_marked_27 : decode cX4_marked 27 = .ok (.aload_n 0, 1) := by decide +kernel
theorem dX4_marked_28 : decode cX4_marked 28 = .ok (.invokevirtual 108, 3) := by decide +kernel
theorem dX4_marked_31 : decode cX4_marked 31 = .ok (.ifCond .eq 14, 3) := by decide +kernel
theorem dX4_marked_34 : decode cX4_marked 34 = .ok (.aload_n 0, 1) := by decide +kernel
theorem dX4_marked_35 : decode cX4_marked 35 = .ok (.getfield 28, 3) := by decide +kernel
theorem dX4_marked_38 : decode cX4_marked 38 = .ok (.iload_n 1, 1) := by decide +kernel
theorem dX4_marked_39 : decode cX4_marked 39 = .ok (.invokevirtual 152, 3) := by decide +kernel
theorem dX4_marked_42 : decode cX4_marked 42 = .ok (.goto 4, 3) := by decide +kernel
theorem dX4_marked_45 : decode cX4_marked 45 = .ok (.iconst (-1), 1) := by decide +kernel
theorem dX4_marked_46 : decode cX4_marked 46 = .ok (.ireturn, 1) := by decide +kernel
theorem dX4_marked_47 : decode cX4_marked 47 = .ok (.aload_n 0, 1) := by decide +kernel
theorem dX4_marked_48 : decode cX4_marked 48 = .ok (.getfield 12, 3) := by decide +kernel
theorem dX4_marked_51 : decode cX4_marked 51 = .ok (.iload_n 1, 1) := by decide +kernel
theorem dX4_marked_52 : decode cX4_marked 52 = .ok (.iload_n 2, 1) := by decide +kernel
theorem dX4_marked_53 : decode cX4_marked 53 = .ok (.invokestatic 82, 3) := by decide +kernel
theorem dX4_marked_56 : decode cX4_marked 56 = .ok (.invokevirtual 45, 3) := by decide +kernel
theorem dX4_marked_59 : decode cX4_marked 59 = .ok (.ireturn, 1) := by decide +kernel
theorem dX4_best_0 : decode cX4_best 0 = .ok (.aload_n 0, 1) := by decide +kernel
theorem dX4_best_1 : decode cX4_best 1 = .ok (.getfield 12, 3) := by decide +kernel
theorem dX4_best_4 : decode cX4_best 4 = .ok (.invokevirtual 155, 3) := by decide +kernel
theorem dX4_best_7 : decode cX4_best 7 = .ok (.ifCond .eq 15, 3) := by decide +kernel
theorem dX4_best_10 : decode cX4_best 10 = .ok (.aload_n 0, 1) := by decide +kernel
theorem dX4_best_11 : decode cX4_best 11 = .ok (.getfield 12, 3) := by decide +kernel
theorem dX4_best_14 : decode cX4_best 14 = .ok (.invokevirtual 158, 3) := by decide +kernel
theorem dX4_best_17 : decode cX4_best 17 = .ok (.bipush 6, 2) := by decide +kernel
theorem dX4_best_19 : decode cX4_best 19 = .ok (.if_icmp .le 5, 3) := by decide +kernel
theorem dX4_best_22 : decode cX4_best 22 = .ok (.iconst (-1), 1) := by decide +kernel
theorem dX4_best_23 : decode cX4_best 23 = .ok (.ireturn, 1) := by decide +kernel
theorem dX4_best_24 : decode cX4_best 24 = .ok (.aload_n 0, 1) := by decide +kernel
theorem dX4_best_25 : decode cX4_best 25 = .ok (.getfield 37, 3) := by decide +kernel
theorem dX4_best_28 : decode cX4_best 28 = .ok (.invokevirtual 161, 3) := by decide +kernel
theorem dX4_best_31 : decode cX4_best 31 = .ok (.iload_n 1, 1) := by decide +kernel
theorem dX4_best_32 : decode cX4_best 32 = .ok (.ifCond .lt 33, 3) := by decide +kernel
theorem dX4_best_35 : decode cX4_best 35 = .ok (.iload_n 1, 1) := by decide +kernel
theorem dX4_best_36 : decode cX4_best 36 = .ok (.bipush 12, 2) := by decide +kernel
theorem dX4_best_38 : decode cX4_best 38 = .ok (.if_icmp .ge 27, 3) := by decide +kernel
theorem dX4_best_41 : decode cX4_best 41 = .ok (.aload_n 0, 1) := by decide +kernel
theorem dX4_best_42 : decode cX4_best 42 = .ok (.getfield 12, 3) := by decide +kernel
theorem dX4_best_45 : decode cX4_best 45 = .ok (.iload_n 1, 1) := by decide +kernel
theorem dX4_best_46 : decode cX4_best 46 = .ok (.invokevirtual 69, 3) := by decide +kernel
theorem dX4_best_49 : decode cX4_best 49 = .ok (.ifCond .eq 14, 3) := by decide +kernel
theorem dX4_best_52 : decode cX4_best 52 = .ok (.aload_n 0, 1) := by decide +kernel
theorem dX4_best_53 : decode cX4_best 53 = .ok (.getfield 37, 3) := by decide +kernel
theorem dX4_best_56 : decode cX4_best 56 = .ok (.iload_n 1, 1) := by decide +kernel
theorem dX4_best_57 : decode cX4_best 57 = .ok (.invokevirtual 164, 3) := by decide +kernel
theorem dX4_best_60 : decode cX4_best 60 = .ok (.goto 4, 3) := by decide +kernel
theorem dX4_best_63 : decode cX4_best 63 = .ok (.iconst (-1), 1) := by decide +kernel
theorem dX4_best_64 : decode cX4_best 64 = .ok (.ireturn, 1) := by decide +kernel
theorem dX4_best_65 : decode cX4_best 65 = .ok (.iload_n 1, 1) := by decide +kernel
theorem dX4_best_66 : decode cX4_best 66 = .ok (.tableswitch 58 12 14 #[26, 34, 42], 26) := by decide +kernel
theorem dX4_best_92 : decode cX4_best 92 = .ok (.aload_n 0, 1) := by decide +kernel
theorem dX4_best_93 : decode cX4_best 93 = .ok (.getfield 37, 3) := by decide +kernel
theorem dX4_best_96 : decode cX4_best 96 = .ok (.invokevirtual 167, 3) := by decide +kernel
theorem dX4_best_99 : decode cX4_best 99 = .ok (.ireturn, 1) := by decide +kernel
theorem dX4_best_100 : decode cX4_best 100 = .ok (.aload_n 0, 1) := by decide +kernel
theorem dX4_best_101 : decode cX4_best 101 = .ok (.getfield 37, 3) := by decide +kernel
theorem dX4_best_104 : decode cX4_best 104 = .ok (.invokevirtual 170, 3) := by decide +kernel
theorem dX4_best_107 : decode cX4_best 107 = .ok (.ireturn, 1) := by decide +kernel
theorem dX4_best_108 : decode cX4_best 108 = .ok (.aload_n 0, 1) := by decide +kernel
theorem dX4_best_109 : decode cX4_best 109 = .ok (.getfield 37, 3) := by decide +kernel
theorem dX4_best_112 : decode cX4_best 112 = .ok (.invokevirtual 173, 3) := by decide +kernel
theorem dX4_best_115 : decode cX4_best 115 = .ok (.ifCond .eq 7, 3) := by decide +kernel
theorem dX4_best_118 : decode cX4_best 118 = .ok (.iconst 1, 1) := by decide +kernel
theorem dX4_best_119 : decode cX4_best 119 = .ok (.goto 4, 3) := by decide +kernel
theorem dX4_best_122 : decode cX4_best 122 = .ok (.iconst 0, 1) := by decide +kernel
theorem dX4_best_123 : decode cX4_best 123 = .ok (.ireturn, 1) := by decide +kernel
theorem dX4_best_124 : decode cX4_best 124 = .ok (.iconst (-1), 1) := by decide +kernel
theorem dX4_best_125 : decode cX4_best 125 = .ok (.ireturn, 1) := by decide +kernel
theorem dX4_limit_0 : decode cX4_limit 0 = .ok (.aload_n 0, 1) := by decide +kernel
theorem dX4_limit_1 : decode cX4_limit 1 = .ok (.invokevirtual 108, 3) := by decide +kernel
theorem dX4_limit_4 : decode cX4_limit 4 = .ok (.ifCond .ne 5, 3) := by decide +kernel
theorem dX4_limit_7 : decode cX4_limit 7 = .ok (.iconst (-1), 1) := by decide +kernel
theorem dX4_limit_8 : decode cX4_limit 8 = .ok (.ireturn, 1) := by decide +kernel
theorem dX4_limit_9 : decode cX4_limit 9 = .ok (.iload_n 1, 1) := by decide +kernel
theorem dX4_limit_10 : decode cX4_limit 10 = .ok (.tableswitch 50 0 2 #[26, 34, 42], 26) := by decide +kernel
theorem dX4_limit_36 : decode cX4_limit 36 = .ok (.aload_n 0, 1) := by decide +kernel
theorem dX4_limit_37 : decode cX4_limit 37 = .ok (.getfield 28, 3) := by decide +kernel
theorem dX4_limit_40 : decode cX4_limit 40 = .ok (.invokevirtual 176, 3) := by decide +kernel
theorem dX4_limit_43 : decode cX4_limit 43 = .ok (.ireturn, 1) := by decide +kernel
theorem dX4_limit_44 : decode cX4_limit 44 = .ok (.aload_n 0, 1) := by decide +kernel
theorem dX4_limit_45 : decode cX4_limit 45 = .ok (.getfield 28, 3) := by decide +kernel
theorem dX4_limit_48 : decode cX4_limit 48 = .ok (.invokevirtual 179, 3) := by decide +kernel
theorem dX4_limit_51 : decode cX4_limit 51 = .ok (.ireturn, 1) := by decide +kernel
theorem dX4_limit_52 : decode cX4_limit 52 = .ok (.aload_n 0, 1) := by decide +kernel
theorem dX4_limit_53 : decode cX4_limit 53 = .ok (.getfield 28, 3) := by decide +kernel
theorem dX4_limit_56 : decode cX4_limit 56 = .ok (.invokevirtual 182, 3) := by decide +kernel
theorem dX4_limit_59 : decode cX4_limit 59 = .ok (.ireturn, 1) := by decide +kernel
theorem dX4_limit_60 : decode cX4_limit 60 = .ok (.iconst (-1), 1) := by decide +kernel
theorem dX4_limit_61 : decode cX4_limit 61 = .ok (.ireturn, 1) := by decide +kernel
theorem dX4_count_0 : decode cX4_count 0 = .ok (.iload_n 1, 1) := by decide +kernel
theorem dX4_count_1 : decode cX4_count 1 = .ok (.ifCond .lt 18, 3) := by decide +kernel
theorem dX4_count_4 : decode cX4_count 4 = .ok (.iload_n 1, 1) := by decide +kernel
theorem dX4_count_5 : decode cX4_count 5 = .ok (.bipush 12, 2) := by decide +kernel
theorem dX4_count_7 : decode cX4_count 7 = .ok (.if_icmp .ge 12, 3) := by decide +kernel
theorem dX4_count_10 : decode cX4_count 10 = .ok (.aload_n 0, 1) := by decide +kernel
theorem dX4_count_11 : decode cX4_count 11 = .ok (.getfield 12, 3) := by decide +kernel
theorem dX4_count_14 : decode cX4_count 14 = .ok (.iload_n 1, 1) := by decide +kernel
theorem dX4_count_15 : decode cX4_count 15 = .ok (.invokevirtual 45, 3) := by decide +kernel
theorem dX4_count_18 : decode cX4_count 18 = .ok (.ireturn, 1) := by decide +kernel
theorem dX4_count_19 : decode cX4_count 19 = .ok (.iload_n 1, 1) := by decide +kernel
theorem dX4_count_20 : decode cX4_count 20 = .ok (.tableswitch 95 12 15 #[32, 48, 71, 79], 32) := by decide +kernel
theorem dX4_count_52 : decode cX4_count 52 = .ok (.aload_n 0, 1) := by decide +kernel
theorem dX4_count_53 : decode cX4_count 53 = .ok (.getfield 12, 3) := by decide +kernel
theorem dX4_count_56 : decode cX4_count 56 = .ok (.invokevirtual 155, 3) := by decide +kernel
theorem dX4_count_59 : decode cX4_count 59 = .ok (.ifCond .eq 7, 3) := by decide +kernel
theorem dX4_count_62 : decode cX4_count 62 = .ok (.iconst 1, 1) := by decide +kernel
theorem dX4_count_63 : decode cX4_count 63 = .ok (.goto 4, 3) := by decide +kernel
theorem dX4_count_66 : decode cX4_count 66 = .ok (.iconst 0, 1) := by decide +kernel
theorem dX4_count_67 : decode cX4_count 67 = .ok (.ireturn, 1) := by decide +kernel
theorem dX4_count_68 : decode cX4_count 68 = .ok (.aload_n 0, 1) := by decide +kernel
theorem dX4_count_69 : decode cX4_count 69 = .ok (.invokevirtual 108, 3) := by decide +kernel
theorem dX4_count_72 : decode cX4_count 72 = .ok (.ifCond .eq 17, 3) := by decide +kernel
theorem dX4_count_75 : decode cX4_count 75 = .ok (.aload_n 0, 1) := by decide +kernel
theorem dX4_count_76 : decode cX4_count 76 = .ok (.getfield 28, 3) := by decide +kernel
theorem dX4_count_79 : decode cX4_count 79 = .ok (.invokevirtual 185, 3) := by decide +kernel
theorem dX4_count_82 : decode cX4_count 82 = .ok (.ifCond .eq 7, 3) := by decide +kernel
theorem dX4_count_85 : decode cX4_count 85 = .ok (.iconst 1, 1) := by decide +kernel
theorem dX4_count_86 : decode cX4_count 86 = .ok (.goto 4, 3) := by decide +kernel
theorem dX4_count_89 : decode cX4_count 89 = .ok (.iconst 0, 1) := by decide +kernel
theorem dX4_count_90 : decode cX4_count 90 = .ok (.ireturn, 1) := by decide +kernel
theorem dX4_count_91 : decode cX4_count 91 = .ok (.aload_n 0, 1) := by decide +kernel
theorem dX4_count_92 : decode cX4_count 92 = .ok (.getfield 19, 3) := by decide +kernel
theorem dX4_count_95 : decode cX4_count 95 = .ok (.invokevirtual 92, 3) := by decide +kernel
theorem dX4_count_98 : decode cX4_count 98 = .ok (.ireturn, 1) := by decide +kernel
theorem dX4_count_99 : decode cX4_count 99 = .ok (.aload_n 0, 1) := by decide +kernel
theorem dX4_count_100 : decode cX4_count 100 = .ok (.getfield 12, 3) := by decide +kernel
theorem dX4_count_103 : decode cX4_count 103 = .ok (.aload_n 0, 1) := by decide +kernel
theorem dX4_count_104 : decode cX4_count 104 = .ok (.getfield 12, 3) := by decide +kernel
theorem dX4_count_107 : decode cX4_count 107 = .ok (.iconst 1, 1) := by decide +kernel
theorem dX4_count_108 : decode cX4_count 108 = .ok (.invokevirtual 45, 3) := by decide +kernel
theorem dX4_count_111 : decode cX4_count 111 = .ok (.invokevirtual 102, 3) := by decide +kernel
theorem dX4_count_114 : decode cX4_count 114 = .ok (.ireturn, 1) := by decide +kernel
theorem dX4_count_115 : decode cX4_count 115 = .ok (.iconst (-1), 1) := by decide +kernel
theorem dX4_count_116 : decode cX4_count 116 = .ok (.ireturn, 1) := by decide +kernel
theorem dX4_change_0 : decode cX4_change 0 = .ok (.iload_n 1, 1) := by decide +kernel
theorem dX4_change_1 : decode cX4_change 1 = .ok (.iload_n 2, 1) := by decide +kernel
theorem dX4_change_2 : decode cX4_change 2 = .ok (.invokestatic 41, 3) := by decide +kernel
theorem dX4_change_5 : decode cX4_change 5 = .ok (.ifCond .ne 5, 3) := by decide +kernel
theorem dX4_change_8 : decode cX4_change 8 = .ok (.iconst (-1), 1) := by decide +kernel
theorem dX4_change_9 : decode cX4_change 9 = .ok (.ireturn, 1) := by decide +kernel
theorem dX4_change_10 : decode cX4_change 10 = .ok (.aload_n 0, 1) := by decide +kernel
theorem dX4_change_11 : decode cX4_change 11 = .ok (.invokevirtual 62, 3) := by decide +kernel
theorem dX4_change_14 : decode cX4_change 14 = .ok (.aload_n 0, 1) := by decide +kernel
theorem dX4_change_15 : decode cX4_change 15 = .ok (.getfield 12, 3) := by decide +kernel
theorem dX4_change_18 : decode cX4_change 18 = .ok (.iload_n 1, 1) := by decide +kernel
theorem dX4_change_19 : decode cX4_change 19 = .ok (.iload_n 2, 1) := by decide +kernel
theorem dX4_change_20 : decode cX4_change 20 = .ok (.invokevirtual 73, 3) := by decide +kernel
theorem dX4_change_23 : decode cX4_change 23 = .ok (.ireturn, 1) := by decide +kernel
theorem dX4_remember_0 : decode cX4_remember 0 = .ok (.aload_n 0, 1) := by decide +kernel
theorem dX4_remember_1 : decode cX4_remember 1 = .ok (.getfield 19, 3) := by decide +kernel
theorem dX4_remember_4 : decode cX4_remember 4 = .ok (.aload_n 0, 1) := by decide +kernel
theorem dX4_remember_5 : decode cX4_remember 5 = .ok (.getfield 12, 3) := by decide +kernel
theorem dX4_remember_8 : decode cX4_remember 8 = .ok (.invokevirtual 186, 3) := by decide +kernel
theorem dX4_remember_11 : decode cX4_remember 11 = .ok (.aload_n 0, 1) := by decide +kernel
theorem dX4_remember_12 : decode cX4_remember 12 = .ok (.invokevirtual 52, 3) := by decide +kernel
theorem dX4_remember_15 : decode cX4_remember 15 = .ok (.return_, 1) := by decide +kernel
theorem dX4_outdate_0 : decode cX4_outdate 0 = .ok (.aload_n 0, 1) := by decide +kernel
theorem dX4_outdate_1 : decode cX4_outdate 1 = .ok (.getfield 28, 3) := by decide +kernel
theorem dX4_outdate_4 : decode cX4_outdate 4 = .ok (.invokevirtual 189, 3) := by decide +kernel
theorem dX4_outdate_7 : decode cX4_outdate 7 = .ok (.aload_n 0, 1) := by decide +kernel
theorem dX4_outdate_8 : decode cX4_outdate 8 = .ok (.getfield 37, 3) := by decide +kernel
theorem dX4_outdate_11 : decode cX4_outdate 11 = .ok (.invokevirtual 190, 3) := by decide +kernel
theorem dX4_outdate_14 : decode cX4_outdate 14 = .ok (.return_, 1) := by decide +kernel
theorem dX4_isDrawn_0 : decode cX4_isDrawn 0 = .ok (.aload_n 0, 1) := by decide +kernel
theorem dX4_isDrawn_1 : decode cX4_isDrawn 1 = .ok (.getfield 12, 3) := by decide +kernel
theorem dX4_isDrawn_4 : decode cX4_isDrawn 4 = .ok (.invokevirtual 155, 3) := by decide +kernel
theorem dX4_isDrawn_7 : decode cX4_isDrawn 7 = .ok (.ifCond .ne 5, 3) := by decide +kernel
theorem dX4_isDrawn_10 : decode cX4_isDrawn 10 = .ok (.iconst 0, 1) := by decide +kernel
theorem dX4_isDrawn_11 : decode cX4_isDrawn 11 = .ok (.ireturn, 1) := by decide +kernel
theorem dX4_isDrawn_12 : decode cX4_isDrawn 12 = .ok (.aload_n 0, 1) := by decide +kernel
theorem dX4_isDrawn_13 : decode cX4_isDrawn 13 = .ok (.getfield 28, 3) := by decide +kernel
theorem dX4_isDrawn_16 : decode cX4_isDrawn 16 = .ok (.invokevirtual 191, 3) := by decide +kernel
theorem dX4_isDrawn_19 : decode cX4_isDrawn 19 = .ok (.iconst 1, 1) := by decide +kernel
theorem dX4_isDrawn_20 : decode cX4_isDrawn 20 = .ok (.ireturn, 1) := by decide +kernel
theorem dX4_isDifference_0 : decode cX4_isDifference 0 = .ok (.iload_n 0, 1) := by decide +kernel
theorem dX4_isDifference_1 : decode cX4_isDifference 1 = .ok (.iconst 1, 1) := by decide +kernel
theorem dX4_isDifference_2 : decode cX4_isDifference 2 = .ok (.if_icmp .lt 12, 3) := by decide +kernel
theorem dX4_isDifference_5 : decode cX4_isDifference 5 = .ok (.iload_n 0, 1) := by decide +kernel
theorem dX4_isDifference_6 : decode cX4_isDifference 6 = .ok (.iconst 3, 1) := by decide +kernel
theorem dX4_isDifference_7 : decode cX4_isDifference 7 = .ok (.if_icmp .gt 7, 3) := by decide +kernel
theorem dX4_isDifference_10 : decode cX4_isDifference 10 = .ok (.iconst 1, 1) := by decide +kernel
theorem dX4_isDifference_11 : decode cX4_isDifference 11 = .ok (.goto 4, 3) := by decide +kernel
theorem dX4_isDifference_14 : decode cX4_isDifference 14 = .ok (.iconst 0, 1) := by decide +kernel
theorem dX4_isDifference_15 : decode cX4_isDifference 15 = .ok (.ireturn, 1) := by decide +kernel
theorem dX4_fits_0 : decode cX4_fits 0 = .ok (.iload_n 1, 1) := by decide +kernel
theorem dX4_fits_1 : decode cX4_fits 1 = .ok (.iload_n 0, 1) := by decide +kernel
theorem dX4_fits_2 : decode cX4_fits 2 = .ok (.getstatic 192, 3) := by decide +kernel
theorem dX4_fits_5 : decode cX4_fits 5 = .ok (.getstatic 196, 3) := by decide +kernel
theorem dX4_fits_8 : decode cX4_fits 8 = .ok (.invokestatic 199, 3) := by decide +kernel
theorem dX4_fits_11 : decode cX4_fits 11 = .ok (.ireturn, 1) := by decide +kernel
theorem dX4_fitsPart_0 : decode cX4_fitsPart 0 = .ok (.iload_n 1, 1) := by decide +kernel
theorem dX4_fitsPart_1 : decode cX4_fitsPart 1 = .ok (.iload_n 0, 1) := by decide +kernel
theorem dX4_fitsPart_2 : decode cX4_fitsPart 2 = .ok (.getstatic 203, 3) := by decide +kernel
theorem dX4_fitsPart_5 : decode cX4_fitsPart 5 = .ok (.getstatic 206, 3) := by decide +kernel
theorem dX4_fitsPart_8 : decode cX4_fitsPart 8 = .ok (.invokestatic 199, 3) := by decide +kernel
theorem dX4_fitsPart_11 : decode cX4_fitsPart 11 = .ok (.ireturn, 1) := by decide +kernel
theorem dX4_lies_0 : decode cX4_lies 0 = .ok (.iload_n 1, 1) := by decide +kernel
theorem dX4_lies_1 : decode cX4_lies 1 = .ok (.ifCond .lt 33, 3) := by decide +kernel
theorem dX4_lies_4 : decode cX4_lies 4 = .ok (.iload_n 1, 1) := by decide +kernel
theorem dX4_lies_5 : decode cX4_lies 5 = .ok (.aload_n 2, 1) := by decide +kernel
theorem dX4_lies_6 : decode cX4_lies 6 = .ok (.arraylength, 1) := by decide +kernel
theorem dX4_lies_7 : decode cX4_lies 7 = .ok (.if_icmp .ge 27, 3) := by decide +kernel
theorem dX4_lies_10 : decode cX4_lies 10 = .ok (.iload_n 1, 1) := by decide +kernel
theorem dX4_lies_11 : decode cX4_lies 11 = .ok (.aload_n 3, 1) := by decide +kernel
theorem dX4_lies_12 : decode cX4_lies 12 = .ok (.arraylength, 1) := by decide +kernel
theorem dX4_lies_13 : decode cX4_lies 13 = .ok (.if_icmp .ge 21, 3) := by decide +kernel
theorem dX4_lies_16 : decode cX4_lies 16 = .ok (.iload_n 0, 1) := by decide +kernel
theorem dX4_lies_17 : decode cX4_lies 17 = .ok (.aload_n 2, 1) := by decide +kernel
theorem dX4_lies_18 : decode cX4_lies 18 = .ok (.iload_n 1, 1) := by decide +kernel
theorem dX4_lies_19 : decode cX4_lies 19 = .ok (.iaload, 1) := by decide +kernel
theorem dX4_lies_20 : decode cX4_lies 20 = .ok (.if_icmp .lt 14, 3) := by decide +kernel
theorem dX4_lies_23 : decode cX4_lies 23 = .ok (.iload_n 0, 1) := by decide +kernel
theorem dX4_lies_24 : decode cX4_lies 24 = .ok (.aload_n 3, 1) := by decide +kernel
theorem dX4_lies_25 : decode cX4_lies 25 = .ok (.iload_n 1, 1) := by decide +kernel
theorem dX4_lies_26 : decode cX4_lies 26 = .ok (.iaload, 1) := by decide +kernel
theorem dX4_lies_27 : decode cX4_lies 27 = .ok (.if_icmp .gt 7, 3) := by decide +kernel
theorem dX4_lies_30 : decode cX4_lies 30 = .ok (.iconst 1, 1) := by decide +kernel
theorem dX4_lies_31 : decode cX4_lies 31 = .ok (.goto 4, 3) := by decide +kernel
theorem dX4_lies_34 : decode cX4_lies 34 = .ok (.iconst 0, 1) := by decide +kernel
theorem dX4_lies_35 : decode cX4_lies 35 = .ok (.ireturn, 1) := by decide +kernel
theorem dJ9_floorDiv_f86c9_0 : decode cJ9_floorDiv_f86c9 0 = .ok (.lload_n 0, 1) := by decide +kernel
theorem dJ9_floorDiv_f86c9_1 : decode cJ9_floorDiv_f86c9 1 = .ok (.lload_n 2, 1) := by decide +kernel
theorem dJ9_floorDiv_f86c9_2 : decode cJ9_floorDiv_f86c9 2 = .ok (.ldiv, 1) := by decide +kernel
theorem dJ9_floorDiv_f86c9_3 : decode cJ9_floorDiv_f86c9 3 = .ok (.lstore 4, 2) := by decide +kernel
theorem dJ9_floorDiv_f86c9_5 : decode cJ9_floorDiv_f86c9 5 = .ok (.lload_n 0, 1) := by decide +kernel
theorem dJ9_floorDiv_f86c9_6 : decode cJ9_floorDiv_f86c9 6 = .ok (.lload_n 2, 1) := by decide +kernel
theorem dJ9_floorDiv_f86c9_7 : decode cJ9_floorDiv_f86c9 7 = .ok (.lxor, 1) := by decide +kernel
theorem dJ9_floorDiv_f86c9_8 : decode cJ9_floorDiv_f86c9 8 = .ok (.lconst 0, 1) := by decide +kernel
theorem dJ9_floorDiv_f86c9_9 : decode cJ9_floorDiv_f86c9 9 = .ok (.lcmp, 1) := by decide +kernel
theorem dJ9_floorDiv_f86c9_10 : decode cJ9_floorDiv_f86c9 10 = .ok (.ifCond .ge 17, 3) := by decide +kernel
theorem dJ9_floorDiv_f86c9_13 : decode cJ9_floorDiv_f86c9 13 = .ok (.lload 4, 2) := by decide +kernel
theorem dJ9_floorDiv_f86c9_15 : decode cJ9_floorDiv_f86c9 15 = .ok (.lload_n 2, 1) := by decide +kernel
theorem dJ9_floorDiv_f86c9_16 : decode cJ9_floorDiv_f86c9 16 = .ok (.lmul, 1) := by decide +kernel
theorem dJ9_floorDiv_f86c9_17 : decode cJ9_floorDiv_f86c9 17 = .ok (.lload_n 0, 1) := by decide +kernel
theorem dJ9_floorDiv_f86c9_18 : decode cJ9_floorDiv_f86c9 18 = .ok (.lcmp, 1) := by decide +kernel
theorem dJ9_floorDiv_f86c9_19 : decode cJ9_floorDiv_f86c9 19 = .ok (.ifCond .eq 8, 3) := by decide +kernel
theorem dJ9_floorDiv_f86c9_22 : decode cJ9_floorDiv_f86c9 22 = .ok (.lload 4, 2) := by decide +kernel
theorem dJ9_floorDiv_f86c9_24 : decode cJ9_floorDiv_f86c9 24 = .ok (.lconst 1, 1) := by decide +kernel
theorem dJ9_floorDiv_f86c9_25 : decode cJ9_floorDiv_f86c9 25 = .ok (.lsub, 1) := by decide +kernel
theorem dJ9_floorDiv_f86c9_26 : decode cJ9_floorDiv_f86c9 26 = .ok (.lreturn, 1) := by decide +kernel
theorem dJ9_floorDiv_f86c9_27 : decode cJ9_floorDiv_f86c9 27 = .ok (.lload 4, 2) := by decide +kernel
theorem dJ9_floorDiv_f86c9_29 : decode cJ9_floorDiv_f86c9 29 = .ok (.lreturn, 1) := by decide +kernel
theorem dJ9_abs_067f4_0 : decode cJ9_abs_067f4 0 = .ok (.lload_n 0, 1) := by decide +kernel
theorem dJ9_abs_067f4_1 : decode cJ9_abs_067f4 1 = .ok (.lconst 0, 1) := by decide +kernel
theorem dJ9_abs_067f4_2 : decode cJ9_abs_067f4 2 = .ok (.lcmp, 1) := by decide +kernel
theorem dJ9_abs_067f4_3 : decode cJ9_abs_067f4 3 = .ok (.ifCond .ge 8, 3) := by decide +kernel
theorem dJ9_abs_067f4_6 : decode cJ9_abs_067f4 6 = .ok (.lload_n 0, 1) := by decide +kernel
theorem dJ9_abs_067f4_7 : decode cJ9_abs_067f4 7 = .ok (.lneg, 1) := by decide +kernel
theorem dJ9_abs_067f4_8 : decode cJ9_abs_067f4 8 = .ok (.goto 4, 3) := by decide +kernel
theorem dJ9_abs_067f4_11 : decode cJ9_abs_067f4 11 = .ok (.lload_n 0, 1) := by decide +kernel
theorem dJ9_abs_067f4_12 : decode cJ9_abs_067f4 12 = .ok (.lreturn, 1) := by decide +kernel
theorem dJ9_max_7cf53_0 : decode cJ9_max_7cf53 0 = .ok (.iload_n 0, 1) := by decide +kernel
theorem dJ9_max_7cf53_1 : decode cJ9_max_7cf53 1 = .ok (.iload_n 1, 1) := by decide +kernel
theorem dJ9_max_7cf53_2 : decode cJ9_max_7cf53 2 = .ok (.if_icmp .lt 7, 3) := by decide +kernel
theorem dJ9_max_7cf53_5 : decode cJ9_max_7cf53 5 = .ok (.iload_n 0, 1) := by decide +kernel
theorem dJ9_max_7cf53_6 : decode cJ9_max_7cf53 6 = .ok (.goto 4, 3) := by decide +kernel
theorem dJ9_max_7cf53_9 : decode cJ9_max_7cf53 9 = .ok (.iload_n 1, 1) := by decide +kernel
theorem dJ9_max_7cf53_10 : decode cJ9_max_7cf53 10 = .ok (.ireturn, 1) := by decide +kernel
theorem dJ9_max_f86c9_0 : decode cJ9_max_f86c9 0 = .ok (.lload_n 0, 1) := by decide +kernel
theorem dJ9_max_f86c9_1 : decode cJ9_max_f86c9 1 = .ok (.lload_n 2, 1) := by decide +kernel
theorem dJ9_max_f86c9_2 : decode cJ9_max_f86c9 2 = .ok (.lcmp, 1) := by decide +kernel
theorem dJ9_max_f86c9_3 : decode cJ9_max_f86c9 3 = .ok (.ifCond .lt 7, 3) := by decide +kernel
theorem dJ9_max_f86c9_6 : decode cJ9_max_f86c9 6 = .ok (.lload_n 0, 1) := by decide +kernel
theorem dJ9_max_f86c9_7 : decode cJ9_max_f86c9 7 = .ok (.goto 4, 3) := by decide +kernel
theorem dJ9_max_f86c9_10 : decode cJ9_max_f86c9 10 = .ok (.lload_n 2, 1) := by decide +kernel
theorem dJ9_max_f86c9_11 : decode cJ9_max_f86c9 11 = .ok (.lreturn, 1) := by decide +kernel
theorem dJ9_min_7cf53_0 : decode cJ9_min_7cf53 0 = .ok (.iload_n 0, 1) := by decide +kernel
theorem dJ9_min_7cf53_1 : decode cJ9_min_7cf53 1 = .ok (.iload_n 1, 1) := by decide +kernel
theorem dJ9_min_7cf53_2 : decode cJ9_min_7cf53 2 = .ok (.if_icmp .gt 7, 3) := by decide +kernel
theorem dJ9_min_7cf53_5 : decode cJ9_min_7cf53 5 = .ok (.iload_n 0, 1) := by decide +kernel
theorem dJ9_min_7cf53_6 : decode cJ9_min_7cf53 6 = .ok (.goto 4, 3) := by decide +kernel
theorem dJ9_min_7cf53_9 : decode cJ9_min_7cf53 9 = .ok (.iload_n 1, 1) := by decide +kernel
theorem dJ9_min_7cf53_10 : decode cJ9_min_7cf53 10 = .ok (.ireturn, 1) := by decide +kernel
theorem dJ9_min_f86c9_0 : decode cJ9_min_f86c9 0 = .ok (.lload_n 0, 1) := by decide +kernel
theorem dJ9_min_f86c9_1 : decode cJ9_min_f86c9 1 = .ok (.lload_n 2, 1) := by decide +kernel
theorem dJ9_min_f86c9_2 : decode cJ9_min_f86c9 2 = .ok (.lcmp, 1) := by decide +kernel
theorem dJ9_min_f86c9_3 : decode cJ9_min_f86c9 3 = .ok (.ifCond .gt 7, 3) := by decide +kernel
theorem dJ9_min_f86c9_6 : decode cJ9_min_f86c9 6 = .ok (.lload_n 0, 1) := by decide +kernel
theorem dJ9_min_f86c9_7 : decode cJ9_min_f86c9 7 = .ok (.goto 4, 3) := by decide +kernel
theorem dJ9_min_f86c9_10 : decode cJ9_min_f86c9 10 = .ok (.lload_n 2, 1) := by decide +kernel
theorem dJ9_min_f86c9_11 : decode cJ9_min_f86c9 11 = .ok (.lreturn, 1) := by decide +kernel
end
section
theorem dX5_thrown_0 : decode cX5_thrown 0 = .ok (.aload_n 0, 1) := by decide +kernel
theorem dX5_thrown_1 : decode cX5_thrown 1 = .ok (.getfield 1, 3) := by decide +kernel
theorem dX5_thrown_4 : decode cX5_thrown 4 = .ok (.ireturn, 1) := by decide +kernel
theorem dX5_within_0 : decode cX5_within 0 = .ok (.lload_n 0, 1) := by decide +kernel
theorem dX5_within_1 : decode cX5_within 1 = .ok (.lload_n 2, 1) := by decide +kernel
theorem dX5_within_2 : decode cX5_within 2 = .ok (.lcmp, 1) := by decide +kernel
theorem dX5_within_3 : decode cX5_within 3 = .ok (.ifCond .lt 14, 3) := by decide +kernel
theorem dX5_within_6 : decode cX5_within 6 = .ok (.lload_n 0, 1) := by decide +kernel
theorem dX5_within_7 : decode cX5_within 7 = .ok (.lload 4, 2) := by decide +kernel
theorem dX5_within_9 : decode cX5_within 9 = .ok (.lcmp, 1) := by decide +kernel
theorem dX5_within_10 : decode cX5_within 10 = .ok (.ifCond .gt 7, 3) := by decide +kernel
theorem dX5_within_13 : decode cX5_within 13 = .ok (.iconst 1, 1) := by decide +kernel
theorem dX5_within_14 : decode cX5_within 14 = .ok (.goto 4, 3) := by decide +kernel
theorem dX5_within_17 : decode cX5_within 17 = .ok (.iconst 0, 1) := by decide +kernel
theorem dX5_within_18 : decode cX5_within 18 = .ok (.ireturn, 1) := by decide +kernel
theorem dX5_init_0 : decode cX5_init 0 = .ok (.aload_n 0, 1) := by decide +kernel
theorem dX5_init_1 : decode cX5_init 1 = .ok (.invokespecial 7, 3) := by decide +kernel
theorem dX5_init_4 : decode cX5_init 4 = .ok (.aload_n 0, 1) := by decide +kernel
theorem dX5_init_5 : decode cX5_init 5 = .ok (.bipush 24, 2) := by decide +kernel
theorem dX5_init_7 : decode cX5_init 7 = .ok (.putfield 13, 3) := by decide +kernel
theorem dX5_init_10 : decode cX5_init 10 = .ok (.aload_n 0, 1) := by decide +kernel
theorem dX5_init_11 : decode cX5_init 11 = .ok (.bipush 71, 2) := by decide +kernel
theorem dX5_init_13 : decode cX5_init 13 = .ok (.newarray .int, 2) := by decide +kernel
theorem dX5_init_15 : decode cX5_init 15 = .ok (.putfield 16, 3) := by decide +kernel
theorem dX5_init_18 : decode cX5_init 18 = .ok (.aload_n 0, 1) := by decide +kernel
theorem dX5_init_19 : decode cX5_init 19 = .ok (.sipush 1420, 3) := by decide +kernel
theorem dX5_init_22 : decode cX5_init 22 = .ok (.newarray .int, 2) := by decide +kernel
theorem dX5_init_24 : decode cX5_init 24 = .ok (.putfield 20, 3) := by decide +kernel
theorem dX5_init_27 : decode cX5_init 27 = .ok (.aload_n 0, 1) := by decide +kernel
theorem dX5_init_28 : decode cX5_init 28 = .ok (.bipush 120, 2) := by decide +kernel
theorem dX5_init_30 : decode cX5_init 30 = .ok (.newarray .int, 2) := by decide +kernel
theorem dX5_init_32 : decode cX5_init 32 = .ok (.putfield 23, 3) := by decide +kernel
theorem dX5_init_35 : decode cX5_init 35 = .ok (.aload_n 0, 1) := by decide +kernel
theorem dX5_init_36 : decode cX5_init 36 = .ok (.bipush 12, 2) := by decide +kernel
theorem dX5_init_38 : decode cX5_init 38 = .ok (.newarray .int, 2) := by decide +kernel
theorem dX5_init_40 : decode cX5_init 40 = .ok (.putfield 26, 3) := by decide +kernel
theorem dX5_init_43 : decode cX5_init 43 = .ok (.aload_n 0, 1) := by decide +kernel
theorem dX5_init_44 : decode cX5_init 44 = .ok (.bipush 12, 2) := by decide +kernel
theorem dX5_init_46 : decode cX5_init 46 = .ok (.newarray .int, 2) := by decide +kernel
theorem dX5_init_48 : decode cX5_init 48 = .ok (.putfield 29, 3) := by decide +kernel
theorem dX5_init_51 : decode cX5_init 51 = .ok (.aload_n 0, 1) := by decide +kernel
theorem dX5_init_52 : decode cX5_init 52 = .ok (.getfield 16, 3) := by decide +kernel
theorem dX5_init_55 : decode cX5_init 55 = .ok (.bipush 63, 2) := by decide +kernel
theorem dX5_init_57 : decode cX5_init 57 = .ok (.sipush 400, 3) := by decide +kernel
theorem dX5_init_60 : decode cX5_init 60 = .ok (.iastore, 1) := by decide +kernel
theorem dX5_init_61 : decode cX5_init 61 = .ok (.aload_n 0, 1) := by decide +kernel
theorem dX5_init_62 : decode cX5_init 62 = .ok (.getfield 16, 3) := by decide +kernel
theorem dX5_init_65 : decode cX5_init 65 = .ok (.bipush 64, 2) := by decide +kernel
theorem dX5_init_67 : decode cX5_init 67 = .ok (.bipush 100, 2) := by decide +kernel
theorem dX5_init_69 : decode cX5_init 69 = .ok (.iastore, 1) := by decide +kernel
theorem dX5_init_70 : decode cX5_init 70 = .ok (.aload_n 0, 1) := by decide +kernel
theorem dX5_init_71 : decode cX5_init 71 = .ok (.getfield 16, 3) := by decide +kernel
theorem dX5_init_74 : decode cX5_init 74 = .ok (.bipush 65, 2) := by decide +kernel
theorem dX5_init_76 : decode cX5_init 76 = .ok (.sipush 1000, 3) := by decide +kernel
theorem dX5_init_79 : decode cX5_init 79 = .ok (.iastore, 1) := by decide +kernel
theorem dX5_init_80 : decode cX5_init 80 = .ok (.aload_n 0, 1) := by decide +kernel
theorem dX5_init_81 : decode cX5_init 81 = .ok (.getfield 16, 3) := by decide +kernel
theorem dX5_init_84 : decode cX5_init 84 = .ok (.bipush 66, 2) := by decide +kernel
theorem dX5_init_86 : decode cX5_init 86 = .ok (.bipush 10, 2) := by decide +kernel
theorem dX5_init_88 : decode cX5_init 88 = .ok (.iastore, 1) := by decide +kernel
theorem dX5_init_89 : decode cX5_init 89 = .ok (.aload_n 0, 1) := by decide +kernel
theorem dX5_init_90 : decode cX5_init 90 = .ok (.getfield 16, 3) := by decide +kernel
theorem dX5_init_93 : decode cX5_init 93 = .ok (.bipush 67, 2) := by decide +kernel
theorem dX5_init_95 : decode cX5_init 95 = .ok (.bipush 10, 2) := by decide +kernel
theorem dX5_init_97 : decode cX5_init 97 = .ok (.iastore, 1) := by decide +kernel
theorem dX5_init_98 : decode cX5_init 98 = .ok (.aload_n 0, 1) := by decide +kernel
theorem dX5_init_99 : decode cX5_init 99 = .ok (.getfield 16, 3) := by decide +kernel
theorem dX5_init_102 : decode cX5_init 102 = .ok (.bipush 68, 2) := by decide +kernel
theorem dX5_init_104 : decode cX5_init 104 = .ok (.bipush 100, 2) := by decide +kernel
theorem dX5_init_106 : decode cX5_init 106 = .ok (.iastore, 1) := by decide +kernel
theorem dX5_init_107 : decode cX5_init 107 = .ok (.aload_n 0, 1) := by decide +kernel
theorem dX5_init_108 : decode cX5_init 108 = .ok (.getfield 16, 3) := by decide +kernel
theorem dX5_init_111 : decode cX5_init 111 = .ok (.bipush 69, 2) := by decide +kernel
theorem dX5_init_113 : decode cX5_init 113 = .ok (.sipush 577, 3) := by decide +kernel
theorem dX5_init_116 : decode cX5_init 116 = .ok (.iastore, 1) := by decide +kernel
theorem dX5_init_117 : decode cX5_init 117 = .ok (.aload_n 0, 1) := by decide +kernel
theorem dX5_init_118 : decode cX5_init 118 = .ok (.getfield 16, 3) := by decide +kernel
theorem dX5_init_121 : decode cX5_init 121 = .ok (.bipush 70, 2) := by decide +kernel
theorem dX5_init_123 : decode cX5_init 123 = .ok (.iconst 1, 1) := by decide +kernel
theorem dX5_init_124 : decode cX5_init 124 = .ok (.iastore, 1) := by decide +kernel
theorem dX5_init_125 : decode cX5_init 125 = .ok (.return_, 1) := by decide +kernel
theorem dX5_keeps_0 : decode cX5_keeps 0 = .ok (.aload_n 0, 1) := by decide +kernel
theorem dX5_keeps_1 : decode cX5_keeps 1 = .ok (.getfield 32, 3) := by decide +kernel
theorem dX5_keeps_4 : decode cX5_keeps 4 = .ok (.bipush 20, 2) := by decide +kernel
theorem dX5_keeps_6 : decode cX5_keeps 6 = .ok (.if_icmp .ne 43, 3) := by decide +kernel
theorem dX5_keeps_9 : decode cX5_keeps 9 = .ok (.iconst 0, 1) := by decide +kernel
theorem dX5_keeps_10 : decode cX5_keeps 10 = .ok (.istore_n 1, 1) := by decide +kernel
theorem dX5_keeps_11 : decode cX5_keeps 11 = .ok (.iload_n 1, 1) := by decide +kernel
theorem dX5_keeps_12 : decode cX5_keeps 12 = .ok (.sipush 1349, 3) := by decide +kernel
theorem dX5_keeps_15 : decode cX5_keeps 15 = .ok (.if_icmp .ge 24, 3) := by decide +kernel
theorem dX5_keeps_18 : decode cX5_keeps 18 = .ok (.aload_n 0, 1) := by decide +kernel
theorem dX5_keeps_19 : decode cX5_keeps 19 = .ok (.getfield 20, 3) := by decide +kernel
theorem dX5_keeps_22 : decode cX5_keeps 22 = .ok (.iload_n 1, 1) := by decide +kernel
theorem dX5_keeps_23 : decode cX5_keeps 23 = .ok (.aload_n 0, 1) := by decide +kernel
theorem dX5_keeps_24 : decode cX5_keeps 24 = .ok (.getfield 20, 3) := by decide +kernel
theorem dX5_keeps_27 : decode cX5_keeps 27 = .ok (.iload_n 1, 1) := by decide +kernel
theorem dX5_keeps_28 : decode cX5_keeps 28 = .ok (.bipush 71, 2) := by decide +kernel
theorem dX5_keeps_30 : decode cX5_keeps 30 = .ok (.iadd, 1) := by decide +kernel
theorem dX5_keeps_31 : decode cX5_keeps 31 = .ok (.iaload, 1) := by decide +kernel
theorem dX5_keeps_32 : decode cX5_keeps 32 = .ok (.iastore, 1) := by decide +kernel
theorem dX5_keeps_33 : decode cX5_keeps 33 = .ok (.iinc 1 1, 3) := by decide +kernel
theorem dX5_keeps_36 : decode cX5_keeps 36 = .ok (.goto (-25), 3) := by decide +kernel
theorem dX5_keeps_39 : decode cX5_keeps 39 = .ok (.aload_n 0, 1) := by decide +kernel
theorem dX5_keeps_40 : decode cX5_keeps 40 = .ok (.dup, 1) := by decide +kernel
theorem dX5_keeps_41 : decode cX5_keeps 41 = .ok (.getfield 32, 3) := by decide +kernel
theorem dX5_keeps_44 : decode cX5_keeps 44 = .ok (.iconst 1, 1) := by decide +kernel
theorem dX5_keeps_45 : decode cX5_keeps 45 = .ok (.isub, 1) := by decide +kernel
theorem dX5_keeps_46 : decode cX5_keeps 46 = .ok (.putfield 32, 3) := by decide +kernel
theorem dX5_keeps_49 : decode cX5_keeps 49 = .ok (.iconst 0, 1) := by decide +kernel
theorem dX5_keeps_50 : decode cX5_keeps 50 = .ok (.istore_n 1, 1) := by decide +kernel
theorem dX5_keeps_51 : decode cX5_keeps 51 = .ok (.iload_n 1, 1) := by decide +kernel
theorem dX5_keeps_52 : decode cX5_keeps 52 = .ok (.bipush 71, 2) := by decide +kernel
theorem dX5_keeps_54 : decode cX5_keeps 54 = .ok (.if_icmp .ge 29, 3) := by decide +kernel
theorem dX5_keeps_57 : decode cX5_keeps 57 = .ok (.aload_n 0, 1) := by decide +kernel
theorem dX5_keeps_58 : decode cX5_keeps 58 = .ok (.getfield 20, 3) := by decide +kernel
theorem dX5_keeps_61 : decode cX5_keeps 61 = .ok (.bipush 71, 2) := by decide +kernel
theorem dX5_keeps_63 : decode cX5_keeps 63 = .ok (.aload_n 0, 1) := by decide +kernel
theorem dX5_keeps_64 : decode cX5_keeps 64 = .ok (.getfield 32, 3) := by decide +kernel
theorem dX5_keeps_67 : decode cX5_keeps 67 = .ok (.imul, 1) := by decide +kernel
theorem dX5_keeps_68 : decode cX5_keeps 68 = .ok (.iload_n 1, 1) := by decide +kernel
theorem dX5_keeps_69 : decode cX5_keeps 69 = .ok (.iadd, 1) := by decide +kernel
theorem dX5_keeps_70 : decode cX5_keeps 70 = .ok (.aload_n 0, 1) := by decide +kernel
theorem dX5_keeps_71 : decode cX5_keeps 71 = .ok (.getfield 16, 3) := by decide +kernel
theorem dX5_keeps_74 : decode cX5_keeps 74 = .ok (.iload_n 1, 1) := by decide +kernel
theorem dX5_keeps_75 : decode cX5_keeps 75 = .ok (.iaload, 1) := by decide +kernel
theorem dX5_keeps_76 : decode cX5_keeps 76 = .ok (.iastore, 1) := by decide +kernel
theorem dX5_keeps_77 : decode cX5_keeps 77 = .ok (.iinc 1 1, 3) := by decide +kernel
theorem dX5_keeps_80 : decode cX5_keeps 80 = .ok (.goto (-29), 3) := by decide +kernel
theorem dX5_keeps_83 : decode cX5_keeps 83 = .ok (.aload_n 0, 1) := by decide +kernel
theorem dX5_keeps_84 : decode cX5_keeps 84 = .ok (.dup, 1) := by decide +kernel
theorem dX5_keeps_85 : decode cX5_keeps 85 = .ok (.getfield 32, 3) := by decide +kernel
theorem dX5_keeps_88 : decode cX5_keeps 88 = .ok (.iconst 1, 1) := by decide +kernel
theorem dX5_keeps_89 : decode cX5_keeps 89 = .ok (.iadd, 1) := by decide +kernel
theorem dX5_keeps_90 : decode cX5_keeps 90 = .ok (.putfield 32, 3) := by decide +kernel
theorem dX5_keeps_93 : decode cX5_keeps 93 = .ok (.return_, 1) := by decide +kernel
theorem dX5_steps_0 : decode cX5_steps 0 = .ok (.aload_n 0, 1) := by decide +kernel
theorem dX5_steps_1 : decode cX5_steps 1 = .ok (.iconst 0, 1) := by decide +kernel
theorem dX5_steps_2 : decode cX5_steps 2 = .ok (.putfield 1, 3) := by decide +kernel
theorem dX5_steps_5 : decode cX5_steps 5 = .ok (.iload_n 1, 1) := by decide +kernel
theorem dX5_steps_6 : decode cX5_steps 6 = .ok (.i2l, 1) := by decide +kernel
theorem dX5_steps_7 : decode cX5_steps 7 = .ok (.ldc2_w 35, 3) := by decide +kernel
theorem dX5_steps_10 : decode cX5_steps 10 = .ok (.ldc2_w 37, 3) := by decide +kernel
theorem dX5_steps_13 : decode cX5_steps 13 = .ok (.invokestatic 39, 3) := by decide +kernel
theorem dX5_steps_16 : decode cX5_steps 16 = .ok (.ifCond .ne 5, 3) := by decide +kernel
theorem dX5_steps_19 : decode cX5_steps 19 = .ok (.iconst (-1), 1) := by decide +kernel
theorem dX5_steps_20 : decode cX5_steps 20 = .ok (.ireturn, 1) := by decide +kernel
theorem dX5_steps_21 : decode cX5_steps 21 = .ok (.aload_n 0, 1) := by decide +kernel
theorem dX5_steps_22 : decode cX5_steps 22 = .ok (.getfield 16, 3) := by decide +kernel
theorem dX5_steps_25 : decode cX5_steps 25 = .ok (.bipush 60, 2) := by decide +kernel
theorem dX5_steps_27 : decode cX5_steps 27 = .ok (.iaload, 1) := by decide +kernel
theorem dX5_steps_28 : decode cX5_steps 28 = .ok (.istore_n 2, 1) := by decide +kernel
theorem dX5_steps_29 : decode cX5_steps 29 = .ok (.aload_n 0, 1) := by decide +kernel
theorem dX5_steps_30 : decode cX5_steps 30 = .ok (.iload_n 1, 1) := by decide +kernel
theorem dX5_steps_31 : decode cX5_steps 31 = .ok (.putfield 13, 3) := by decide +kernel
theorem dX5_steps_34 : decode cX5_steps 34 = .ok (.aload_n 0, 1) := by decide +kernel
theorem dX5_steps_35 : decode cX5_steps 35 = .ok (.getfield 16, 3) := by decide +kernel
theorem dX5_steps_38 : decode cX5_steps 38 = .ok (.bipush 60, 2) := by decide +kernel
theorem dX5_steps_40 : decode cX5_steps 40 = .ok (.iconst 0, 1) := by decide +kernel
theorem dX5_steps_41 : decode cX5_steps 41 = .ok (.iastore, 1) := by decide +kernel
theorem dX5_steps_42 : decode cX5_steps 42 = .ok (.aload_n 0, 1) := by decide +kernel
theorem dX5_steps_43 : decode cX5_steps 43 = .ok (.getfield 16, 3) := by decide +kernel
theorem dX5_steps_46 : decode cX5_steps 46 = .ok (.bipush 61, 2) := by decide +kernel
theorem dX5_steps_48 : decode cX5_steps 48 = .ok (.iconst 0, 1) := by decide +kernel
theorem dX5_steps_49 : decode cX5_steps 49 = .ok (.iastore, 1) := by decide +kernel
theorem dX5_steps_50 : decode cX5_steps 50 = .ok (.aload_n 0, 1) := by decide +kernel
theorem dX5_steps_51 : decode cX5_steps 51 = .ok (.iconst 0, 1) := by decide +kernel
theorem dX5_steps_52 : decode cX5_steps 52 = .ok (.putfield 32, 3) := by decide +kernel
theorem dX5_steps_55 : decode cX5_steps 55 = .ok (.iload_n 2, 1) := by decide +kernel
theorem dX5_steps_56 : decode cX5_steps 56 = .ok (.ireturn, 1) := by decide +kernel
theorem dX5_isSegment_0 : decode cX5_isSegment 0 = .ok (.iload_n 1, 1) := by decide +kernel
theorem dX5_isSegment_1 : decode cX5_isSegment 1 = .ok (.ifCond .lt 18, 3) := by decide +kernel
theorem dX5_isSegment_4 : decode cX5_isSegment 4 = .ok (.iload_n 1, 1) := by decide +kernel
theorem dX5_isSegment_5 : decode cX5_isSegment 5 = .ok (.aload_n 0, 1) := by decide +kernel
theorem dX5_isSegment_6 : decode cX5_isSegment 6 = .ok (.getfield 16, 3) := by decide +kernel
theorem dX5_isSegment_9 : decode cX5_isSegment 9 = .ok (.bipush 60, 2) := by decide +kernel
theorem dX5_isSegment_11 : decode cX5_isSegment 11 = .ok (.iaload, 1) := by decide +kernel
theorem dX5_isSegment_12 : decode cX5_isSegment 12 = .ok (.if_icmp .ge 7, 3) := by decide +kernel
theorem dX5_isSegment_15 : decode cX5_isSegment 15 = .ok (.iconst 1, 1) := by decide +kernel
theorem dX5_isSegment_16 : decode cX5_isSegment 16 = .ok (.goto 4, 3) := by decide +kernel
theorem dX5_isSegment_19 : decode cX5_isSegment 19 = .ok (.iconst 0, 1) := by decide +kernel
theorem dX5_isSegment_20 : decode cX5_isSegment 20 = .ok (.ireturn, 1) := by decide +kernel
theorem dX5_isMark_0 : decode cX5_isMark 0 = .ok (.iload_n 1, 1) := by decide +kernel
theorem dX5_isMark_1 : decode cX5_isMark 1 = .ok (.ifCond .lt 18, 3) := by decide +kernel
theorem dX5_isMark_4 : decode cX5_isMark 4 = .ok (.iload_n 1, 1) := by decide +kernel
theorem dX5_isMark_5 : decode cX5_isMark 5 = .ok (.aload_n 0, 1) := by decide +kernel
theorem dX5_isMark_6 : decode cX5_isMark 6 = .ok (.getfield 16, 3) := by decide +kernel
theorem dX5_isMark_9 : decode cX5_isMark 9 = .ok (.bipush 61, 2) := by decide +kernel
theorem dX5_isMark_11 : decode cX5_isMark 11 = .ok (.iaload, 1) := by decide +kernel
theorem dX5_isMark_12 : decode cX5_isMark 12 = .ok (.if_icmp .ge 7, 3) := by decide +kernel
theorem dX5_isMark_15 : decode cX5_isMark 15 = .ok (.iconst 1, 1) := by decide +kernel
theorem dX5_isMark_16 : decode cX5_isMark 16 = .ok (.goto 4, 3) := by decide +kernel
theorem dX5_isMark_19 : decode cX5_isMark 19 = .ok (.iconst 0, 1) := by decide +kernel
theorem dX5_isMark_20 : decode cX5_isMark 20 = .ok (.ireturn, 1) := by decide +kernel
theorem dX5_isStep_0 : decode cX5_isStep 0 = .ok (.iload_n 1, 1) := by decide +kernel
theorem dX5_isStep_1 : decode cX5_isStep 1 = .ok (.ifCond .lt 15, 3) := by decide +kernel
theorem dX5_isStep_4 : decode cX5_isStep 4 = .ok (.iload_n 1, 1) := by decide +kernel
theorem dX5_isStep_5 : decode cX5_isStep 5 = .ok (.aload_n 0, 1) := by decide +kernel
theorem dX5_isStep_6 : decode cX5_isStep 6 = .ok (.getfield 13, 3) := by decide +kernel
theorem dX5_isStep_9 : decode cX5_isStep 9 = .ok (.if_icmp .ge 7, 3) := by decide +kernel
theorem dX5_isStep_12 : decode cX5_isStep 12 = .ok (.iconst 1, 1) := by decide +kernel
theorem dX5_isStep_13 : decode cX5_isStep 13 = .ok (.goto 4, 3) := by decide +kernel
theorem dX5_isStep_16 : decode cX5_isStep 16 = .ok (.iconst 0, 1) := by decide +kernel
theorem dX5_isStep_17 : decode cX5_isStep 17 = .ok (.ireturn, 1) := by decide +kernel
theorem dX5_segment_0 : decode cX5_segment 0 = .ok (.aload_n 0, 1) := by decide +kernel
theorem dX5_segment_1 : decode cX5_segment 1 = .ok (.iconst 0, 1) := by decide +kernel
theorem dX5_segment_2 : decode cX5_segment 2 = .ok (.putfield 1, 3) := by decide +kernel
theorem dX5_segment_5 : decode cX5_segment 5 = .ok (.aload_n 0, 1) := by decide +kernel
theorem dX5_segment_6 : decode cX5_segment 6 = .ok (.getfield 16, 3) := by decide +kernel
theorem dX5_segment_9 : decode cX5_segment 9 = .ok (.bipush 60, 2) := by decide +kernel
theorem dX5_segment_11 : decode cX5_segment 11 = .ok (.iaload, 1) := by decide +kernel
theorem dX5_segment_12 : decode cX5_segment 12 = .ok (.istore 4, 2) := by decide +kernel
theorem dX5_segment_14 : decode cX5_segment 14 = .ok (.iload_n 1, 1) := by decide +kernel
theorem dX5_segment_15 : decode cX5_segment 15 = .ok (.i2l, 1) := by decide +kernel
theorem dX5_segment_16 : decode cX5_segment 16 = .ok (.lconst 1, 1) := by decide +kernel
theorem dX5_segment_17 : decode cX5_segment 17 = .ok (.ldc2_w 43, 3) := by decide +kernel
theorem dX5_segment_20 : decode cX5_segment 20 = .ok (.invokestatic 39, 3) := by decide +kernel
theorem dX5_segment_23 : decode cX5_segment 23 = .ok (.ifCond .eq 34, 3) := by decide +kernel
theorem dX5_segment_26 : decode cX5_segment 26 = .ok (.iload_n 2, 1) := by decide +kernel
theorem dX5_segment_27 : decode cX5_segment 27 = .ok (.i2l, 1) := by decide +kernel
theorem dX5_segment_28 : decode cX5_segment 28 = .ok (.lconst 0, 1) := by decide +kernel
theorem dX5_segment_29 : decode cX5_segment 29 = .ok (.ldc2_w 45, 3) := by decide +kernel
theorem dX5_segment_32 : decode cX5_segment 32 = .ok (.invokestatic 39, 3) := by decide +kernel
theorem dX5_segment_35 : decode cX5_segment 35 = .ok (.ifCond .eq 22, 3) := by decide +kernel
theorem dX5_segment_38 : decode cX5_segment 38 = .ok (.iload_n 3, 1) := by decide +kernel
theorem dX5_segment_39 : decode cX5_segment 39 = .ok (.i2l, 1) := by decide +kernel
theorem dX5_segment_40 : decode cX5_segment 40 = .ok (.lconst 0, 1) := by decide +kernel
theorem dX5_segment_41 : decode cX5_segment 41 = .ok (.ldc2_w 47, 3) := by decide +kernel
theorem dX5_segment_44 : decode cX5_segment 44 = .ok (.invokestatic 39, 3) := by decide +kernel
theorem dX5_segment_47 : decode cX5_segment 47 = .ok (.ifCond .eq 10, 3) := by decide +kernel
theorem dX5_segment_50 : decode cX5_segment 50 = .ok (.iload 4, 2) := by decide +kernel
theorem dX5_segment_52 : decode cX5_segment 52 = .ok (.bipush 12, 2) := by decide +kernel
theorem dX5_segment_54 : decode cX5_segment 54 = .ok (.if_icmp .ne 5, 3) := by decide +kernel
theorem dX5_segment_57 : decode cX5_segment 57 = .ok (.iconst (-1), 1) := by decide +kernel
theorem dX5_segment_58 : decode cX5_segment 58 = .ok (.ireturn, 1) := by decide +kernel
theorem dX5_segment_59 : decode cX5_segment 59 = .ok (.aload_n 0, 1) := by decide +kernel
theorem dX5_segment_60 : decode cX5_segment 60 = .ok (.invokevirtual 49, 3) := by decide +kernel
theorem dX5_segment_63 : decode cX5_segment 63 = .ok (.aload_n 0, 1) := by decide +kernel
theorem dX5_segment_64 : decode cX5_segment 64 = .ok (.getfield 16, 3) := by decide +kernel
theorem dX5_segment_67 : decode cX5_segment 67 = .ok (.iconst 0, 1) := by decide +kernel
theorem dX5_segment_68 : decode cX5_segment 68 = .ok (.iload 4, 2) := by decide +kernel
theorem dX5_segment_70 : decode cX5_segment 70 = .ok (.iadd, 1) := by decide +kernel
theorem dX5_segment_71 : decode cX5_segment 71 = .ok (.iload_n 1, 1) := by decide +kernel
theorem dX5_segment_72 : decode cX5_segment 72 = .ok (.iastore, 1) := by decide +kernel
theorem dX5_segment_73 : decode cX5_segment 73 = .ok (.aload_n 0, 1) := by decide +kernel
theorem dX5_segment_74 : decode cX5_segment 74 = .ok (.getfield 16, 3) := by decide +kernel
theorem dX5_segment_77 : decode cX5_segment 77 = .ok (.bipush 12, 2) := by decide +kernel
theorem dX5_segment_79 : decode cX5_segment 79 = .ok (.iload 4, 2) := by decide +kernel
theorem dX5_segment_81 : decode cX5_segment 81 = .ok (.iadd, 1) := by decide +kernel
theorem dX5_segment_82 : decode cX5_segment 82 = .ok (.iload_n 2, 1) := by decide +kernel
theorem dX5_segment_83 : decode cX5_segment 83 = .ok (.iastore, 1) := by decide +kernel
theorem dX5_segment_84 : decode cX5_segment 84 = .ok (.aload_n 0, 1) := by decide +kernel
theorem dX5_segment_85 : decode cX5_segment 85 = .ok (.getfield 16, 3) := by decide +kernel
theorem dX5_segment_88 : decode cX5_segment 88 = .ok (.bipush 24, 2) := by decide +kernel
theorem dX5_segment_90 : decode cX5_segment 90 = .ok (.iload 4, 2) := by decide +kernel
theorem dX5_segment_92 : decode cX5_segment 92 = .ok (.iadd, 1) := by decide +kernel
theorem dX5_segment_93 : decode cX5_segment 93 = .ok (.iload_n 3, 1) := by decide +kernel
theorem dX5_segment_94 : decode cX5_segment 94 = .ok (.iastore, 1) := by decide +kernel
theorem dX5_segment_95 : decode cX5_segment 95 = .ok (.aload_n 0, 1) := by decide +kernel
theorem dX5_segment_96 : decode cX5_segment 96 = .ok (.getfield 16, 3) := by decide +kernel
theorem dX5_segment_99 : decode cX5_segment 99 = .ok (.bipush 60, 2) := by decide +kernel
theorem dX5_segment_101 : decode cX5_segment 101 = .ok (.dup2, 1) := by decide +kernel
theorem dX5_segment_102 : decode cX5_segment 102 = .ok (.iaload, 1) := by decide +kernel
theorem dX5_segment_103 : decode cX5_segment 103 = .ok (.iconst 1, 1) := by decide +kernel
theorem dX5_segment_104 : decode cX5_segment 104 = .ok (.iadd, 1) := by decide +kernel
theorem dX5_segment_105 : decode cX5_segment 105 = .ok (.iastore, 1) := by decide +kernel
theorem dX5_segment_106 : decode cX5_segment 106 = .ok (.iload 4, 2) := by decide +kernel
theorem dX5_segment_108 : decode cX5_segment 108 = .ok (.ireturn, 1) := by decide +kernel
theorem dX5_tells_0 : decode cX5_tells 0 = .ok (.iload_n 2, 1) := by decide +kernel
theorem dX5_tells_1 : decode cX5_tells 1 = .ok (.ifCond .ne 5, 3) := by decide +kernel
theorem dX5_tells_4 : decode cX5_tells 4 = .ok (.iconst (-1), 1) := by decide +kernel
theorem dX5_tells_5 : decode cX5_tells 5 = .ok (.ireturn, 1) := by decide +kernel
theorem dX5_tells_6 : decode cX5_tells 6 = .ok (.aload_n 0, 1) := by decide +kernel
theorem dX5_tells_7 : decode cX5_tells 7 = .ok (.invokevirtual 49, 3) := by decide +kernel
theorem dX5_tells_10 : decode cX5_tells 10 = .ok (.aload_n 0, 1) := by decide +kernel
theorem dX5_tells_11 : decode cX5_tells 11 = .ok (.getfield 16, 3) := by decide +kernel
theorem dX5_tells_14 : decode cX5_tells 14 = .ok (.iload_n 1, 1) := by decide +kernel
theorem dX5_tells_15 : decode cX5_tells 15 = .ok (.iaload, 1) := by decide +kernel
theorem dX5_tells_16 : decode cX5_tells 16 = .ok (.istore 4, 2) := by decide +kernel
theorem dX5_tells_18 : decode cX5_tells 18 = .ok (.aload_n 0, 1) := by decide +kernel
theorem dX5_tells_19 : decode cX5_tells 19 = .ok (.getfield 16, 3) := by decide +kernel
theorem dX5_tells_22 : decode cX5_tells 22 = .ok (.iload_n 1, 1) := by decide +kernel
theorem dX5_tells_23 : decode cX5_tells 23 = .ok (.iload_n 3, 1) := by decide +kernel
theorem dX5_tells_24 : decode cX5_tells 24 = .ok (.iastore, 1) := by decide +kernel
theorem dX5_tells_25 : decode cX5_tells 25 = .ok (.iload 4, 2) := by decide +kernel
theorem dX5_tells_27 : decode cX5_tells 27 = .ok (.ireturn, 1) := by decide +kernel
theorem dX5_alter_0 : decode cX5_alter 0 = .ok (.aload_n 0, 1) := by decide +kernel
theorem dX5_alter_1 : decode cX5_alter 1 = .ok (.iconst 0, 1) := by decide +kernel
theorem dX5_alter_2 : decode cX5_alter 2 = .ok (.putfield 1, 3) := by decide +kernel
theorem dX5_alter_5 : decode cX5_alter 5 = .ok (.iload_n 2, 1) := by decide +kernel
theorem dX5_alter_6 : decode cX5_alter 6 = .ok (.ifCond .ne 15, 3) := by decide +kernel
theorem dX5_alter_9 : decode cX5_alter 9 = .ok (.iload_n 3, 1) := by decide +kernel
theorem dX5_alter_10 : decode cX5_alter 10 = .ok (.i2l, 1) := by decide +kernel
theorem dX5_alter_11 : decode cX5_alter 11 = .ok (.lconst 1, 1) := by decide +kernel
theorem dX5_alter_12 : decode cX5_alter 12 = .ok (.ldc2_w 43, 3) := by decide +kernel
theorem dX5_alter_15 : decode cX5_alter 15 = .ok (.invokestatic 39, 3) := by decide +kernel
theorem dX5_alter_18 : decode cX5_alter 18 = .ok (.goto 42, 3) := by decide +kernel
theorem dX5_alter_21 : decode cX5_alter 21 = .ok (.iload_n 2, 1) := by decide +kernel
theorem dX5_alter_22 : decode cX5_alter 22 = .ok (.iconst 1, 1) := by decide +kernel
theorem dX5_alter_23 : decode cX5_alter 23 = .ok (.if_icmp .ne 15, 3) := by decide +kernel
theorem dX5_alter_26 : decode cX5_alter 26 = .ok (.iload_n 3, 1) := by decide +kernel
theorem dX5_alter_27 : decode cX5_alter 27 = .ok (.i2l, 1) := by decide +kernel
theorem dX5_alter_28 : decode cX5_alter 28 = .ok (.lconst 0, 1) := by decide +kernel
theorem dX5_alter_29 : decode cX5_alter 29 = .ok (.ldc2_w 45, 3) := by decide +kernel
theorem dX5_alter_32 : decode cX5_alter 32 = .ok (.invokestatic 39, 3) := by decide +kernel
theorem dX5_alter_35 : decode cX5_alter 35 = .ok (.goto 25, 3) := by decide +kernel
theorem dX5_alter_38 : decode cX5_alter 38 = .ok (.iload_n 2, 1) := by decide +kernel
theorem dX5_alter_39 : decode cX5_alter 39 = .ok (.iconst 2, 1) := by decide +kernel
theorem dX5_alter_40 : decode cX5_alter 40 = .ok (.if_icmp .ne 19, 3) := by decide +kernel
theorem dX5_alter_43 : decode cX5_alter 43 = .ok (.iload_n 3, 1) := by decide +kernel
theorem dX5_alter_44 : decode cX5_alter 44 = .ok (.i2l, 1) := by decide +kernel
theorem dX5_alter_45 : decode cX5_alter 45 = .ok (.lconst 0, 1) := by decide +kernel
theorem dX5_alter_46 : decode cX5_alter 46 = .ok (.ldc2_w 47, 3) := by decide +kernel
theorem dX5_alter_49 : decode cX5_alter 49 = .ok (.invokestatic 39, 3) := by decide +kernel
theorem dX5_alter_52 : decode cX5_alter 52 = .ok (.ifCond .eq 7, 3) := by decide +kernel
theorem dX5_alter_55 : decode cX5_alter 55 = .ok (.iconst 1, 1) := by decide +kernel
theorem dX5_alter_56 : decode cX5_alter 56 = .ok (.goto 4, 3) := by decide +kernel
theorem dX5_alter_59 : decode cX5_alter 59 = .ok (.iconst 0, 1) := by decide +kernel
theorem dX5_alter_60 : decode cX5_alter 60 = .ok (.istore 4, 2) := by decide +kernel
theorem dX5_alter_62 : decode cX5_alter 62 = .ok (.aload_n 0, 1) := by decide +kernel
theorem dX5_alter_63 : decode cX5_alter 63 = .ok (.bipush 12, 2) := by decide +kernel
theorem dX5_alter_65 : decode cX5_alter 65 = .ok (.iload 4, 2) := by decide +kernel
theorem dX5_alter_67 : decode cX5_alter 67 = .ok (.ifCond .eq 7, 3) := by decide +kernel
theorem dX5_alter_70 : decode cX5_alter 70 = .ok (.iload_n 2, 1) := by decide +kernel
theorem dX5_alter_71 : decode cX5_alter 71 = .ok (.goto 4, 3) := by decide +kernel
theorem dX5_alter_74 : decode cX5_alter 74 = .ok (.iconst 0, 1) := by decide +kernel
theorem dX5_alter_75 : decode cX5_alter 75 = .ok (.imul, 1) := by decide +kernel
theorem dX5_alter_76 : decode cX5_alter 76 = .ok (.iload_n 1, 1) := by decide +kernel
theorem dX5_alter_77 : decode cX5_alter 77 = .ok (.iadd, 1) := by decide +kernel
theorem dX5_alter_78 : decode cX5_alter 78 = .ok (.iload 4, 2) := by decide +kernel
theorem dX5_alter_80 : decode cX5_alter 80 = .ok (.ifCond .eq 15, 3) := by decide +kernel
theorem dX5_alter_83 : decode cX5_alter 83 = .ok (.aload_n 0, 1) := by decide +kernel
theorem dX5_alter_84 : decode cX5_alter 84 = .ok (.iload_n 1, 1) := by decide +kernel
theorem dX5_alter_85 : decode cX5_alter 85 = .ok (.invokevirtual 52, 3) := by decide +kernel
theorem dX5_alter_88 : decode cX5_alter 88 = .ok (.ifCond .eq 7, 3) := by decide +kernel
theorem dX5_alter_91 : decode cX5_alter 91 = .ok (.iconst 1, 1) := by decide +kernel
theorem dX5_alter_92 : decode cX5_alter 92 = .ok (.goto 4, 3) := by decide +kernel
theorem dX5_alter_95 : decode cX5_alter 95 = .ok (.iconst 0, 1) := by decide +kernel
theorem dX5_alter_96 : decode cX5_alter 96 = .ok (.iload_n 3, 1) := by decide +kernel
theorem dX5_alter_97 : decode cX5_alter 97 = .ok (.invokevirtual 56, 3) := by decide +kernel
theorem dX5_alter_100 : decode cX5_alter 100 = .ok (.ireturn, 1) := by decide +kernel
theorem dX5_drop_0 : decode cX5_drop 0 = .ok (.aload_n 0, 1) := by decide +kernel
theorem dX5_drop_1 : decode cX5_drop 1 = .ok (.iconst 0, 1) := by decide +kernel
theorem dX5_drop_2 : decode cX5_drop 2 = .ok (.putfield 1, 3) := by decide +kernel
theorem dX5_drop_5 : decode cX5_drop 5 = .ok (.aload_n 0, 1) := by decide +kernel
theorem dX5_drop_6 : decode cX5_drop 6 = .ok (.getfield 16, 3) := by decide +kernel
theorem dX5_drop_9 : decode cX5_drop 9 = .ok (.bipush 60, 2) := by decide +kernel
theorem dX5_drop_11 : decode cX5_drop 11 = .ok (.iaload, 1) := by decide +kernel
theorem dX5_drop_12 : decode cX5_drop 12 = .ok (.ifCond .ne 5, 3) := by decide +kernel
theorem dX5_drop_15 : decode cX5_drop 15 = .ok (.iconst (-1), 1) := by decide +kernel
theorem dX5_drop_16 : decode cX5_drop 16 = .ok (.ireturn, 1) := by decide +kernel
theorem dX5_drop_17 : decode cX5_drop 17 = .ok (.aload_n 0, 1) := by decide +kernel
theorem dX5_drop_18 : decode cX5_drop 18 = .ok (.invokevirtual 49, 3) := by decide +kernel
theorem dX5_drop_21 : decode cX5_drop 21 = .ok (.aload_n 0, 1) := by decide +kernel
theorem dX5_drop_22 : decode cX5_drop 22 = .ok (.getfield 16, 3) := by decide +kernel
theorem dX5_drop_25 : decode cX5_drop 25 = .ok (.bipush 60, 2) := by decide +kernel
theorem dX5_drop_27 : decode cX5_drop 27 = .ok (.dup2, 1) := by decide +kernel
theorem dX5_drop_28 : decode cX5_drop 28 = .ok (.iaload, 1) := by decide +kernel
theorem dX5_drop_29 : decode cX5_drop 29 = .ok (.iconst 1, 1) := by decide +kernel
theorem dX5_drop_30 : decode cX5_drop 30 = .ok (.isub, 1) := by decide +kernel
theorem dX5_drop_31 : decode cX5_drop 31 = .ok (.iastore, 1) := by decide +kernel
theorem dX5_drop_32 : decode cX5_drop 32 = .ok (.aload_n 0, 1) := by decide +kernel
theorem dX5_drop_33 : decode cX5_drop 33 = .ok (.getfield 16, 3) := by decide +kernel
theorem dX5_drop_36 : decode cX5_drop 36 = .ok (.bipush 60, 2) := by decide +kernel
theorem dX5_drop_38 : decode cX5_drop 38 = .ok (.iaload, 1) := by decide +kernel
theorem dX5_drop_39 : decode cX5_drop 39 = .ok (.ireturn, 1) := by decide +kernel
theorem dX5_start_0 : decode cX5_start 0 = .ok (.aload_n 0, 1) := by decide +kernel
theorem dX5_start_1 : decode cX5_start 1 = .ok (.iconst 0, 1) := by decide +kernel
theorem dX5_start_2 : decode cX5_start 2 = .ok (.putfield 1, 3) := by decide +kernel
theorem dX5_start_5 : decode cX5_start 5 = .ok (.aload_n 0, 1) := by decide +kernel
theorem dX5_start_6 : decode cX5_start 6 = .ok (.bipush 62, 2) := by decide +kernel
theorem dX5_start_8 : decode cX5_start 8 = .ok (.iload_n 1, 1) := by decide +kernel
theorem dX5_start_9 : decode cX5_start 9 = .ok (.i2l, 1) := by decide +kernel
theorem dX5_start_10 : decode cX5_start 10 = .ok (.lconst 0, 1) := by decide +kernel
theorem dX5_start_11 : decode cX5_start 11 = .ok (.ldc2_w 45, 3) := by decide +kernel
theorem dX5_start_14 : decode cX5_start 14 = .ok (.invokestatic 39, 3) := by decide +kernel
theorem dX5_start_17 : decode cX5_start 17 = .ok (.iload_n 1, 1) := by decide +kernel
theorem dX5_start_18 : decode cX5_start 18 = .ok (.invokevirtual 56, 3) := by decide +kernel
theorem dX5_start_21 : decode cX5_start 21 = .ok (.ireturn, 1) := by decide +kernel
theorem dX5_base_0 : decode cX5_base 0 = .ok (.aload_n 0, 1) := by decide +kernel
theorem dX5_base_1 : decode cX5_base 1 = .ok (.iconst 0, 1) := by decide +kernel
theorem dX5_base_2 : decode cX5_base 2 = .ok (.putfield 1, 3) := by decide +kernel
theorem dX5_base_5 : decode cX5_base 5 = .ok (.aload_n 0, 1) := by decide +kernel
theorem dX5_base_6 : decode cX5_base 6 = .ok (.bipush 63, 2) := by decide +kernel
theorem dX5_base_8 : decode cX5_base 8 = .ok (.iload_n 1, 1) := by decide +kernel
theorem dX5_base_9 : decode cX5_base 9 = .ok (.i2l, 1) := by decide +kernel
theorem dX5_base_10 : decode cX5_base 10 = .ok (.ldc2_w 60, 3) := by decide +kernel
theorem dX5_base_13 : decode cX5_base 13 = .ok (.ldc2_w 62, 3) := by decide +kernel
theorem dX5_base_16 : decode cX5_base 16 = .ok (.invokestatic 39, 3) := by decide +kernel
theorem dX5_base_19 : decode cX5_base 19 = .ok (.iload_n 1, 1) := by decide +kernel
theorem dX5_base_20 : decode cX5_base 20 = .ok (.invokevirtual 56, 3) := by decide +kernel
theorem dX5_base_23 : decode cX5_base 23 = .ok (.ireturn, 1) := by decide +kernel
theorem dX5_roller_0 : decode cX5_roller 0 = .ok (.aload_n 0, 1) := by decide +kernel
theorem dX5_roller_1 : decode cX5_roller 1 = .ok (.iconst 0, 1) := by decide +kernel
theorem dX5_roller_2 : decode cX5_roller 2 = .ok (.putfield 1, 3) := by decide +kernel
theorem dX5_roller_5 : decode cX5_roller 5 = .ok (.aload_n 0, 1) := by decide +kernel
theorem dX5_roller_6 : decode cX5_roller 6 = .ok (.bipush 64, 2) := by decide +kernel
theorem dX5_roller_8 : decode cX5_roller 8 = .ok (.iload_n 1, 1) := by decide +kernel
theorem dX5_roller_9 : decode cX5_roller 9 = .ok (.i2l, 1) := by decide +kernel
theorem dX5_roller_10 : decode cX5_roller 10 = .ok (.lconst 1, 1) := by decide +kernel
theorem dX5_roller_11 : decode cX5_roller 11 = .ok (.ldc2_w 62, 3) := by decide +kernel
theorem dX5_roller_14 : decode cX5_roller 14 = .ok (.invokestatic 39, 3) := by decide +kernel
theorem dX5_roller_17 : decode cX5_roller 17 = .ok (.iload_n 1, 1) := by decide +kernel
theorem dX5_roller_18 : decode cX5_roller 18 = .ok (.invokevirtual 56, 3) := by decide +kernel
theorem dX5_roller_21 : decode cX5_roller 21 = .ok (.ireturn, 1) := by decide +kernel
theorem dX5_spring_0 : decode cX5_spring 0 = .ok (.aload_n 0, 1) := by decide +kernel
theorem dX5_spring_1 : decode cX5_spring 1 = .ok (.iconst 0, 1) := by decide +kernel
theorem dX5_spring_2 : decode cX5_spring 2 = .ok (.putfield 1, 3) := by decide +kernel
theorem dX5_spring_5 : decode cX5_spring 5 = .ok (.iload_n 1, 1) := by decide +kernel
theorem dX5_spring_6 : decode cX5_spring 6 = .ok (.i2l, 1) := by decide +kernel
theorem dX5_spring_7 : decode cX5_spring 7 = .ok (.lconst 0, 1) := by decide +kernel
theorem dX5_spring_8 : decode cX5_spring 8 = .ok (.ldc2_w 64, 3) := by decide +kernel
theorem dX5_spring_11 : decode cX5_spring 11 = .ok (.invokestatic 39, 3) := by decide +kernel
theorem dX5_spring_14 : decode cX5_spring 14 = .ok (.ifCond .eq 27, 3) := by decide +kernel
theorem dX5_spring_17 : decode cX5_spring 17 = .ok (.iload_n 2, 1) := by decide +kernel
theorem dX5_spring_18 : decode cX5_spring 18 = .ok (.i2l, 1) := by decide +kernel
theorem dX5_spring_19 : decode cX5_spring 19 = .ok (.lconst 0, 1) := by decide +kernel
theorem dX5_spring_20 : decode cX5_spring 20 = .ok (.ldc2_w 45, 3) := by decide +kernel
theorem dX5_spring_23 : decode cX5_spring 23 = .ok (.invokestatic 39, 3) := by decide +kernel
theorem dX5_spring_26 : decode cX5_spring 26 = .ok (.ifCond .eq 15, 3) := by decide +kernel
theorem dX5_spring_29 : decode cX5_spring 29 = .ok (.iload_n 3, 1) := by decide +kernel
theorem dX5_spring_30 : decode cX5_spring 30 = .ok (.i2l, 1) := by decide +kernel
theorem dX5_spring_31 : decode cX5_spring 31 = .ok (.lconst 1, 1) := by decide +kernel
theorem dX5_spring_32 : decode cX5_spring 32 = .ok (.ldc2_w 45, 3) := by decide +kernel
theorem dX5_spring_35 : decode cX5_spring 35 = .ok (.invokestatic 39, 3) := by decide +kernel
theorem dX5_spring_38 : decode cX5_spring 38 = .ok (.ifCond .ne 5, 3) := by decide +kernel
theorem dX5_spring_41 : decode cX5_spring 41 = .ok (.iconst 0, 1) := by decide +kernel
theorem dX5_spring_42 : decode cX5_spring 42 = .ok (.ireturn, 1) := by decide +kernel
theorem dX5_spring_43 : decode cX5_spring 43 = .ok (.aload_n 0, 1) := by decide +kernel
theorem dX5_spring_44 : decode cX5_spring 44 = .ok (.invokevirtual 49, 3) := by decide +kernel
theorem dX5_spring_47 : decode cX5_spring 47 = .ok (.aload_n 0, 1) := by decide +kernel
theorem dX5_spring_48 : decode cX5_spring 48 = .ok (.getfield 16, 3) := by decide +kernel
theorem dX5_spring_51 : decode cX5_spring 51 = .ok (.bipush 65, 2) := by decide +kernel
theorem dX5_spring_53 : decode cX5_spring 53 = .ok (.iload_n 1, 1) := by decide +kernel
theorem dX5_spring_54 : decode cX5_spring 54 = .ok (.iastore, 1) := by decide +kernel
theorem dX5_spring_55 : decode cX5_spring 55 = .ok (.aload_n 0, 1) := by decide +kernel
theorem dX5_spring_56 : decode cX5_spring 56 = .ok (.getfield 16, 3) := by decide +kernel
theorem dX5_spring_59 : decode cX5_spring 59 = .ok (.bipush 66, 2) := by decide +kernel
theorem dX5_spring_61 : decode cX5_spring 61 = .ok (.iload_n 2, 1) := by decide +kernel
theorem dX5_spring_62 : decode cX5_spring 62 = .ok (.iastore, 1) := by decide +kernel
theorem dX5_spring_63 : decode cX5_spring 63 = .ok (.aload_n 0, 1) := by decide +kernel
theorem dX5_spring_64 : decode cX5_spring 64 = .ok (.getfield 16, 3) := by decide +kernel
theorem dX5_spring_67 : decode cX5_spring 67 = .ok (.bipush 67, 2) := by decide +kernel
theorem dX5_spring_69 : decode cX5_spring 69 = .ok (.iload_n 3, 1) := by decide +kernel
theorem dX5_spring_70 : decode cX5_spring 70 = .ok (.iastore, 1) := by decide +kernel
theorem dX5_spring_71 : decode cX5_spring 71 = .ok (.iconst 1, 1) := by decide +kernel
theorem dX5_spring_72 : decode cX5_spring 72 = .ok (.ireturn, 1) := by decide +kernel
theorem dX5_speed_0 : decode cX5_speed 0 = .ok (.aload_n 0, 1) := by decide +kernel
theorem dX5_speed_1 : decode cX5_speed 1 = .ok (.iconst 0, 1) := by decide +kernel
theorem dX5_speed_2 : decode cX5_speed 2 = .ok (.putfield 1, 3) := by decide +kernel
theorem dX5_speed_5 : decode cX5_speed 5 = .ok (.aload_n 0, 1) := by decide +kernel
theorem dX5_speed_6 : decode cX5_speed 6 = .ok (.bipush 68, 2) := by decide +kernel
theorem dX5_speed_8 : decode cX5_speed 8 = .ok (.iload_n 1, 1) := by decide +kernel
theorem dX5_speed_9 : decode cX5_speed 9 = .ok (.i2l, 1) := by decide +kernel
theorem dX5_speed_10 : decode cX5_speed 10 = .ok (.lconst 0, 1) := by decide +kernel
theorem dX5_speed_11 : decode cX5_speed 11 = .ok (.ldc2_w 62, 3) := by decide +kernel
theorem dX5_speed_14 : decode cX5_speed 14 = .ok (.invokestatic 39, 3) := by decide +kernel
theorem dX5_speed_17 : decode cX5_speed 17 = .ok (.iload_n 1, 1) := by decide +kernel
theorem dX5_speed_18 : decode cX5_speed 18 = .ok (.invokevirtual 56, 3) := by decide +kernel
theorem dX5_speed_21 : decode cX5_speed 21 = .ok (.ireturn, 1) := by decide +kernel
theorem dX5_steepest_0 : decode cX5_steepest 0 = .ok (.aload_n 0, 1) := by decide +kernel
theorem dX5_steepest_1 : decode cX5_steepest 1 = .ok (.iconst 0, 1) := by decide +kernel
theorem dX5_steepest_2 : decode cX5_steepest 2 = .ok (.putfield 1, 3) := by decide +kernel
theorem dX5_steepest_5 : decode cX5_steepest 5 = .ok (.aload_n 0, 1) := by decide +kernel
theorem dX5_steepest_6 : decode cX5_steepest 6 = .ok (.bipush 69, 2) := by decide +kernel
theorem dX5_steepest_8 : decode cX5_steepest 8 = .ok (.iload_n 1, 1) := by decide +kernel
theorem dX5_steepest_9 : decode cX5_steepest 9 = .ok (.i2l, 1) := by decide +kernel
theorem dX5_steepest_10 : decode cX5_steepest 10 = .ok (.lconst 0, 1) := by decide +kernel
theorem dX5_steepest_11 : decode cX5_steepest 11 = .ok (.ldc2_w 62, 3) := by decide +kernel
theorem dX5_steepest_14 : decode cX5_steepest 14 = .ok (.invokestatic 39, 3) := by decide +kernel
theorem dX5_steepest_17 : decode cX5_steepest 17 = .ok (.iload_n 1, 1) := by decide +kernel
theorem dX5_steepest_18 : decode cX5_steepest 18 = .ok (.invokevirtual 56, 3) := by decide +kernel
theorem dX5_steepest_21 : decode cX5_steepest 21 = .ok (.ireturn, 1) := by decide +kernel
theorem dX5_slack_0 : decode cX5_slack 0 = .ok (.aload_n 0, 1) := by decide +kernel
theorem dX5_slack_1 : decode cX5_slack 1 = .ok (.iconst 0, 1) := by decide +kernel
theorem dX5_slack_2 : decode cX5_slack 2 = .ok (.putfield 1, 3) := by decide +kernel
theorem dX5_slack_5 : decode cX5_slack 5 = .ok (.aload_n 0, 1) := by decide +kernel
theorem dX5_slack_6 : decode cX5_slack 6 = .ok (.bipush 70, 2) := by decide +kernel
theorem dX5_slack_8 : decode cX5_slack 8 = .ok (.iload_n 1, 1) := by decide +kernel
theorem dX5_slack_9 : decode cX5_slack 9 = .ok (.i2l, 1) := by decide +kernel
theorem dX5_slack_10 : decode cX5_slack 10 = .ok (.lconst 0, 1) := by decide +kernel
theorem dX5_slack_11 : decode cX5_slack 11 = .ok (.ldc2_w 66, 3) := by decide +kernel
theorem dX5_slack_14 : decode cX5_slack 14 = .ok (.invokestatic 39, 3) := by decide +kernel
theorem dX5_slack_17 : decode cX5_slack 17 = .ok (.iload_n 1, 1) := by decide +kernel
theorem dX5_slack_18 : decode cX5_slack 18 = .ok (.invokevirtual 56, 3) := by decide +kernel
theorem dX5_slack_21 : decode cX5_slack 21 = .ok (.ireturn, 1) := by decide +kernel
theorem dX5_mark_0 : decode cX5_mark 0 = .ok (.aload_n 0, 1) := by decide +kernel
theorem dX5_mark_1 : decode cX5_mark 1 = .ok (.iconst 0, 1) := by decide +kernel
theorem dX5_mark_2 : decode cX5_mark 2 = .ok (.putfield 1, 3) := by decide +kernel
theorem dX5_mark_5 : decode cX5_mark 5 = .ok (.aload_n 0, 1) := by decide +kernel
theorem dX5_mark_6 : decode cX5_mark 6 = .ok (.getfield 16, 3) := by decide +kernel
theorem dX5_mark_9 : decode cX5_mark 9 = .ok (.bipush 61, 2) := by decide +kernel
theorem dX5_mark_11 : decode cX5_mark 11 = .ok (.iaload, 1) := by decide +kernel
theorem dX5_mark_12 : decode cX5_mark 12 = .ok (.istore 4, 2) := by decide +kernel
theorem dX5_mark_14 : decode cX5_mark 14 = .ok (.aload_n 0, 1) := by decide +kernel
theorem dX5_mark_15 : decode cX5_mark 15 = .ok (.iload_n 1, 1) := by decide +kernel
theorem dX5_mark_16 : decode cX5_mark 16 = .ok (.invokevirtual 68, 3) := by decide +kernel
theorem dX5_mark_19 : decode cX5_mark 19 = .ok (.ifCond .eq 34, 3) := by decide +kernel
theorem dX5_mark_22 : decode cX5_mark 22 = .ok (.iload_n 2, 1) := by decide +kernel
theorem dX5_mark_23 : decode cX5_mark 23 = .ok (.i2l, 1) := by decide +kernel
theorem dX5_mark_24 : decode cX5_mark 24 = .ok (.lconst 0, 1) := by decide +kernel
theorem dX5_mark_25 : decode cX5_mark 25 = .ok (.ldc2_w 45, 3) := by decide +kernel
theorem dX5_mark_28 : decode cX5_mark 28 = .ok (.invokestatic 39, 3) := by decide +kernel
theorem dX5_mark_31 : decode cX5_mark 31 = .ok (.ifCond .eq 22, 3) := by decide +kernel
theorem dX5_mark_34 : decode cX5_mark 34 = .ok (.iload_n 3, 1) := by decide +kernel
theorem dX5_mark_35 : decode cX5_mark 35 = .ok (.i2l, 1) := by decide +kernel
theorem dX5_mark_36 : decode cX5_mark 36 = .ok (.lconst 0, 1) := by decide +kernel
theorem dX5_mark_37 : decode cX5_mark 37 = .ok (.ldc2_w 66, 3) := by decide +kernel
theorem dX5_mark_40 : decode cX5_mark 40 = .ok (.invokestatic 39, 3) := by decide +kernel
theorem dX5_mark_43 : decode cX5_mark 43 = .ok (.ifCond .eq 10, 3) := by decide +kernel
theorem dX5_mark_46 : decode cX5_mark 46 = .ok (.iload 4, 2) := by decide +kernel
theorem dX5_mark_48 : decode cX5_mark 48 = .ok (.bipush 8, 2) := by decide +kernel
theorem dX5_mark_50 : decode cX5_mark 50 = .ok (.if_icmp .ne 5, 3) := by decide +kernel
theorem dX5_mark_53 : decode cX5_mark 53 = .ok (.iconst (-1), 1) := by decide +kernel
theorem dX5_mark_54 : decode cX5_mark 54 = .ok (.ireturn, 1) := by decide +kernel
theorem dX5_mark_55 : decode cX5_mark 55 = .ok (.aload_n 0, 1) := by decide +kernel
theorem dX5_mark_56 : decode cX5_mark 56 = .ok (.invokevirtual 49, 3) := by decide +kernel
theorem dX5_mark_59 : decode cX5_mark 59 = .ok (.aload_n 0, 1) := by decide +kernel
theorem dX5_mark_60 : decode cX5_mark 60 = .ok (.getfield 16, 3) := by decide +kernel
theorem dX5_mark_63 : decode cX5_mark 63 = .ok (.bipush 36, 2) := by decide +kernel
theorem dX5_mark_65 : decode cX5_mark 65 = .ok (.iload 4, 2) := by decide +kernel
theorem dX5_mark_67 : decode cX5_mark 67 = .ok (.iadd, 1) := by decide +kernel
theorem dX5_mark_68 : decode cX5_mark 68 = .ok (.iload_n 1, 1) := by decide +kernel
theorem dX5_mark_69 : decode cX5_mark 69 = .ok (.iastore, 1) := by decide +kernel
theorem dX5_mark_70 : decode cX5_mark 70 = .ok (.aload_n 0, 1) := by decide +kernel
theorem dX5_mark_71 : decode cX5_mark 71 = .ok (.getfield 16, 3) := by decide +kernel
theorem dX5_mark_74 : decode cX5_mark 74 = .ok (.bipush 44, 2) := by decide +kernel
theorem dX5_mark_76 : decode cX5_mark 76 = .ok (.iload 4, 2) := by decide +kernel
theorem dX5_mark_78 : decode cX5_mark 78 = .ok (.iadd, 1) := by decide +kernel
theorem dX5_mark_79 : decode cX5_mark 79 = .ok (.iload_n 2, 1) := by decide +kernel
theorem dX5_mark_80 : decode cX5_mark 80 = .ok (.iastore, 1) := by decide +kernel
theorem dX5_mark_81 : decode cX5_mark 81 = .ok (.aload_n 0, 1) := by decide +kernel
theorem dX5_mark_82 : decode cX5_mark 82 = .ok (.getfield 16, 3) := by decide +kernel
theorem dX5_mark_85 : decode cX5_mark 85 = .ok (.bipush 52, 2) := by decide +kernel
theorem dX5_mark_87 : decode cX5_mark 87 = .ok (.iload 4, 2) := by decide +kernel
theorem dX5_mark_89 : decode cX5_mark 89 = .ok (.iadd, 1) := by decide +kernel
theorem dX5_mark_90 : decode cX5_mark 90 = .ok (.iload_n 3, 1) := by decide +kernel
theorem dX5_mark_91 : decode cX5_mark 91 = .ok (.iastore, 1) := by decide +kernel
theorem dX5_mark_92 : decode cX5_mark 92 = .ok (.aload_n 0, 1) := by decide +kernel
theorem dX5_mark_93 : decode cX5_mark 93 = .ok (.getfield 16, 3) := by decide +kernel
theorem dX5_mark_96 : decode cX5_mark 96 = .ok (.bipush 61, 2) := by decide +kernel
theorem dX5_mark_98 : decode cX5_mark 98 = .ok (.dup2, 1) := by decide +kernel
theorem dX5_mark_99 : decode cX5_mark 99 = .ok (.iaload, 1) := by decide +kernel
theorem dX5_mark_100 : decode cX5_mark 100 = .ok (.iconst 1, 1) := by decide +kernel
theorem dX5_mark_101 : decode cX5_mark 101 = .ok (.iadd, 1) := by decide +kernel
theorem dX5_mark_102 : decode cX5_mark 102 = .ok (.iastore, 1) := by decide +kernel
theorem dX5_mark_103 : decode cX5_mark 103 = .ok (.iload 4, 2) := by decide +kernel
theorem dX5_mark_105 : decode cX5_mark 105 = .ok (.ireturn, 1) := by decide +kernel
theorem dX5_unmark_0 : decode cX5_unmark 0 = .ok (.aload_n 0, 1) := by decide +kernel
theorem dX5_unmark_1 : decode cX5_unmark 1 = .ok (.iconst 0, 1) := by decide +kernel
theorem dX5_unmark_2 : decode cX5_unmark 2 = .ok (.putfield 1, 3) := by decide +kernel
theorem dX5_unmark_5 : decode cX5_unmark 5 = .ok (.aload_n 0, 1) := by decide +kernel
theorem dX5_unmark_6 : decode cX5_unmark 6 = .ok (.iload_n 1, 1) := by decide +kernel
theorem dX5_unmark_7 : decode cX5_unmark 7 = .ok (.invokevirtual 71, 3) := by decide +kernel
theorem dX5_unmark_10 : decode cX5_unmark 10 = .ok (.ifCond .ne 5, 3) := by decide +kernel
theorem dX5_unmark_13 : decode cX5_unmark 13 = .ok (.iconst 0, 1) := by decide +kernel
theorem dX5_unmark_14 : decode cX5_unmark 14 = .ok (.ireturn, 1) := by decide +kernel
theorem dX5_unmark_15 : decode cX5_unmark 15 = .ok (.aload_n 0, 1) := by decide +kernel
theorem dX5_unmark_16 : decode cX5_unmark 16 = .ok (.invokevirtual 49, 3) := by decide +kernel
theorem dX5_unmark_19 : decode cX5_unmark 19 = .ok (.aload_n 0, 1) := by decide +kernel
theorem dX5_unmark_20 : decode cX5_unmark 20 = .ok (.getfield 16, 3) := by decide +kernel
theorem dX5_unmark_23 : decode cX5_unmark 23 = .ok (.bipush 61, 2) := by decide +kernel
theorem dX5_unmark_25 : decode cX5_unmark 25 = .ok (.dup2, 1) := by decide +kernel
theorem dX5_unmark_26 : decode cX5_unmark 26 = .ok (.iaload, 1) := by decide +kernel
theorem dX5_unmark_27 : decode cX5_unmark 27 = .ok (.iconst 1, 1) := by decide +kernel
theorem dX5_unmark_28 : decode cX5_unmark 28 = .ok (.isub, 1) := by decide +kernel
theorem dX5_unmark_29 : decode cX5_unmark 29 = .ok (.iastore, 1) := by decide +kernel
theorem dX5_unmark_30 : decode cX5_unmark 30 = .ok (.iload_n 1, 1) := by decide +kernel
theorem dX5_unmark_31 : decode cX5_unmark 31 = .ok (.istore_n 2, 1) := by decide +kernel
theorem dX5_unmark_32 : decode cX5_unmark 32 = .ok (.iload_n 2, 1) := by decide +kernel
theorem dX5_unmark_33 : decode cX5_unmark 33 = .ok (.aload_n 0, 1) := by decide +kernel
theorem dX5_unmark_34 : decode cX5_unmark 34 = .ok (.getfield 16, 3) := by decide +kernel
theorem dX5_unmark_37 : decode cX5_unmark 37 = .ok (.bipush 61, 2) := by decide +kernel
theorem dX5_unmark_39 : decode cX5_unmark 39 = .ok (.iaload, 1) := by decide +kernel
theorem dX5_unmark_40 : decode cX5_unmark 40 = .ok (.if_icmp .ge 69, 3) := by decide +kernel
theorem dX5_unmark_43 : decode cX5_unmark 43 = .ok (.aload_n 0, 1) := by decide +kernel
theorem dX5_unmark_44 : decode cX5_unmark 44 = .ok (.getfield 16, 3) := by decide +kernel
theorem dX5_unmark_47 : decode cX5_unmark 47 = .ok (.bipush 36, 2) := by decide +kernel
theorem dX5_unmark_49 : decode cX5_unmark 49 = .ok (.iload_n 2, 1) := by decide +kernel
theorem dX5_unmark_50 : decode cX5_unmark 50 = .ok (.iadd, 1) := by decide +kernel
theorem dX5_unmark_51 : decode cX5_unmark 51 = .ok (.aload_n 0, 1) := by decide +kernel
theorem dX5_unmark_52 : decode cX5_unmark 52 = .ok (.getfield 16, 3) := by decide +kernel
theorem dX5_unmark_55 : decode cX5_unmark 55 = .ok (.bipush 36, 2) := by decide +kernel
theorem dX5_unmark_57 : decode cX5_unmark 57 = .ok (.iload_n 2, 1) := by decide +kernel
theorem dX5_unmark_58 : decode cX5_unmark 58 = .ok (.iadd, 1) := by decide +kernel
theorem dX5_unmark_59 : decode cX5_unmark 59 = .ok (.iconst 1, 1) := by decide +kernel
theorem dX5_unmark_60 : decode cX5_unmark 60 = .ok (.iadd, 1) := by decide +kernel
theorem dX5_unmark_61 : decode cX5_unmark 61 = .ok (.iaload, 1) := by decide +kernel
theorem dX5_unmark_62 : decode cX5_unmark 62 = .ok (.iastore, 1) := by decide +kernel
theorem dX5_unmark_63 : decode cX5_unmark 63 = .ok (.aload_n 0, 1) := by decide +kernel
theorem dX5_unmark_64 : decode cX5_unmark 64 = .ok (.getfield 16, 3) := by decide +kernel
theorem dX5_unmark_67 : decode cX5_unmark 67 = .ok (.bipush 44, 2) := by decide +kernel
theorem dX5_unmark_69 : decode cX5_unmark 69 = .ok (.iload_n 2, 1) := by decide +kernel
theorem dX5_unmark_70 : decode cX5_unmark 70 = .ok (.iadd, 1) := by decide +kernel
theorem dX5_unmark_71 : decode cX5_unmark 71 = .ok (.aload_n 0, 1) := by decide +kernel
theorem dX5_unmark_72 : decode cX5_unmark 72 = .ok (.getfield 16, 3) := by decide +kernel
theorem dX5_unmark_75 : decode cX5_unmark 75 = .ok (.bipush 44, 2) := by decide +kernel
theorem dX5_unmark_77 : decode cX5_unmark 77 = .ok (.iload_n 2, 1) := by decide +kernel
theorem dX5_unmark_78 : decode cX5_unmark 78 = .ok (.iadd, 1) := by decide +kernel
theorem dX5_unmark_79 : decode cX5_unmark 79 = .ok (.iconst 1, 1) := by decide +kernel
theorem dX5_unmark_80 : decode cX5_unmark 80 = .ok (.iadd, 1) := by decide +kernel
theorem dX5_unmark_81 : decode cX5_unmark 81 = .ok (.iaload, 1) := by decide +kernel
theorem dX5_unmark_82 : decode cX5_unmark 82 = .ok (.iastore, 1) := by decide +kernel
theorem dX5_unmark_83 : decode cX5_unmark 83 = .ok (.aload_n 0, 1) := by decide +kernel
theorem dX5_unmark_84 : decode cX5_unmark 84 = .ok (.getfield 16, 3) := by decide +kernel
theorem dX5_unmark_87 : decode cX5_unmark 87 = .ok (.bipush 52, 2) := by decide +kernel
theorem dX5_unmark_89 : decode cX5_unmark 89 = .ok (.iload_n 2, 1) := by decide +kernel
theorem dX5_unmark_90 : decode cX5_unmark 90 = .ok (.iadd, 1) := by decide +kernel
theorem dX5_unmark_91 : decode cX5_unmark 91 = .ok (.aload_n 0, 1) := by decide +kernel
theorem dX5_unmark_92 : decode cX5_unmark 92 = .ok (.getfield 16, 3) := by decide +kernel
theorem dX5_unmark_95 : decode cX5_unmark 95 = .ok (.bipush 52, 2) := by decide +kernel
theorem dX5_unmark_97 : decode cX5_unmark 97 = .ok (.iload_n 2, 1) := by decide +kernel
theorem dX5_unmark_98 : decode cX5_unmark 98 = .ok (.iadd, 1) := by decide +kernel
theorem dX5_unmark_99 : decode cX5_unmark 99 = .ok (.iconst 1, 1) := by decide +kernel
theorem dX5_unmark_100 : decode cX5_unmark 100 = .ok (.iadd, 1) := by decide +kernel
theorem dX5_unmark_101 : decode cX5_unmark 101 = .ok (.iaload, 1) := by decide +kernel
theorem dX5_unmark_102 : decode cX5_unmark 102 = .ok (.iastore, 1) := by decide +kernel
theorem dX5_unmark_103 : decode cX5_unmark 103 = .ok (.iinc 2 1, 3) := by decide +kernel
theorem dX5_unmark_106 : decode cX5_unmark 106 = .ok (.goto (-74), 3) := by decide +kernel
theorem dX5_unmark_109 : decode cX5_unmark 109 = .ok (.iconst 1, 1) := by decide +kernel
theorem dX5_unmark_110 : decode cX5_unmark 110 = .ok (.ireturn, 1) := by decide +kernel
theorem dX5_back_0 : decode cX5_back 0 = .ok (.aload_n 0, 1) := by decide +kernel
theorem dX5_back_1 : decode cX5_back 1 = .ok (.iconst 0, 1) := by decide +kernel
theorem dX5_back_2 : decode cX5_back 2 = .ok (.putfield 1, 3) := by decide +kernel
theorem dX5_back_5 : decode cX5_back 5 = .ok (.aload_n 0, 1) := by decide +kernel
theorem dX5_back_6 : decode cX5_back 6 = .ok (.getfield 32, 3) := by decide +kernel
theorem dX5_back_9 : decode cX5_back 9 = .ok (.ifCond .ne 5, 3) := by decide +kernel
theorem dX5_back_12 : decode cX5_back 12 = .ok (.iconst 0, 1) := by decide +kernel
theorem dX5_back_13 : decode cX5_back 13 = .ok (.ireturn, 1) := by decide +kernel
theorem dX5_back_14 : decode cX5_back 14 = .ok (.aload_n 0, 1) := by decide +kernel
theorem dX5_back_15 : decode cX5_back 15 = .ok (.dup, 1) := by decide +kernel
theorem dX5_back_16 : decode cX5_back 16 = .ok (.getfield 32, 3) := by decide +kernel
theorem dX5_back_19 : decode cX5_back 19 = .ok (.iconst 1, 1) := by decide +kernel
theorem dX5_back_20 : decode cX5_back 20 = .ok (.isub, 1) := by decide +kernel
theorem dX5_back_21 : decode cX5_back 21 = .ok (.putfield 32, 3) := by decide +kernel
theorem dX5_back_24 : decode cX5_back 24 = .ok (.iconst 0, 1) := by decide +kernel
theorem dX5_back_25 : decode cX5_back 25 = .ok (.istore_n 1, 1) := by decide +kernel
theorem dX5_back_26 : decode cX5_back 26 = .ok (.iload_n 1, 1) := by decide +kernel
theorem dX5_back_27 : decode cX5_back 27 = .ok (.bipush 71, 2) := by decide +kernel
theorem dX5_back_29 : decode cX5_back 29 = .ok (.if_icmp .ge 29, 3) := by decide +kernel
theorem dX5_back_32 : decode cX5_back 32 = .ok (.aload_n 0, 1) := by decide +kernel
theorem dX5_back_33 : decode cX5_back 33 = .ok (.getfield 16, 3) := by decide +kernel
theorem dX5_back_36 : decode cX5_back 36 = .ok (.iload_n 1, 1) := by decide +kernel
theorem dX5_back_37 : decode cX5_back 37 = .ok (.aload_n 0, 1) := by decide +kernel
theorem dX5_back_38 : decode cX5_back 38 = .ok (.getfield 20, 3) := by decide +kernel
theorem dX5_back_41 : decode cX5_back 41 = .ok (.bipush 71, 2) := by decide +kernel
theorem dX5_back_43 : decode cX5_back 43 = .ok (.aload_n 0, 1) := by decide +kernel
theorem dX5_back_44 : decode cX5_back 44 = .ok (.getfield 32, 3) := by decide +kernel
theorem dX5_back_47 : decode cX5_back 47 = .ok (.imul, 1) := by decide +kernel
theorem dX5_back_48 : decode cX5_back 48 = .ok (.iload_n 1, 1) := by decide +kernel
theorem dX5_back_49 : decode cX5_back 49 = .ok (.iadd, 1) := by decide +kernel
theorem dX5_back_50 : decode cX5_back 50 = .ok (.iaload, 1) := by decide +kernel
theorem dX5_back_51 : decode cX5_back 51 = .ok (.iastore, 1) := by decide +kernel
theorem dX5_back_52 : decode cX5_back 52 = .ok (.iinc 1 1, 3) := by decide +kernel
theorem dX5_back_55 : decode cX5_back 55 = .ok (.goto (-29), 3) := by decide +kernel
theorem dX5_back_58 : decode cX5_back 58 = .ok (.iconst 1, 1) := by decide +kernel
theorem dX5_back_59 : decode cX5_back 59 = .ok (.ireturn, 1) := by decide +kernel
theorem dX5_comesFrom_0 : decode cX5_comesFrom 0 = .ok (.iload_n 1, 1) := by decide +kernel
theorem dX5_comesFrom_1 : decode cX5_comesFrom 1 = .ok (.ifCond .ne 13, 3) := by decide +kernel
theorem dX5_comesFrom_4 : decode cX5_comesFrom 4 = .ok (.aload_n 0, 1) := by decide +kernel
theorem dX5_comesFrom_5 : decode cX5_comesFrom 5 = .ok (.getfield 16, 3) := by decide +kernel
theorem dX5_comesFrom_8 : decode cX5_comesFrom 8 = .ok (.bipush 62, 2) := by decide +kernel
theorem dX5_comesFrom_10 : decode cX5_comesFrom 10 = .ok (.iaload, 1) := by decide +kernel
theorem dX5_comesFrom_11 : decode cX5_comesFrom 11 = .ok (.goto 14, 3) := by decide +kernel
theorem dX5_comesFrom_14 : decode cX5_comesFrom 14 = .ok (.aload_n 0, 1) := by decide +kernel
theorem dX5_comesFrom_15 : decode cX5_comesFrom 15 = .ok (.getfield 16, 3) := by decide +kernel
theorem dX5_comesFrom_18 : decode cX5_comesFrom 18 = .ok (.bipush 12, 2) := by decide +kernel
theorem dX5_comesFrom_20 : decode cX5_comesFrom 20 = .ok (.iload_n 1, 1) := by decide +kernel
theorem dX5_comesFrom_21 : decode cX5_comesFrom 21 = .ok (.iadd, 1) := by decide +kernel
theorem dX5_comesFrom_22 : decode cX5_comesFrom 22 = .ok (.iconst 1, 1) := by decide +kernel
theorem dX5_comesFrom_23 : decode cX5_comesFrom 23 = .ok (.isub, 1) := by decide +kernel
theorem dX5_comesFrom_24 : decode cX5_comesFrom 24 = .ok (.iaload, 1) := by decide +kernel
theorem dX5_comesFrom_25 : decode cX5_comesFrom 25 = .ok (.ireturn, 1) := by decide +kernel
theorem dX5_begins_0 : decode cX5_begins 0 = .ok (.iconst 0, 1) := by decide +kernel
theorem dX5_begins_1 : decode cX5_begins 1 = .ok (.istore_n 2, 1) := by decide +kernel
theorem dX5_begins_2 : decode cX5_begins 2 = .ok (.iconst 0, 1) := by decide +kernel
theorem dX5_begins_3 : decode cX5_begins 3 = .ok (.istore_n 3, 1) := by decide +kernel
theorem dX5_begins_4 : decode cX5_begins 4 = .ok (.iload_n 3, 1) := by decide +kernel
theorem dX5_begins_5 : decode cX5_begins 5 = .ok (.iload_n 1, 1) := by decide +kernel
theorem dX5_begins_6 : decode cX5_begins 6 = .ok (.if_icmp .ge 20, 3) := by decide +kernel
theorem dX5_begins_9 : decode cX5_begins 9 = .ok (.iload_n 2, 1) := by decide +kernel
theorem dX5_begins_10 : decode cX5_begins 10 = .ok (.aload_n 0, 1) := by decide +kernel
theorem dX5_begins_11 : decode cX5_begins 11 = .ok (.getfield 16, 3) := by decide +kernel
theorem dX5_begins_14 : decode cX5_begins 14 = .ok (.iconst 0, 1) := by decide +kernel
theorem dX5_begins_15 : decode cX5_begins 15 = .ok (.iload_n 3, 1) := by decide +kernel
theorem dX5_begins_16 : decode cX5_begins 16 = .ok (.iadd, 1) := by decide +kernel
theorem dX5_begins_17 : decode cX5_begins 17 = .ok (.iaload, 1) := by decide +kernel
theorem dX5_begins_18 : decode cX5_begins 18 = .ok (.iadd, 1) := by decide +kernel
theorem dX5_begins_19 : decode cX5_begins 19 = .ok (.istore_n 2, 1) := by decide +kernel
theorem dX5_begins_20 : decode cX5_begins 20 = .ok (.iinc 3 1, 3) := by decide +kernel
theorem dX5_begins_23 : decode cX5_begins 23 = .ok (.goto (-19), 3) := by decide +kernel
theorem dX5_begins_26 : decode cX5_begins 26 = .ok (.iload_n 2, 1) := by decide +kernel
theorem dX5_begins_27 : decode cX5_begins 27 = .ok (.ireturn, 1) := by decide +kernel
theorem dX5_isDwell_0 : decode cX5_isDwell 0 = .ok (.aload_n 0, 1) := by decide +kernel
theorem dX5_isDwell_1 : decode cX5_isDwell 1 = .ok (.iload_n 1, 1) := by decide +kernel
theorem dX5_isDwell_2 : decode cX5_isDwell 2 = .ok (.invokevirtual 74, 3) := by decide +kernel
theorem dX5_isDwell_5 : decode cX5_isDwell 5 = .ok (.aload_n 0, 1) := by decide +kernel
theorem dX5_isDwell_6 : decode cX5_isDwell 6 = .ok (.getfield 16, 3) := by decide +kernel
theorem dX5_isDwell_9 : decode cX5_isDwell 9 = .ok (.bipush 12, 2) := by decide +kernel
theorem dX5_isDwell_11 : decode cX5_isDwell 11 = .ok (.iload_n 1, 1) := by decide +kernel
theorem dX5_isDwell_12 : decode cX5_isDwell 12 = .ok (.iadd, 1) := by decide +kernel
theorem dX5_isDwell_13 : decode cX5_isDwell 13 = .ok (.iaload, 1) := by decide +kernel
theorem dX5_isDwell_14 : decode cX5_isDwell 14 = .ok (.if_icmp .ne 7, 3) := by decide +kernel
theorem dX5_isDwell_17 : decode cX5_isDwell 17 = .ok (.iconst 1, 1) := by decide +kernel
theorem dX5_isDwell_18 : decode cX5_isDwell 18 = .ok (.goto 4, 3) := by decide +kernel
theorem dX5_isDwell_21 : decode cX5_isDwell 21 = .ok (.iconst 0, 1) := by decide +kernel
theorem dX5_isDwell_22 : decode cX5_isDwell 22 = .ok (.ireturn, 1) := by decide +kernel
theorem dX5_isWhole_0 : decode cX5_isWhole 0 = .ok (.aload_n 0, 1) := by decide +kernel
theorem dX5_isWhole_1 : decode cX5_isWhole 1 = .ok (.getfield 16, 3) := by decide +kernel
theorem dX5_isWhole_4 : decode cX5_isWhole 4 = .ok (.bipush 60, 2) := by decide +kernel
theorem dX5_isWhole_6 : decode cX5_isWhole 6 = .ok (.iaload, 1) := by decide +kernel
theorem dX5_isWhole_7 : decode cX5_isWhole 7 = .ok (.istore_n 1, 1) := by decide +kernel
theorem dX5_isWhole_8 : decode cX5_isWhole 8 = .ok (.iload_n 1, 1) := by decide +kernel
theorem dX5_isWhole_9 : decode cX5_isWhole 9 = .ok (.ifCond .le 40, 3) := by decide +kernel
theorem dX5_isWhole_12 : decode cX5_isWhole 12 = .ok (.aload_n 0, 1) := by decide +kernel
theorem dX5_isWhole_13 : decode cX5_isWhole 13 = .ok (.iload_n 1, 1) := by decide +kernel
theorem dX5_isWhole_14 : decode cX5_isWhole 14 = .ok (.invokevirtual 78, 3) := by decide +kernel
theorem dX5_isWhole_17 : decode cX5_isWhole 17 = .ok (.aload_n 0, 1) := by decide +kernel
theorem dX5_isWhole_18 : decode cX5_isWhole 18 = .ok (.getfield 13, 3) := by decide +kernel
theorem dX5_isWhole_21 : decode cX5_isWhole 21 = .ok (.if_icmp .ne 28, 3) := by decide +kernel
theorem dX5_isWhole_24 : decode cX5_isWhole 24 = .ok (.aload_n 0, 1) := by decide +kernel
theorem dX5_isWhole_25 : decode cX5_isWhole 25 = .ok (.getfield 16, 3) := by decide +kernel
theorem dX5_isWhole_28 : decode cX5_isWhole 28 = .ok (.bipush 12, 2) := by decide +kernel
theorem dX5_isWhole_30 : decode cX5_isWhole 30 = .ok (.iload_n 1, 1) := by decide +kernel
theorem dX5_isWhole_31 : decode cX5_isWhole 31 = .ok (.iadd, 1) := by decide +kernel
theorem dX5_isWhole_32 : decode cX5_isWhole 32 = .ok (.iconst 1, 1) := by decide +kernel
theorem dX5_isWhole_33 : decode cX5_isWhole 33 = .ok (.isub, 1) := by decide +kernel
theorem dX5_isWhole_34 : decode cX5_isWhole 34 = .ok (.iaload, 1) := by decide +kernel
theorem dX5_isWhole_35 : decode cX5_isWhole 35 = .ok (.aload_n 0, 1) := by decide +kernel
theorem dX5_isWhole_36 : decode cX5_isWhole 36 = .ok (.getfield 16, 3) := by decide +kernel
theorem dX5_isWhole_39 : decode cX5_isWhole 39 = .ok (.bipush 62, 2) := by decide +kernel
theorem dX5_isWhole_41 : decode cX5_isWhole 41 = .ok (.iaload, 1) := by decide +kernel
theorem dX5_isWhole_42 : decode cX5_isWhole 42 = .ok (.if_icmp .ne 7, 3) := by decide +kernel
theorem dX5_isWhole_45 : decode cX5_isWhole 45 = .ok (.iconst 1, 1) := by decide +kernel
theorem dX5_isWhole_46 : decode cX5_isWhole 46 = .ok (.goto 4, 3) := by decide +kernel
theorem dX5_isWhole_49 : decode cX5_isWhole 49 = .ok (.iconst 0, 1) := by decide +kernel
theorem dX5_isWhole_50 : decode cX5_isWhole 50 = .ok (.ireturn, 1) := by decide +kernel
theorem dX5_of_0 : decode cX5_of 0 = .ok (.aload_n 0, 1) := by decide +kernel
theorem dX5_of_1 : decode cX5_of 1 = .ok (.iconst 0, 1) := by decide +kernel
theorem dX5_of_2 : decode cX5_of 2 = .ok (.putfield 1, 3) := by decide +kernel
theorem dX5_of_5 : decode cX5_of 5 = .ok (.aload_n 0, 1) := by decide +kernel
theorem dX5_of_6 : decode cX5_of 6 = .ok (.iload_n 1, 1) := by decide +kernel
theorem dX5_of_7 : decode cX5_of 7 = .ok (.invokevirtual 52, 3) := by decide +kernel
theorem dX5_of_10 : decode cX5_of 10 = .ok (.ifCond .ne 5, 3) := by decide +kernel
theorem dX5_of_13 : decode cX5_of 13 = .ok (.iconst (-1), 1) := by decide +kernel
theorem dX5_of_14 : decode cX5_of 14 = .ok (.ireturn, 1) := by decide +kernel
theorem dX5_of_15 : decode cX5_of 15 = .ok (.iload_n 2, 1) := by decide +kernel
theorem dX5_of_16 : decode cX5_of 16 = .ok (.tableswitch 95 0 5 #[40, 49, 59, 69, 75, 81], 40) := by decide +kernel
theorem dX5_of_56 : decode cX5_of 56 = .ok (.aload_n 0, 1) := by decide +kernel
theorem dX5_of_57 : decode cX5_of 57 = .ok (.getfield 16, 3) := by decide +kernel
theorem dX5_of_60 : decode cX5_of 60 = .ok (.iconst 0, 1) := by decide +kernel
theorem dX5_of_61 : decode cX5_of 61 = .ok (.iload_n 1, 1) := by decide +kernel
theorem dX5_of_62 : decode cX5_of 62 = .ok (.iadd, 1) := by decide +kernel
theorem dX5_of_63 : decode cX5_of 63 = .ok (.iaload, 1) := by decide +kernel
theorem dX5_of_64 : decode cX5_of 64 = .ok (.ireturn, 1) := by decide +kernel
theorem dX5_of_65 : decode cX5_of 65 = .ok (.aload_n 0, 1) := by decide +kernel
theorem dX5_of_66 : decode cX5_of 66 = .ok (.getfield 16, 3) := by decide +kernel
theorem dX5_of_69 : decode cX5_of 69 = .ok (.bipush 12, 2) := by decide +kernel
theorem dX5_of_71 : decode cX5_of 71 = .ok (.iload_n 1, 1) := by decide +kernel
theorem dX5_of_72 : decode cX5_of 72 = .ok (.iadd, 1) := by decide +kernel
theorem dX5_of_73 : decode cX5_of 73 = .ok (.iaload, 1) := by decide +kernel
theorem dX5_of_74 : decode cX5_of 74 = .ok (.ireturn, 1) := by decide +kernel
theorem dX5_of_75 : decode cX5_of 75 = .ok (.aload_n 0, 1) := by decide +kernel
theorem dX5_of_76 : decode cX5_of 76 = .ok (.getfield 16, 3) := by decide +kernel
theorem dX5_of_79 : decode cX5_of 79 = .ok (.bipush 24, 2) := by decide +kernel
theorem dX5_of_81 : decode cX5_of 81 = .ok (.iload_n 1, 1) := by decide +kernel
theorem dX5_of_82 : decode cX5_of 82 = .ok (.iadd, 1) := by decide +kernel
theorem dX5_of_83 : decode cX5_of 83 = .ok (.iaload, 1) := by decide +kernel
theorem dX5_of_84 : decode cX5_of 84 = .ok (.ireturn, 1) := by decide +kernel
theorem dX5_of_85 : decode cX5_of 85 = .ok (.aload_n 0, 1) := by decide +kernel
theorem dX5_of_86 : decode cX5_of 86 = .ok (.iload_n 1, 1) := by decide +kernel
theorem dX5_of_87 : decode cX5_of 87 = .ok (.invokevirtual 74, 3) := by decide +kernel
theorem dX5_of_90 : decode cX5_of 90 = .ok (.ireturn, 1) := by decide +kernel
theorem dX5_of_91 : decode cX5_of 91 = .ok (.aload_n 0, 1) := by decide +kernel
theorem dX5_of_92 : decode cX5_of 92 = .ok (.iload_n 1, 1) := by decide +kernel
theorem dX5_of_93 : decode cX5_of 93 = .ok (.invokevirtual 78, 3) := by decide +kernel
theorem dX5_of_96 : decode cX5_of 96 = .ok (.ireturn, 1) := by decide +kernel
theorem dX5_of_97 : decode cX5_of 97 = .ok (.aload_n 0, 1) := by decide +kernel
theorem dX5_of_98 : decode cX5_of 98 = .ok (.iload_n 1, 1) := by decide +kernel
theorem dX5_of_99 : decode cX5_of 99 = .ok (.invokevirtual 81, 3) := by decide +kernel
theorem dX5_of_102 : decode cX5_of 102 = .ok (.ifCond .eq 7, 3) := by decide +kernel
theorem dX5_of_105 : decode cX5_of 105 = .ok (.iconst 1, 1) := by decide +kernel
theorem dX5_of_106 : decode cX5_of 106 = .ok (.goto 4, 3) := by decide +kernel
theorem dX5_of_109 : decode cX5_of 109 = .ok (.iconst 0, 1) := by decide +kernel
theorem dX5_of_110 : decode cX5_of 110 = .ok (.ireturn, 1) := by decide +kernel
theorem dX5_of_111 : decode cX5_of 111 = .ok (.iconst (-1), 1) := by decide +kernel
theorem dX5_of_112 : decode cX5_of 112 = .ok (.ireturn, 1) := by decide +kernel
theorem dX5_power_0 : decode cX5_power 0 = .ok (.lconst 1, 1) := by decide +kernel
theorem dX5_power_1 : decode cX5_power 1 = .ok (.lstore_n 3, 1) := by decide +kernel
theorem dX5_power_2 : decode cX5_power 2 = .ok (.iconst 0, 1) := by decide +kernel
theorem dX5_power_3 : decode cX5_power 3 = .ok (.istore 5, 2) := by decide +kernel
theorem dX5_power_5 : decode cX5_power 5 = .ok (.iload 5, 2) := by decide +kernel
theorem dX5_power_7 : decode cX5_power 7 = .ok (.iload_n 2, 1) := by decide +kernel
theorem dX5_power_8 : decode cX5_power 8 = .ok (.if_icmp .ge 13, 3) := by decide +kernel
theorem dX5_power_11 : decode cX5_power 11 = .ok (.lload_n 3, 1) := by decide +kernel
theorem dX5_power_12 : decode cX5_power 12 = .ok (.lload_n 0, 1) := by decide +kernel
theorem dX5_power_13 : decode cX5_power 13 = .ok (.lmul, 1) := by decide +kernel
theorem dX5_power_14 : decode cX5_power 14 = .ok (.lstore_n 3, 1) := by decide +kernel
theorem dX5_power_15 : decode cX5_power 15 = .ok (.iinc 5 1, 3) := by decide +kernel
theorem dX5_power_18 : decode cX5_power 18 = .ok (.goto (-13), 3) := by decide +kernel
theorem dX5_power_21 : decode cX5_power 21 = .ok (.lload_n 3, 1) := by decide +kernel
theorem dX5_power_22 : decode cX5_power 22 = .ok (.lreturn, 1) := by decide +kernel
theorem dX5_above_0 : decode cX5_above 0 = .ok (.iload_n 0, 1) := by decide +kernel
theorem dX5_above_1 : decode cX5_above 1 = .ok (.tableswitch 95 0 2 #[27, 29, 65], 27) := by decide +kernel
theorem dX5_above_28 : decode cX5_above 28 = .ok (.lload_n 1, 1) := by decide +kernel
theorem dX5_above_29 : decode cX5_above 29 = .ok (.lreturn, 1) := by decide +kernel
theorem dX5_above_30 : decode cX5_above 30 = .ok (.ldc2_w 84, 3) := by decide +kernel
theorem dX5_above_33 : decode cX5_above 33 = .ok (.lload_n 1, 1) := by decide +kernel
theorem dX5_above_34 : decode cX5_above 34 = .ok (.lmul, 1) := by decide +kernel
theorem dX5_above_35 : decode cX5_above 35 = .ok (.lload_n 3, 1) := by decide +kernel
theorem dX5_above_36 : decode cX5_above 36 = .ok (.lcmp, 1) := by decide +kernel
theorem dX5_above_37 : decode cX5_above 37 = .ok (.ifCond .gt 13, 3) := by decide +kernel
theorem dX5_above_40 : decode cX5_above 40 = .ok (.ldc2_w 84, 3) := by decide +kernel
theorem dX5_above_43 : decode cX5_above 43 = .ok (.lload_n 1, 1) := by decide +kernel
theorem dX5_above_44 : decode cX5_above 44 = .ok (.lmul, 1) := by decide +kernel
theorem dX5_above_45 : decode cX5_above 45 = .ok (.lload_n 1, 1) := by decide +kernel
theorem dX5_above_46 : decode cX5_above 46 = .ok (.lmul, 1) := by decide +kernel
theorem dX5_above_47 : decode cX5_above 47 = .ok (.goto 18, 3) := by decide +kernel
theorem dX5_above_50 : decode cX5_above 50 = .ok (.lload_n 3, 1) := by decide +kernel
theorem dX5_above_51 : decode cX5_above 51 = .ok (.lload_n 3, 1) := by decide +kernel
theorem dX5_above_52 : decode cX5_above 52 = .ok (.lmul, 1) := by decide +kernel
theorem dX5_above_53 : decode cX5_above 53 = .ok (.ldc2_w 84, 3) := by decide +kernel
theorem dX5_above_56 : decode cX5_above 56 = .ok (.lload_n 3, 1) := by decide +kernel
theorem dX5_above_57 : decode cX5_above 57 = .ok (.lload_n 1, 1) := by decide +kernel
theorem dX5_above_58 : decode cX5_above 58 = .ok (.lsub, 1) := by decide +kernel
theorem dX5_above_59 : decode cX5_above 59 = .ok (.lmul, 1) := by decide +kernel
theorem dX5_above_60 : decode cX5_above 60 = .ok (.lload_n 3, 1) := by decide +kernel
theorem dX5_above_61 : decode cX5_above 61 = .ok (.lload_n 1, 1) := by decide +kernel
theorem dX5_above_62 : decode cX5_above 62 = .ok (.lsub, 1) := by decide +kernel
theorem dX5_above_63 : decode cX5_above 63 = .ok (.lmul, 1) := by decide +kernel
theorem dX5_above_64 : decode cX5_above 64 = .ok (.lsub, 1) := by decide +kernel
theorem dX5_above_65 : decode cX5_above 65 = .ok (.lreturn, 1) := by decide +kernel
theorem dX5_above_66 : decode cX5_above 66 = .ok (.lload_n 1, 1) := by decide +kernel
theorem dX5_above_67 : decode cX5_above 67 = .ok (.iconst 3, 1) := by decide +kernel
theorem dX5_above_68 : decode cX5_above 68 = .ok (.invokestatic 86, 3) := by decide +kernel
theorem dX5_above_71 : decode cX5_above 71 = .ok (.ldc2_w 60, 3) := by decide +kernel
theorem dX5_above_74 : decode cX5_above 74 = .ok (.lload_n 3, 1) := by decide +kernel
theorem dX5_above_75 : decode cX5_above 75 = .ok (.lmul, 1) := by decide +kernel
theorem dX5_above_76 : decode cX5_above 76 = .ok (.lload_n 3, 1) := by decide +kernel
theorem dX5_above_77 : decode cX5_above 77 = .ok (.lmul, 1) := by decide +kernel
theorem dX5_above_78 : decode cX5_above 78 = .ok (.ldc2_w 90, 3) := by decide +kernel
theorem dX5_above_81 : decode cX5_above 81 = .ok (.lload_n 1, 1) := by decide +kernel
theorem dX5_above_82 : decode cX5_above 82 = .ok (.lmul, 1) := by decide +kernel
theorem dX5_above_83 : decode cX5_above 83 = .ok (.lload_n 3, 1) := by decide +kernel
theorem dX5_above_84 : decode cX5_above 84 = .ok (.lmul, 1) := by decide +kernel
theorem dX5_above_85 : decode cX5_above 85 = .ok (.lsub, 1) := by decide +kernel
theorem dX5_above_86 : decode cX5_above 86 = .ok (.ldc2_w 92, 3) := by decide +kernel
theorem dX5_above_89 : decode cX5_above 89 = .ok (.lload_n 1, 1) := by decide +kernel
theorem dX5_above_90 : decode cX5_above 90 = .ok (.lmul, 1) := by decide +kernel
theorem dX5_above_91 : decode cX5_above 91 = .ok (.lload_n 1, 1) := by decide +kernel
theorem dX5_above_92 : decode cX5_above 92 = .ok (.lmul, 1) := by decide +kernel
theorem dX5_above_93 : decode cX5_above 93 = .ok (.ladd, 1) := by decide +kernel
theorem dX5_above_94 : decode cX5_above 94 = .ok (.lmul, 1) := by decide +kernel
theorem dX5_above_95 : decode cX5_above 95 = .ok (.lreturn, 1) := by decide +kernel
theorem dX5_above_96 : decode cX5_above 96 = .ok (.lload_n 1, 1) := by decide +kernel
theorem dX5_above_97 : decode cX5_above 97 = .ok (.iconst 4, 1) := by decide +kernel
theorem dX5_above_98 : decode cX5_above 98 = .ok (.invokestatic 86, 3) := by decide +kernel
theorem dX5_above_101 : decode cX5_above 101 = .ok (.ldc2_w 94, 3) := by decide +kernel
theorem dX5_above_104 : decode cX5_above 104 = .ok (.lload_n 3, 1) := by decide +kernel
theorem dX5_above_105 : decode cX5_above 105 = .ok (.iconst 3, 1) := by decide +kernel
theorem dX5_above_106 : decode cX5_above 106 = .ok (.invokestatic 86, 3) := by decide +kernel
theorem dX5_above_109 : decode cX5_above 109 = .ok (.lmul, 1) := by decide +kernel
theorem dX5_above_110 : decode cX5_above 110 = .ok (.ldc2_w 96, 3) := by decide +kernel
theorem dX5_above_113 : decode cX5_above 113 = .ok (.lload_n 1, 1) := by decide +kernel
theorem dX5_above_114 : decode cX5_above 114 = .ok (.lmul, 1) := by decide +kernel
theorem dX5_above_115 : decode cX5_above 115 = .ok (.lload_n 3, 1) := by decide +kernel
theorem dX5_above_116 : decode cX5_above 116 = .ok (.lmul, 1) := by decide +kernel
theorem dX5_above_117 : decode cX5_above 117 = .ok (.lload_n 3, 1) := by decide +kernel
theorem dX5_above_118 : decode cX5_above 118 = .ok (.lmul, 1) := by decide +kernel
theorem dX5_above_119 : decode cX5_above 119 = .ok (.lsub, 1) := by decide +kernel
theorem dX5_above_120 : decode cX5_above 120 = .ok (.ldc2_w 98, 3) := by decide +kernel
theorem dX5_above_123 : decode cX5_above 123 = .ok (.lload_n 1, 1) := by decide +kernel
theorem dX5_above_124 : decode cX5_above 124 = .ok (.lmul, 1) := by decide +kernel
theorem dX5_above_125 : decode cX5_above 125 = .ok (.lload_n 1, 1) := by decide +kernel
theorem dX5_above_126 : decode cX5_above 126 = .ok (.lmul, 1) := by decide +kernel
theorem dX5_above_127 : decode cX5_above 127 = .ok (.lload_n 3, 1) := by decide +kernel
theorem dX5_above_128 : decode cX5_above 128 = .ok (.lmul, 1) := by decide +kernel
theorem dX5_above_129 : decode cX5_above 129 = .ok (.ladd, 1) := by decide +kernel
theorem dX5_above_130 : decode cX5_above 130 = .ok (.ldc2_w 100, 3) := by decide +kernel
theorem dX5_above_133 : decode cX5_above 133 = .ok (.lload_n 1, 1) := by decide +kernel
theorem dX5_above_134 : decode cX5_above 134 = .ok (.iconst 3, 1) := by decide +kernel
theorem dX5_above_135 : decode cX5_above 135 = .ok (.invokestatic 86, 3) := by decide +kernel
theorem dX5_above_138 : decode cX5_above 138 = .ok (.lmul, 1) := by decide +kernel
theorem dX5_above_139 : decode cX5_above 139 = .ok (.lsub, 1) := by decide +kernel
theorem dX5_above_140 : decode cX5_above 140 = .ok (.lmul, 1) := by decide +kernel
theorem dX5_above_141 : decode cX5_above 141 = .ok (.lreturn, 1) := by decide +kernel
theorem dX5_below_0 : decode cX5_below 0 = .ok (.lload_n 1, 1) := by decide +kernel
theorem dX5_below_1 : decode cX5_below 1 = .ok (.iload_n 0, 1) := by decide +kernel
theorem dX5_below_2 : decode cX5_below 2 = .ok (.ifCond .ne 7, 3) := by decide +kernel
theorem dX5_below_5 : decode cX5_below 5 = .ok (.iconst 1, 1) := by decide +kernel
theorem dX5_below_6 : decode cX5_below 6 = .ok (.goto 23, 3) := by decide +kernel
theorem dX5_below_9 : decode cX5_below 9 = .ok (.iload_n 0, 1) := by decide +kernel
theorem dX5_below_10 : decode cX5_below 10 = .ok (.iconst 1, 1) := by decide +kernel
theorem dX5_below_11 : decode cX5_below 11 = .ok (.if_icmp .ne 7, 3) := by decide +kernel
theorem dX5_below_14 : decode cX5_below 14 = .ok (.iconst 2, 1) := by decide +kernel
theorem dX5_below_15 : decode cX5_below 15 = .ok (.goto 14, 3) := by decide +kernel
theorem dX5_below_18 : decode cX5_below 18 = .ok (.iload_n 0, 1) := by decide +kernel
theorem dX5_below_19 : decode cX5_below 19 = .ok (.iconst 2, 1) := by decide +kernel
theorem dX5_below_20 : decode cX5_below 20 = .ok (.if_icmp .ne 7, 3) := by decide +kernel
theorem dX5_below_23 : decode cX5_below 23 = .ok (.iconst 5, 1) := by decide +kernel
theorem dX5_below_24 : decode cX5_below 24 = .ok (.goto 5, 3) := by decide +kernel
theorem dX5_below_27 : decode cX5_below 27 = .ok (.bipush 7, 2) := by decide +kernel
theorem dX5_below_29 : decode cX5_below 29 = .ok (.invokestatic 86, 3) := by decide +kernel
theorem dX5_below_32 : decode cX5_below 32 = .ok (.lreturn, 1) := by decide +kernel
theorem dX5_cut_0 : decode cX5_cut 0 = .ok (.lload_n 0, 1) := by decide +kernel
theorem dX5_cut_1 : decode cX5_cut 1 = .ok (.lload_n 2, 1) := by decide +kernel
theorem dX5_cut_2 : decode cX5_cut 2 = .ok (.ldiv, 1) := by decide +kernel
theorem dX5_cut_3 : decode cX5_cut 3 = .ok (.lstore 4, 2) := by decide +kernel
theorem dX5_cut_5 : decode cX5_cut 5 = .ok (.lload_n 0, 1) := by decide +kernel
theorem dX5_cut_6 : decode cX5_cut 6 = .ok (.lload_n 2, 1) := by decide +kernel
theorem dX5_cut_7 : decode cX5_cut 7 = .ok (.lrem, 1) := by decide +kernel
theorem dX5_cut_8 : decode cX5_cut 8 = .ok (.lconst 0, 1) := by decide +kernel
theorem dX5_cut_9 : decode cX5_cut 9 = .ok (.lcmp, 1) := by decide +kernel
theorem dX5_cut_10 : decode cX5_cut 10 = .ok (.ifCond .ge 10, 3) := by decide +kernel
theorem dX5_cut_13 : decode cX5_cut 13 = .ok (.lload 4, 2) := by decide +kernel
theorem dX5_cut_15 : decode cX5_cut 15 = .ok (.lconst 1, 1) := by decide +kernel
theorem dX5_cut_16 : decode cX5_cut 16 = .ok (.lsub, 1) := by decide +kernel
theorem dX5_cut_17 : decode cX5_cut 17 = .ok (.goto 5, 3) := by decide +kernel
theorem dX5_cut_20 : decode cX5_cut 20 = .ok (.lload 4, 2) := by decide +kernel
theorem dX5_cut_22 : decode cX5_cut 22 = .ok (.lreturn, 1) := by decide +kernel
theorem dX5_lays_0 : decode cX5_lays 0 = .ok (.iconst 0, 1) := by decide +kernel
theorem dX5_lays_1 : decode cX5_lays 1 = .ok (.istore_n 1, 1) := by decide +kernel
theorem dX5_lays_2 : decode cX5_lays 2 = .ok (.iconst 0, 1) := by decide +kernel
theorem dX5_lays_3 : decode cX5_lays 3 = .ok (.istore_n 2, 1) := by decide +kernel
theorem dX5_lays_4 : decode cX5_lays 4 = .ok (.iload_n 2, 1) := by decide +kernel
theorem dX5_lays_5 : decode cX5_lays 5 = .ok (.aload_n 0, 1) := by decide +kernel
theorem dX5_lays_6 : decode cX5_lays 6 = .ok (.getfield 16, 3) := by decide +kernel
theorem dX5_lays_9 : decode cX5_lays 9 = .ok (.bipush 60, 2) := by decide +kernel
theorem dX5_lays_11 : decode cX5_lays 11 = .ok (.iaload, 1) := by decide +kernel
theorem dX5_lays_12 : decode cX5_lays 12 = .ok (.if_icmp .ge 121, 3) := by decide +kernel
theorem dX5_lays_15 : decode cX5_lays 15 = .ok (.aload_n 0, 1) := by decide +kernel
theorem dX5_lays_16 : decode cX5_lays 16 = .ok (.iload_n 2, 1) := by decide +kernel
theorem dX5_lays_17 : decode cX5_lays 17 = .ok (.invokevirtual 74, 3) := by decide +kernel
theorem dX5_lays_20 : decode cX5_lays 20 = .ok (.istore_n 3, 1) := by decide +kernel
theorem dX5_lays_21 : decode cX5_lays 21 = .ok (.aload_n 0, 1) := by decide +kernel
theorem dX5_lays_22 : decode cX5_lays 22 = .ok (.getfield 16, 3) := by decide +kernel
theorem dX5_lays_25 : decode cX5_lays 25 = .ok (.bipush 12, 2) := by decide +kernel
theorem dX5_lays_27 : decode cX5_lays 27 = .ok (.iload_n 2, 1) := by decide +kernel
theorem dX5_lays_28 : decode cX5_lays 28 = .ok (.iadd, 1) := by decide +kernel
theorem dX5_lays_29 : decode cX5_lays 29 = .ok (.iaload, 1) := by decide +kernel
theorem dX5_lays_30 : decode cX5_lays 30 = .ok (.iload_n 3, 1) := by decide +kernel
theorem dX5_lays_31 : decode cX5_lays 31 = .ok (.isub, 1) := by decide +kernel
theorem dX5_lays_32 : decode cX5_lays 32 = .ok (.i2l, 1) := by decide +kernel
theorem dX5_lays_33 : decode cX5_lays 33 = .ok (.lstore 4, 2) := by decide +kernel
theorem dX5_lays_35 : decode cX5_lays 35 = .ok (.aload_n 0, 1) := by decide +kernel
theorem dX5_lays_36 : decode cX5_lays 36 = .ok (.getfield 16, 3) := by decide +kernel
theorem dX5_lays_39 : decode cX5_lays 39 = .ok (.iconst 0, 1) := by decide +kernel
theorem dX5_lays_40 : decode cX5_lays 40 = .ok (.iload_n 2, 1) := by decide +kernel
theorem dX5_lays_41 : decode cX5_lays 41 = .ok (.iadd, 1) := by decide +kernel
theorem dX5_lays_42 : decode cX5_lays 42 = .ok (.iaload, 1) := by decide +kernel
theorem dX5_lays_43 : decode cX5_lays 43 = .ok (.istore 6, 2) := by decide +kernel
theorem dX5_lays_45 : decode cX5_lays 45 = .ok (.iconst 0, 1) := by decide +kernel
theorem dX5_lays_46 : decode cX5_lays 46 = .ok (.istore 7, 2) := by decide +kernel
theorem dX5_lays_48 : decode cX5_lays 48 = .ok (.iload 7, 2) := by decide +kernel
theorem dX5_lays_50 : decode cX5_lays 50 = .ok (.iload 6, 2) := by decide +kernel
theorem dX5_lays_52 : decode cX5_lays 52 = .ok (.if_icmp .ge 75, 3) := by decide +kernel
theorem dX5_lays_55 : decode cX5_lays 55 = .ok (.aload_n 0, 1) := by decide +kernel
theorem dX5_lays_56 : decode cX5_lays 56 = .ok (.getfield 16, 3) := by decide +kernel
theorem dX5_lays_59 : decode cX5_lays 59 = .ok (.bipush 24, 2) := by decide +kernel
theorem dX5_lays_61 : decode cX5_lays 61 = .ok (.iload_n 2, 1) := by decide +kernel
theorem dX5_lays_62 : decode cX5_lays 62 = .ok (.iadd, 1) := by decide +kernel
theorem dX5_lays_63 : decode cX5_lays 63 = .ok (.iaload, 1) := by decide +kernel
theorem dX5_lays_64 : decode cX5_lays 64 = .ok (.iload 6, 2) := by decide +kernel
theorem dX5_lays_66 : decode cX5_lays 66 = .ok (.i2l, 1) := by decide +kernel
theorem dX5_lays_67 : decode cX5_lays 67 = .ok (.invokestatic 102, 3) := by decide +kernel
theorem dX5_lays_70 : decode cX5_lays 70 = .ok (.lstore 8, 2) := by decide +kernel
theorem dX5_lays_72 : decode cX5_lays 72 = .ok (.aload_n 0, 1) := by decide +kernel
theorem dX5_lays_73 : decode cX5_lays 73 = .ok (.getfield 23, 3) := by decide +kernel
theorem dX5_lays_76 : decode cX5_lays 76 = .ok (.iload_n 1, 1) := by decide +kernel
theorem dX5_lays_77 : decode cX5_lays 77 = .ok (.iload_n 3, 1) := by decide +kernel
theorem dX5_lays_78 : decode cX5_lays 78 = .ok (.ldc2_w 84, 3) := by decide +kernel
theorem dX5_lays_81 : decode cX5_lays 81 = .ok (.lload 4, 2) := by decide +kernel
theorem dX5_lays_83 : decode cX5_lays 83 = .ok (.lmul, 1) := by decide +kernel
theorem dX5_lays_84 : decode cX5_lays 84 = .ok (.aload_n 0, 1) := by decide +kernel
theorem dX5_lays_85 : decode cX5_lays 85 = .ok (.getfield 16, 3) := by decide +kernel
theorem dX5_lays_88 : decode cX5_lays 88 = .ok (.bipush 24, 2) := by decide +kernel
theorem dX5_lays_90 : decode cX5_lays 90 = .ok (.iload_n 2, 1) := by decide +kernel
theorem dX5_lays_91 : decode cX5_lays 91 = .ok (.iadd, 1) := by decide +kernel
theorem dX5_lays_92 : decode cX5_lays 92 = .ok (.iaload, 1) := by decide +kernel
theorem dX5_lays_93 : decode cX5_lays 93 = .ok (.iload 7, 2) := by decide +kernel
theorem dX5_lays_95 : decode cX5_lays 95 = .ok (.i2l, 1) := by decide +kernel
theorem dX5_lays_96 : decode cX5_lays 96 = .ok (.iload 6, 2) := by decide +kernel
theorem dX5_lays_98 : decode cX5_lays 98 = .ok (.i2l, 1) := by decide +kernel
theorem dX5_lays_99 : decode cX5_lays 99 = .ok (.invokestatic 106, 3) := by decide +kernel
theorem dX5_lays_102 : decode cX5_lays 102 = .ok (.lmul, 1) := by decide +kernel
theorem dX5_lays_103 : decode cX5_lays 103 = .ok (.lload 8, 2) := by decide +kernel
theorem dX5_lays_105 : decode cX5_lays 105 = .ok (.ladd, 1) := by decide +kernel
theorem dX5_lays_106 : decode cX5_lays 106 = .ok (.ldc2_w 84, 3) := by decide +kernel
theorem dX5_lays_109 : decode cX5_lays 109 = .ok (.lload 8, 2) := by decide +kernel
theorem dX5_lays_111 : decode cX5_lays 111 = .ok (.lmul, 1) := by decide +kernel
theorem dX5_lays_112 : decode cX5_lays 112 = .ok (.invokestatic 110, 3) := by decide +kernel
theorem dX5_lays_115 : decode cX5_lays 115 = .ok (.l2i, 1) := by decide +kernel
theorem dX5_lays_116 : decode cX5_lays 116 = .ok (.iadd, 1) := by decide +kernel
theorem dX5_lays_117 : decode cX5_lays 117 = .ok (.iastore, 1) := by decide +kernel
theorem dX5_lays_118 : decode cX5_lays 118 = .ok (.iinc 1 1, 3) := by decide +kernel
theorem dX5_lays_121 : decode cX5_lays 121 = .ok (.iinc 7 1, 3) := by decide +kernel
theorem dX5_lays_124 : decode cX5_lays 124 = .ok (.goto (-76), 3) := by decide +kernel
theorem dX5_lays_127 : decode cX5_lays 127 = .ok (.iinc 2 1, 3) := by decide +kernel
theorem dX5_lays_130 : decode cX5_lays 130 = .ok (.goto (-126), 3) := by decide +kernel
theorem dX5_lays_133 : decode cX5_lays 133 = .ok (.return_, 1) := by decide +kernel
theorem dX5_isLaid_0 : decode cX5_isLaid 0 = .ok (.aload_n 0, 1) := by decide +kernel
theorem dX5_isLaid_1 : decode cX5_isLaid 1 = .ok (.invokevirtual 114, 3) := by decide +kernel
theorem dX5_isLaid_4 : decode cX5_isLaid 4 = .ok (.istore_n 1, 1) := by decide +kernel
theorem dX5_isLaid_5 : decode cX5_isLaid 5 = .ok (.iload_n 1, 1) := by decide +kernel
theorem dX5_isLaid_6 : decode cX5_isLaid 6 = .ok (.ifCond .eq 7, 3) := by decide +kernel
theorem dX5_isLaid_9 : decode cX5_isLaid 9 = .ok (.aload_n 0, 1) := by decide +kernel
theorem dX5_isLaid_10 : decode cX5_isLaid 10 = .ok (.invokevirtual 118, 3) := by decide +kernel
theorem dX5_isLaid_13 : decode cX5_isLaid 13 = .ok (.iload_n 1, 1) := by decide +kernel
theorem dX5_isLaid_14 : decode cX5_isLaid 14 = .ok (.ireturn, 1) := by decide +kernel
theorem dX5_liftAt_0 : decode cX5_liftAt 0 = .ok (.aload_n 0, 1) := by decide +kernel
theorem dX5_liftAt_1 : decode cX5_liftAt 1 = .ok (.getfield 23, 3) := by decide +kernel
theorem dX5_liftAt_4 : decode cX5_liftAt 4 = .ok (.iload_n 1, 1) := by decide +kernel
theorem dX5_liftAt_5 : decode cX5_liftAt 5 = .ok (.aload_n 0, 1) := by decide +kernel
theorem dX5_liftAt_6 : decode cX5_liftAt 6 = .ok (.getfield 13, 3) := by decide +kernel
theorem dX5_liftAt_9 : decode cX5_liftAt 9 = .ok (.iadd, 1) := by decide +kernel
theorem dX5_liftAt_10 : decode cX5_liftAt 10 = .ok (.aload_n 0, 1) := by decide +kernel
theorem dX5_liftAt_11 : decode cX5_liftAt 11 = .ok (.getfield 13, 3) := by decide +kernel
theorem dX5_liftAt_14 : decode cX5_liftAt 14 = .ok (.irem, 1) := by decide +kernel
theorem dX5_liftAt_15 : decode cX5_liftAt 15 = .ok (.iaload, 1) := by decide +kernel
theorem dX5_liftAt_16 : decode cX5_liftAt 16 = .ok (.ireturn, 1) := by decide +kernel
theorem dX5_diffAt_0 : decode cX5_diffAt 0 = .ok (.iload_n 2, 1) := by decide +kernel
theorem dX5_diffAt_1 : decode cX5_diffAt 1 = .ok (.lookupswitch 62 #[(1, 27), (2, 41)], 27) := by decide +kernel
theorem dX5_diffAt_28 : decode cX5_diffAt 28 = .ok (.aload_n 0, 1) := by decide +kernel
theorem dX5_diffAt_29 : decode cX5_diffAt 29 = .ok (.iload_n 1, 1) := by decide +kernel
theorem dX5_diffAt_30 : decode cX5_diffAt 30 = .ok (.iconst 1, 1) := by decide +kernel
theorem dX5_diffAt_31 : decode cX5_diffAt 31 = .ok (.iadd, 1) := by decide +kernel
theorem dX5_diffAt_32 : decode cX5_diffAt 32 = .ok (.invokevirtual 121, 3) := by decide +kernel
theorem dX5_diffAt_35 : decode cX5_diffAt 35 = .ok (.aload_n 0, 1) := by decide +kernel
theorem dX5_diffAt_36 : decode cX5_diffAt 36 = .ok (.iload_n 1, 1) := by decide +kernel
theorem dX5_diffAt_37 : decode cX5_diffAt 37 = .ok (.invokevirtual 121, 3) := by decide +kernel
theorem dX5_diffAt_40 : decode cX5_diffAt 40 = .ok (.isub, 1) := by decide +kernel
theorem dX5_diffAt_41 : decode cX5_diffAt 41 = .ok (.ireturn, 1) := by decide +kernel
theorem dX5_diffAt_42 : decode cX5_diffAt 42 = .ok (.aload_n 0, 1) := by decide +kernel
theorem dX5_diffAt_43 : decode cX5_diffAt 43 = .ok (.iload_n 1, 1) := by decide +kernel
theorem dX5_diffAt_44 : decode cX5_diffAt 44 = .ok (.iconst 1, 1) := by decide +kernel
theorem dX5_diffAt_45 : decode cX5_diffAt 45 = .ok (.invokevirtual 124, 3) := by decide +kernel
theorem dX5_diffAt_48 : decode cX5_diffAt 48 = .ok (.aload_n 0, 1) := by decide +kernel
theorem dX5_diffAt_49 : decode cX5_diffAt 49 = .ok (.iload_n 1, 1) := by decide +kernel
theorem dX5_diffAt_50 : decode cX5_diffAt 50 = .ok (.aload_n 0, 1) := by decide +kernel
theorem dX5_diffAt_51 : decode cX5_diffAt 51 = .ok (.getfield 13, 3) := by decide +kernel
theorem dX5_diffAt_54 : decode cX5_diffAt 54 = .ok (.iadd, 1) := by decide +kernel
theorem dX5_diffAt_55 : decode cX5_diffAt 55 = .ok (.iconst 1, 1) := by decide +kernel
theorem dX5_diffAt_56 : decode cX5_diffAt 56 = .ok (.isub, 1) := by decide +kernel
theorem dX5_diffAt_57 : decode cX5_diffAt 57 = .ok (.iconst 1, 1) := by decide +kernel
theorem dX5_diffAt_58 : decode cX5_diffAt 58 = .ok (.invokevirtual 124, 3) := by decide +kernel
theorem dX5_diffAt_61 : decode cX5_diffAt 61 = .ok (.isub, 1) := by decide +kernel
theorem dX5_diffAt_62 : decode cX5_diffAt 62 = .ok (.ireturn, 1) := by decide +kernel
theorem dX5_diffAt_63 : decode cX5_diffAt 63 = .ok (.aload_n 0, 1) := by decide +kernel
theorem dX5_diffAt_64 : decode cX5_diffAt 64 = .ok (.iload_n 1, 1) := by decide +kernel
theorem dX5_diffAt_65 : decode cX5_diffAt 65 = .ok (.iconst 1, 1) := by decide +kernel
theorem dX5_diffAt_66 : decode cX5_diffAt 66 = .ok (.iadd, 1) := by decide +kernel
theorem dX5_diffAt_67 : decode cX5_diffAt 67 = .ok (.iconst 2, 1) := by decide +kernel
theorem dX5_diffAt_68 : decode cX5_diffAt 68 = .ok (.invokevirtual 124, 3) := by decide +kernel
theorem dX5_diffAt_71 : decode cX5_diffAt 71 = .ok (.aload_n 0, 1) := by decide +kernel
theorem dX5_diffAt_72 : decode cX5_diffAt 72 = .ok (.iload_n 1, 1) := by decide +kernel
theorem dX5_diffAt_73 : decode cX5_diffAt 73 = .ok (.iconst 2, 1) := by decide +kernel
theorem dX5_diffAt_74 : decode cX5_diffAt 74 = .ok (.invokevirtual 124, 3) := by decide +kernel
theorem dX5_diffAt_77 : decode cX5_diffAt 77 = .ok (.isub, 1) := by decide +kernel
theorem dX5_diffAt_78 : decode cX5_diffAt 78 = .ok (.ireturn, 1) := by decide +kernel
theorem dX5_size_0 : decode cX5_size 0 = .ok (.iload_n 0, 1) := by decide +kernel
theorem dX5_size_1 : decode cX5_size 1 = .ok (.ifCond .ge 8, 3) := by decide +kernel
theorem dX5_size_4 : decode cX5_size 4 = .ok (.iload_n 0, 1) := by decide +kernel
theorem dX5_size_5 : decode cX5_size 5 = .ok (.ineg, 1) := by decide +kernel
theorem dX5_size_6 : decode cX5_size 6 = .ok (.goto 4, 3) := by decide +kernel
theorem dX5_size_9 : decode cX5_size 9 = .ok (.iload_n 0, 1) := by decide +kernel
theorem dX5_size_10 : decode cX5_size 10 = .ok (.ireturn, 1) := by decide +kernel
theorem dX5_lift_0 : decode cX5_lift 0 = .ok (.aload_n 0, 1) := by decide +kernel
theorem dX5_lift_1 : decode cX5_lift 1 = .ok (.iconst 0, 1) := by decide +kernel
theorem dX5_lift_2 : decode cX5_lift 2 = .ok (.putfield 1, 3) := by decide +kernel
theorem dX5_lift_5 : decode cX5_lift 5 = .ok (.aload_n 0, 1) := by decide +kernel
theorem dX5_lift_6 : decode cX5_lift 6 = .ok (.iload_n 1, 1) := by decide +kernel
theorem dX5_lift_7 : decode cX5_lift 7 = .ok (.invokevirtual 68, 3) := by decide +kernel
theorem dX5_lift_10 : decode cX5_lift 10 = .ok (.ifCond .eq 19, 3) := by decide +kernel
theorem dX5_lift_13 : decode cX5_lift 13 = .ok (.aload_n 0, 1) := by decide +kernel
theorem dX5_lift_14 : decode cX5_lift 14 = .ok (.invokevirtual 128, 3) := by decide +kernel
theorem dX5_lift_17 : decode cX5_lift 17 = .ok (.ifCond .eq 12, 3) := by decide +kernel
theorem dX5_lift_20 : decode cX5_lift 20 = .ok (.aload_n 0, 1) := by decide +kernel
theorem dX5_lift_21 : decode cX5_lift 21 = .ok (.getfield 23, 3) := by decide +kernel
theorem dX5_lift_24 : decode cX5_lift 24 = .ok (.iload_n 1, 1) := by decide +kernel
theorem dX5_lift_25 : decode cX5_lift 25 = .ok (.iaload, 1) := by decide +kernel
theorem dX5_lift_26 : decode cX5_lift 26 = .ok (.goto 4, 3) := by decide +kernel
theorem dX5_lift_29 : decode cX5_lift 29 = .ok (.iconst (-1), 1) := by decide +kernel
theorem dX5_lift_30 : decode cX5_lift 30 = .ok (.ireturn, 1) := by decide +kernel
theorem dX5_diff_0 : decode cX5_diff 0 = .ok (.aload_n 0, 1) := by decide +kernel
theorem dX5_diff_1 : decode cX5_diff 1 = .ok (.aload_n 0, 1) := by decide +kernel
theorem dX5_diff_2 : decode cX5_diff 2 = .ok (.iload_n 1, 1) := by decide +kernel
theorem dX5_diff_3 : decode cX5_diff 3 = .ok (.invokevirtual 68, 3) := by decide +kernel
theorem dX5_diff_6 : decode cX5_diff 6 = .ok (.ifCond .eq 26, 3) := by decide +kernel
theorem dX5_diff_9 : decode cX5_diff 9 = .ok (.iload_n 2, 1) := by decide +kernel
theorem dX5_diff_10 : decode cX5_diff 10 = .ok (.i2l, 1) := by decide +kernel
theorem dX5_diff_11 : decode cX5_diff 11 = .ok (.lconst 1, 1) := by decide +kernel
theorem dX5_diff_12 : decode cX5_diff 12 = .ok (.ldc2_w 47, 3) := by decide +kernel
theorem dX5_diff_15 : decode cX5_diff 15 = .ok (.invokestatic 39, 3) := by decide +kernel
theorem dX5_diff_18 : decode cX5_diff 18 = .ok (.ifCond .eq 14, 3) := by decide +kernel
theorem dX5_diff_21 : decode cX5_diff 21 = .ok (.aload_n 0, 1) := by decide +kernel
theorem dX5_diff_22 : decode cX5_diff 22 = .ok (.invokevirtual 128, 3) := by decide +kernel
theorem dX5_diff_25 : decode cX5_diff 25 = .ok (.ifCond .eq 7, 3) := by decide +kernel
theorem dX5_diff_28 : decode cX5_diff 28 = .ok (.iconst 0, 1) := by decide +kernel
theorem dX5_diff_29 : decode cX5_diff 29 = .ok (.goto 4, 3) := by decide +kernel
theorem dX5_diff_32 : decode cX5_diff 32 = .ok (.iconst 1, 1) := by decide +kernel
theorem dX5_diff_33 : decode cX5_diff 33 = .ok (.putfield 1, 3) := by decide +kernel
theorem dX5_diff_36 : decode cX5_diff 36 = .ok (.aload_n 0, 1) := by decide +kernel
theorem dX5_diff_37 : decode cX5_diff 37 = .ok (.getfield 1, 3) := by decide +kernel
theorem dX5_diff_40 : decode cX5_diff 40 = .ok (.ifCond .le 7, 3) := by decide +kernel
theorem dX5_diff_43 : decode cX5_diff 43 = .ok (.iconst 0, 1) := by decide +kernel
theorem dX5_diff_44 : decode cX5_diff 44 = .ok (.goto 9, 3) := by decide +kernel
theorem dX5_diff_47 : decode cX5_diff 47 = .ok (.aload_n 0, 1) := by decide +kernel
theorem dX5_diff_48 : decode cX5_diff 48 = .ok (.iload_n 1, 1) := by decide +kernel
theorem dX5_diff_49 : decode cX5_diff 49 = .ok (.iload_n 2, 1) := by decide +kernel
theorem dX5_diff_50 : decode cX5_diff 50 = .ok (.invokevirtual 124, 3) := by decide +kernel
theorem dX5_diff_53 : decode cX5_diff 53 = .ok (.ireturn, 1) := by decide +kernel
theorem dX5_greatest_0 : decode cX5_greatest 0 = .ok (.iconst 0, 1) := by decide +kernel
theorem dX5_greatest_1 : decode cX5_greatest 1 = .ok (.istore_n 2, 1) := by decide +kernel
theorem dX5_greatest_2 : decode cX5_greatest 2 = .ok (.iconst 0, 1) := by decide +kernel
theorem dX5_greatest_3 : decode cX5_greatest 3 = .ok (.istore_n 3, 1) := by decide +kernel
theorem dX5_greatest_4 : decode cX5_greatest 4 = .ok (.iload_n 3, 1) := by decide +kernel
theorem dX5_greatest_5 : decode cX5_greatest 5 = .ok (.aload_n 0, 1) := by decide +kernel
theorem dX5_greatest_6 : decode cX5_greatest 6 = .ok (.getfield 13, 3) := by decide +kernel
theorem dX5_greatest_9 : decode cX5_greatest 9 = .ok (.if_icmp .ge 33, 3) := by decide +kernel
theorem dX5_greatest_12 : decode cX5_greatest 12 = .ok (.aload_n 0, 1) := by decide +kernel
theorem dX5_greatest_13 : decode cX5_greatest 13 = .ok (.iload_n 3, 1) := by decide +kernel
theorem dX5_greatest_14 : decode cX5_greatest 14 = .ok (.iload_n 1, 1) := by decide +kernel
theorem dX5_greatest_15 : decode cX5_greatest 15 = .ok (.invokevirtual 124, 3) := by decide +kernel
theorem dX5_greatest_18 : decode cX5_greatest 18 = .ok (.invokestatic 131, 3) := by decide +kernel
theorem dX5_greatest_21 : decode cX5_greatest 21 = .ok (.istore 4, 2) := by decide +kernel
theorem dX5_greatest_23 : decode cX5_greatest 23 = .ok (.iload 4, 2) := by decide +kernel
theorem dX5_greatest_25 : decode cX5_greatest 25 = .ok (.iload_n 2, 1) := by decide +kernel
theorem dX5_greatest_26 : decode cX5_greatest 26 = .ok (.if_icmp .le 8, 3) := by decide +kernel
theorem dX5_greatest_29 : decode cX5_greatest 29 = .ok (.iload 4, 2) := by decide +kernel
theorem dX5_greatest_31 : decode cX5_greatest 31 = .ok (.goto 4, 3) := by decide +kernel
theorem dX5_greatest_34 : decode cX5_greatest 34 = .ok (.iload_n 2, 1) := by decide +kernel
theorem dX5_greatest_35 : decode cX5_greatest 35 = .ok (.istore_n 2, 1) := by decide +kernel
theorem dX5_greatest_36 : decode cX5_greatest 36 = .ok (.iinc 3 1, 3) := by decide +kernel
theorem dX5_greatest_39 : decode cX5_greatest 39 = .ok (.goto (-35), 3) := by decide +kernel
theorem dX5_greatest_42 : decode cX5_greatest 42 = .ok (.iload_n 2, 1) := by decide +kernel
theorem dX5_greatest_43 : decode cX5_greatest 43 = .ok (.ireturn, 1) := by decide +kernel
theorem dX5_most_0 : decode cX5_most 0 = .ok (.aload_n 0, 1) := by decide +kernel
theorem dX5_most_1 : decode cX5_most 1 = .ok (.iconst 0, 1) := by decide +kernel
theorem dX5_most_2 : decode cX5_most 2 = .ok (.putfield 1, 3) := by decide +kernel
theorem dX5_most_5 : decode cX5_most 5 = .ok (.iload_n 1, 1) := by decide +kernel
theorem dX5_most_6 : decode cX5_most 6 = .ok (.i2l, 1) := by decide +kernel
theorem dX5_most_7 : decode cX5_most 7 = .ok (.lconst 1, 1) := by decide +kernel
theorem dX5_most_8 : decode cX5_most 8 = .ok (.ldc2_w 47, 3) := by decide +kernel
theorem dX5_most_11 : decode cX5_most 11 = .ok (.invokestatic 39, 3) := by decide +kernel
theorem dX5_most_14 : decode cX5_most 14 = .ok (.ifCond .eq 22, 3) := by decide +kernel
theorem dX5_most_17 : decode cX5_most 17 = .ok (.iload_n 2, 1) := by decide +kernel
theorem dX5_most_18 : decode cX5_most 18 = .ok (.i2l, 1) := by decide +kernel
theorem dX5_most_19 : decode cX5_most 19 = .ok (.lconst 0, 1) := by decide +kernel
theorem dX5_most_20 : decode cX5_most 20 = .ok (.ldc2_w 84, 3) := by decide +kernel
theorem dX5_most_23 : decode cX5_most 23 = .ok (.invokestatic 39, 3) := by decide +kernel
theorem dX5_most_26 : decode cX5_most 26 = .ok (.ifCond .eq 10, 3) := by decide +kernel
theorem dX5_most_29 : decode cX5_most 29 = .ok (.aload_n 0, 1) := by decide +kernel
theorem dX5_most_30 : decode cX5_most 30 = .ok (.invokevirtual 128, 3) := by decide +kernel
theorem dX5_most_33 : decode cX5_most 33 = .ok (.ifCond .ne 5, 3) := by decide +kernel
theorem dX5_most_36 : decode cX5_most 36 = .ok (.iconst (-1), 1) := by decide +kernel
theorem dX5_most_37 : decode cX5_most 37 = .ok (.ireturn, 1) := by decide +kernel
theorem dX5_most_38 : decode cX5_most 38 = .ok (.aload_n 0, 1) := by decide +kernel
theorem dX5_most_39 : decode cX5_most 39 = .ok (.iload_n 1, 1) := by decide +kernel
theorem dX5_most_40 : decode cX5_most 40 = .ok (.invokevirtual 134, 3) := by decide +kernel
theorem dX5_most_43 : decode cX5_most 43 = .ok (.istore_n 3, 1) := by decide +kernel
theorem dX5_most_44 : decode cX5_most 44 = .ok (.iconst (-1), 1) := by decide +kernel
theorem dX5_most_45 : decode cX5_most 45 = .ok (.istore 4, 2) := by decide +kernel
theorem dX5_most_47 : decode cX5_most 47 = .ok (.iconst 0, 1) := by decide +kernel
theorem dX5_most_48 : decode cX5_most 48 = .ok (.istore 5, 2) := by decide +kernel
theorem dX5_most_50 : decode cX5_most 50 = .ok (.iconst 0, 1) := by decide +kernel
theorem dX5_most_51 : decode cX5_most 51 = .ok (.istore 6, 2) := by decide +kernel
theorem dX5_most_53 : decode cX5_most 53 = .ok (.iload 6, 2) := by decide +kernel
theorem dX5_most_55 : decode cX5_most 55 = .ok (.aload_n 0, 1) := by decide +kernel
theorem dX5_most_56 : decode cX5_most 56 = .ok (.getfield 13, 3) := by decide +kernel
theorem dX5_most_59 : decode cX5_most 59 = .ok (.if_icmp .ge 40, 3) := by decide +kernel
theorem dX5_most_62 : decode cX5_most 62 = .ok (.aload_n 0, 1) := by decide +kernel
theorem dX5_most_63 : decode cX5_most 63 = .ok (.iload 6, 2) := by decide +kernel
theorem dX5_most_65 : decode cX5_most 65 = .ok (.iload_n 1, 1) := by decide +kernel
theorem dX5_most_66 : decode cX5_most 66 = .ok (.invokevirtual 124, 3) := by decide +kernel
theorem dX5_most_69 : decode cX5_most 69 = .ok (.invokestatic 131, 3) := by decide +kernel
theorem dX5_most_72 : decode cX5_most 72 = .ok (.iload_n 3, 1) := by decide +kernel
theorem dX5_most_73 : decode cX5_most 73 = .ok (.if_icmp .ne 20, 3) := by decide +kernel
theorem dX5_most_76 : decode cX5_most 76 = .ok (.iload 4, 2) := by decide +kernel
theorem dX5_most_78 : decode cX5_most 78 = .ok (.ifCond .ge 8, 3) := by decide +kernel
theorem dX5_most_81 : decode cX5_most 81 = .ok (.iload 6, 2) := by decide +kernel
theorem dX5_most_83 : decode cX5_most 83 = .ok (.goto 5, 3) := by decide +kernel
theorem dX5_most_86 : decode cX5_most 86 = .ok (.iload 4, 2) := by decide +kernel
theorem dX5_most_88 : decode cX5_most 88 = .ok (.istore 4, 2) := by decide +kernel
theorem dX5_most_90 : decode cX5_most 90 = .ok (.iinc 5 1, 3) := by decide +kernel
theorem dX5_most_93 : decode cX5_most 93 = .ok (.iinc 6 1, 3) := by decide +kernel
theorem dX5_most_96 : decode cX5_most 96 = .ok (.goto (-43), 3) := by decide +kernel
theorem dX5_most_99 : decode cX5_most 99 = .ok (.iload_n 2, 1) := by decide +kernel
theorem dX5_most_100 : decode cX5_most 100 = .ok (.ifCond .ne 7, 3) := by decide +kernel
theorem dX5_most_103 : decode cX5_most 103 = .ok (.iload_n 3, 1) := by decide +kernel
theorem dX5_most_104 : decode cX5_most 104 = .ok (.goto 15, 3) := by decide +kernel
theorem dX5_most_107 : decode cX5_most 107 = .ok (.iload_n 2, 1) := by decide +kernel
theorem dX5_most_108 : decode cX5_most 108 = .ok (.iconst 1, 1) := by decide +kernel
theorem dX5_most_109 : decode cX5_most 109 = .ok (.if_icmp .ne 8, 3) := by decide +kernel
theorem dX5_most_112 : decode cX5_most 112 = .ok (.iload 4, 2) := by decide +kernel
theorem dX5_most_114 : decode cX5_most 114 = .ok (.goto 5, 3) := by decide +kernel
theorem dX5_most_117 : decode cX5_most 117 = .ok (.iload 5, 2) := by decide +kernel
theorem dX5_most_119 : decode cX5_most 119 = .ok (.ireturn, 1) := by decide +kernel
theorem dX5_border_0 : decode cX5_border 0 = .ok (.aload_n 0, 1) := by decide +kernel
theorem dX5_border_1 : decode cX5_border 1 = .ok (.iconst 0, 1) := by decide +kernel
theorem dX5_border_2 : decode cX5_border 2 = .ok (.putfield 1, 3) := by decide +kernel
theorem dX5_border_5 : decode cX5_border 5 = .ok (.aload_n 0, 1) := by decide +kernel
theorem dX5_border_6 : decode cX5_border 6 = .ok (.iload_n 1, 1) := by decide +kernel
theorem dX5_border_7 : decode cX5_border 7 = .ok (.invokevirtual 52, 3) := by decide +kernel
theorem dX5_border_10 : decode cX5_border 10 = .ok (.ifCond .eq 10, 3) := by decide +kernel
theorem dX5_border_13 : decode cX5_border 13 = .ok (.aload_n 0, 1) := by decide +kernel
theorem dX5_border_14 : decode cX5_border 14 = .ok (.invokevirtual 128, 3) := by decide +kernel
theorem dX5_border_17 : decode cX5_border 17 = .ok (.ifCond .ne 5, 3) := by decide +kernel
theorem dX5_border_20 : decode cX5_border 20 = .ok (.iconst (-1), 1) := by decide +kernel
theorem dX5_border_21 : decode cX5_border 21 = .ok (.ireturn, 1) := by decide +kernel
theorem dX5_border_22 : decode cX5_border 22 = .ok (.aload_n 0, 1) := by decide +kernel
theorem dX5_border_23 : decode cX5_border 23 = .ok (.iload_n 1, 1) := by decide +kernel
theorem dX5_border_24 : decode cX5_border 24 = .ok (.invokevirtual 78, 3) := by decide +kernel
theorem dX5_border_27 : decode cX5_border 27 = .ok (.istore_n 2, 1) := by decide +kernel
theorem dX5_border_28 : decode cX5_border 28 = .ok (.iconst 0, 1) := by decide +kernel
theorem dX5_border_29 : decode cX5_border 29 = .ok (.istore_n 3, 1) := by decide +kernel
theorem dX5_border_30 : decode cX5_border 30 = .ok (.iload_n 3, 1) := by decide +kernel
theorem dX5_border_31 : decode cX5_border 31 = .ok (.iconst 3, 1) := by decide +kernel
theorem dX5_border_32 : decode cX5_border 32 = .ok (.if_icmp .ge 46, 3) := by decide +kernel
theorem dX5_border_35 : decode cX5_border 35 = .ok (.aload_n 0, 1) := by decide +kernel
theorem dX5_border_36 : decode cX5_border 36 = .ok (.iload_n 2, 1) := by decide +kernel
theorem dX5_border_37 : decode cX5_border 37 = .ok (.iload_n 3, 1) := by decide +kernel
theorem dX5_border_38 : decode cX5_border 38 = .ok (.iconst 1, 1) := by decide +kernel
theorem dX5_border_39 : decode cX5_border 39 = .ok (.iadd, 1) := by decide +kernel
theorem dX5_border_40 : decode cX5_border 40 = .ok (.invokevirtual 124, 3) := by decide +kernel
theorem dX5_border_43 : decode cX5_border 43 = .ok (.aload_n 0, 1) := by decide +kernel
theorem dX5_border_44 : decode cX5_border 44 = .ok (.iload_n 2, 1) := by decide +kernel
theorem dX5_border_45 : decode cX5_border 45 = .ok (.aload_n 0, 1) := by decide +kernel
theorem dX5_border_46 : decode cX5_border 46 = .ok (.getfield 13, 3) := by decide +kernel
theorem dX5_border_49 : decode cX5_border 49 = .ok (.iadd, 1) := by decide +kernel
theorem dX5_border_50 : decode cX5_border 50 = .ok (.iconst 1, 1) := by decide +kernel
theorem dX5_border_51 : decode cX5_border 51 = .ok (.isub, 1) := by decide +kernel
theorem dX5_border_52 : decode cX5_border 52 = .ok (.iload_n 3, 1) := by decide +kernel
theorem dX5_border_53 : decode cX5_border 53 = .ok (.iconst 1, 1) := by decide +kernel
theorem dX5_border_54 : decode cX5_border 54 = .ok (.iadd, 1) := by decide +kernel
theorem dX5_border_55 : decode cX5_border 55 = .ok (.invokevirtual 124, 3) := by decide +kernel
theorem dX5_border_58 : decode cX5_border 58 = .ok (.isub, 1) := by decide +kernel
theorem dX5_border_59 : decode cX5_border 59 = .ok (.invokestatic 131, 3) := by decide +kernel
theorem dX5_border_62 : decode cX5_border 62 = .ok (.aload_n 0, 1) := by decide +kernel
theorem dX5_border_63 : decode cX5_border 63 = .ok (.getfield 16, 3) := by decide +kernel
theorem dX5_border_66 : decode cX5_border 66 = .ok (.bipush 70, 2) := by decide +kernel
theorem dX5_border_68 : decode cX5_border 68 = .ok (.iaload, 1) := by decide +kernel
theorem dX5_border_69 : decode cX5_border 69 = .ok (.if_icmp .gt 9, 3) := by decide +kernel
theorem dX5_border_72 : decode cX5_border 72 = .ok (.iinc 3 1, 3) := by decide +kernel
theorem dX5_border_75 : decode cX5_border 75 = .ok (.goto (-45), 3) := by decide +kernel
theorem dX5_border_78 : decode cX5_border 78 = .ok (.iload_n 3, 1) := by decide +kernel
theorem dX5_border_79 : decode cX5_border 79 = .ok (.ireturn, 1) := by decide +kernel
theorem dX5_farOf_0 : decode cX5_farOf 0 = .ok (.aload_n 0, 1) := by decide +kernel
theorem dX5_farOf_1 : decode cX5_farOf 1 = .ok (.getfield 16, 3) := by decide +kernel
theorem dX5_farOf_4 : decode cX5_farOf 4 = .ok (.bipush 63, 2) := by decide +kernel
theorem dX5_farOf_6 : decode cX5_farOf 6 = .ok (.iaload, 1) := by decide +kernel
theorem dX5_farOf_7 : decode cX5_farOf 7 = .ok (.aload_n 0, 1) := by decide +kernel
theorem dX5_farOf_8 : decode cX5_farOf 8 = .ok (.getfield 16, 3) := by decide +kernel
theorem dX5_farOf_11 : decode cX5_farOf 11 = .ok (.bipush 64, 2) := by decide +kernel
theorem dX5_farOf_13 : decode cX5_farOf 13 = .ok (.iaload, 1) := by decide +kernel
theorem dX5_farOf_14 : decode cX5_farOf 14 = .ok (.iadd, 1) := by decide +kernel
theorem dX5_farOf_15 : decode cX5_farOf 15 = .ok (.aload_n 0, 1) := by decide +kernel
theorem dX5_farOf_16 : decode cX5_farOf 16 = .ok (.iload_n 1, 1) := by decide +kernel
theorem dX5_farOf_17 : decode cX5_farOf 17 = .ok (.invokevirtual 121, 3) := by decide +kernel
theorem dX5_farOf_20 : decode cX5_farOf 20 = .ok (.iadd, 1) := by decide +kernel
theorem dX5_farOf_21 : decode cX5_farOf 21 = .ok (.i2l, 1) := by decide +kernel
theorem dX5_farOf_22 : decode cX5_farOf 22 = .ok (.lreturn, 1) := by decide +kernel
theorem dX5_quick_0 : decode cX5_quick 0 = .ok (.aload_n 0, 1) := by decide +kernel
theorem dX5_quick_1 : decode cX5_quick 1 = .ok (.iload_n 1, 1) := by decide +kernel
theorem dX5_quick_2 : decode cX5_quick 2 = .ok (.iconst 1, 1) := by decide +kernel
theorem dX5_quick_3 : decode cX5_quick 3 = .ok (.iadd, 1) := by decide +kernel
theorem dX5_quick_4 : decode cX5_quick 4 = .ok (.invokevirtual 121, 3) := by decide +kernel
theorem dX5_quick_7 : decode cX5_quick 7 = .ok (.aload_n 0, 1) := by decide +kernel
theorem dX5_quick_8 : decode cX5_quick 8 = .ok (.iload_n 1, 1) := by decide +kernel
theorem dX5_quick_9 : decode cX5_quick 9 = .ok (.aload_n 0, 1) := by decide +kernel
theorem dX5_quick_10 : decode cX5_quick 10 = .ok (.getfield 13, 3) := by decide +kernel
theorem dX5_quick_13 : decode cX5_quick 13 = .ok (.iadd, 1) := by decide +kernel
theorem dX5_quick_14 : decode cX5_quick 14 = .ok (.iconst 1, 1) := by decide +kernel
theorem dX5_quick_15 : decode cX5_quick 15 = .ok (.isub, 1) := by decide +kernel
theorem dX5_quick_16 : decode cX5_quick 16 = .ok (.invokevirtual 121, 3) := by decide +kernel
theorem dX5_quick_19 : decode cX5_quick 19 = .ok (.isub, 1) := by decide +kernel
theorem dX5_quick_20 : decode cX5_quick 20 = .ok (.i2l, 1) := by decide +kernel
theorem dX5_quick_21 : decode cX5_quick 21 = .ok (.ldc2_w 137, 3) := by decide +kernel
theorem dX5_quick_24 : decode cX5_quick 24 = .ok (.lmul, 1) := by decide +kernel
theorem dX5_quick_25 : decode cX5_quick 25 = .ok (.aload_n 0, 1) := by decide +kernel
theorem dX5_quick_26 : decode cX5_quick 26 = .ok (.getfield 13, 3) := by decide +kernel
theorem dX5_quick_29 : decode cX5_quick 29 = .ok (.i2l, 1) := by decide +kernel
theorem dX5_quick_30 : decode cX5_quick 30 = .ok (.lmul, 1) := by decide +kernel
theorem dX5_quick_31 : decode cX5_quick 31 = .ok (.ldc2_w 139, 3) := by decide +kernel
theorem dX5_quick_34 : decode cX5_quick 34 = .ok (.invokestatic 110, 3) := by decide +kernel
theorem dX5_quick_37 : decode cX5_quick 37 = .ok (.lreturn, 1) := by decide +kernel
theorem dX5_bent_0 : decode cX5_bent 0 = .ok (.aload_n 0, 1) := by decide +kernel
theorem dX5_bent_1 : decode cX5_bent 1 = .ok (.iload_n 1, 1) := by decide +kernel
theorem dX5_bent_2 : decode cX5_bent 2 = .ok (.iconst 2, 1) := by decide +kernel
theorem dX5_bent_3 : decode cX5_bent 3 = .ok (.invokevirtual 124, 3) := by decide +kernel
theorem dX5_bent_6 : decode cX5_bent 6 = .ok (.i2l, 1) := by decide +kernel
theorem dX5_bent_7 : decode cX5_bent 7 = .ok (.ldc2_w 141, 3) := by decide +kernel
theorem dX5_bent_10 : decode cX5_bent 10 = .ok (.lmul, 1) := by decide +kernel
theorem dX5_bent_11 : decode cX5_bent 11 = .ok (.aload_n 0, 1) := by decide +kernel
theorem dX5_bent_12 : decode cX5_bent 12 = .ok (.getfield 13, 3) := by decide +kernel
theorem dX5_bent_15 : decode cX5_bent 15 = .ok (.i2l, 1) := by decide +kernel
theorem dX5_bent_16 : decode cX5_bent 16 = .ok (.lmul, 1) := by decide +kernel
theorem dX5_bent_17 : decode cX5_bent 17 = .ok (.aload_n 0, 1) := by decide +kernel
theorem dX5_bent_18 : decode cX5_bent 18 = .ok (.getfield 13, 3) := by decide +kernel
theorem dX5_bent_21 : decode cX5_bent 21 = .ok (.i2l, 1) := by decide +kernel
theorem dX5_bent_22 : decode cX5_bent 22 = .ok (.lmul, 1) := by decide +kernel
theorem dX5_bent_23 : decode cX5_bent 23 = .ok (.ldc2_w 143, 3) := by decide +kernel
theorem dX5_bent_26 : decode cX5_bent 26 = .ok (.invokestatic 110, 3) := by decide +kernel
theorem dX5_bent_29 : decode cX5_bent 29 = .ok (.lreturn, 1) := by decide +kernel
theorem dX5_bend_0 : decode cX5_bend 0 = .ok (.aload_n 0, 1) := by decide +kernel
theorem dX5_bend_1 : decode cX5_bend 1 = .ok (.iload_n 1, 1) := by decide +kernel
theorem dX5_bend_2 : decode cX5_bend 2 = .ok (.invokevirtual 145, 3) := by decide +kernel
theorem dX5_bend_5 : decode cX5_bend 5 = .ok (.aload_n 0, 1) := by decide +kernel
theorem dX5_bend_6 : decode cX5_bend 6 = .ok (.iload_n 1, 1) := by decide +kernel
theorem dX5_bend_7 : decode cX5_bend 7 = .ok (.invokevirtual 145, 3) := by decide +kernel
theorem dX5_bend_10 : decode cX5_bend 10 = .ok (.lmul, 1) := by decide +kernel
theorem dX5_bend_11 : decode cX5_bend 11 = .ok (.ldc2_w 84, 3) := by decide +kernel
theorem dX5_bend_14 : decode cX5_bend 14 = .ok (.aload_n 0, 1) := by decide +kernel
theorem dX5_bend_15 : decode cX5_bend 15 = .ok (.iload_n 1, 1) := by decide +kernel
theorem dX5_bend_16 : decode cX5_bend 16 = .ok (.invokevirtual 149, 3) := by decide +kernel
theorem dX5_bend_19 : decode cX5_bend 19 = .ok (.lmul, 1) := by decide +kernel
theorem dX5_bend_20 : decode cX5_bend 20 = .ok (.aload_n 0, 1) := by decide +kernel
theorem dX5_bend_21 : decode cX5_bend 21 = .ok (.iload_n 1, 1) := by decide +kernel
theorem dX5_bend_22 : decode cX5_bend 22 = .ok (.invokevirtual 149, 3) := by decide +kernel
theorem dX5_bend_25 : decode cX5_bend 25 = .ok (.lmul, 1) := by decide +kernel
theorem dX5_bend_26 : decode cX5_bend 26 = .ok (.ladd, 1) := by decide +kernel
theorem dX5_bend_27 : decode cX5_bend 27 = .ok (.aload_n 0, 1) := by decide +kernel
theorem dX5_bend_28 : decode cX5_bend 28 = .ok (.iload_n 1, 1) := by decide +kernel
theorem dX5_bend_29 : decode cX5_bend 29 = .ok (.invokevirtual 145, 3) := by decide +kernel
theorem dX5_bend_32 : decode cX5_bend 32 = .ok (.aload_n 0, 1) := by decide +kernel
theorem dX5_bend_33 : decode cX5_bend 33 = .ok (.iload_n 1, 1) := by decide +kernel
theorem dX5_bend_34 : decode cX5_bend 34 = .ok (.invokevirtual 152, 3) := by decide +kernel
theorem dX5_bend_37 : decode cX5_bend 37 = .ok (.lmul, 1) := by decide +kernel
theorem dX5_bend_38 : decode cX5_bend 38 = .ok (.lsub, 1) := by decide +kernel
theorem dX5_bend_39 : decode cX5_bend 39 = .ok (.lreturn, 1) := by decide +kernel
theorem dX5_shape_0 : decode cX5_shape 0 = .ok (.aload_n 0, 1) := by decide +kernel
theorem dX5_shape_1 : decode cX5_shape 1 = .ok (.aload_n 0, 1) := by decide +kernel
theorem dX5_shape_2 : decode cX5_shape 2 = .ok (.iload_n 1, 1) := by decide +kernel
theorem dX5_shape_3 : decode cX5_shape 3 = .ok (.invokevirtual 68, 3) := by decide +kernel
theorem dX5_shape_6 : decode cX5_shape 6 = .ok (.ifCond .eq 26, 3) := by decide +kernel
theorem dX5_shape_9 : decode cX5_shape 9 = .ok (.iload_n 2, 1) := by decide +kernel
theorem dX5_shape_10 : decode cX5_shape 10 = .ok (.i2l, 1) := by decide +kernel
theorem dX5_shape_11 : decode cX5_shape 11 = .ok (.lconst 0, 1) := by decide +kernel
theorem dX5_shape_12 : decode cX5_shape 12 = .ok (.ldc2_w 47, 3) := by decide +kernel
theorem dX5_shape_15 : decode cX5_shape 15 = .ok (.invokestatic 39, 3) := by decide +kernel
theorem dX5_shape_18 : decode cX5_shape 18 = .ok (.ifCond .eq 14, 3) := by decide +kernel
theorem dX5_shape_21 : decode cX5_shape 21 = .ok (.aload_n 0, 1) := by decide +kernel
theorem dX5_shape_22 : decode cX5_shape 22 = .ok (.invokevirtual 128, 3) := by decide +kernel
theorem dX5_shape_25 : decode cX5_shape 25 = .ok (.ifCond .eq 7, 3) := by decide +kernel
theorem dX5_shape_28 : decode cX5_shape 28 = .ok (.iconst 0, 1) := by decide +kernel
theorem dX5_shape_29 : decode cX5_shape 29 = .ok (.goto 4, 3) := by decide +kernel
theorem dX5_shape_32 : decode cX5_shape 32 = .ok (.iconst 1, 1) := by decide +kernel
theorem dX5_shape_33 : decode cX5_shape 33 = .ok (.putfield 1, 3) := by decide +kernel
theorem dX5_shape_36 : decode cX5_shape 36 = .ok (.aload_n 0, 1) := by decide +kernel
theorem dX5_shape_37 : decode cX5_shape 37 = .ok (.getfield 1, 3) := by decide +kernel
theorem dX5_shape_40 : decode cX5_shape 40 = .ok (.ifCond .le 5, 3) := by decide +kernel
theorem dX5_shape_43 : decode cX5_shape 43 = .ok (.lconst 0, 1) := by decide +kernel
theorem dX5_shape_44 : decode cX5_shape 44 = .ok (.lreturn, 1) := by decide +kernel
theorem dX5_shape_45 : decode cX5_shape 45 = .ok (.iload_n 2, 1) := by decide +kernel
theorem dX5_shape_46 : decode cX5_shape 46 = .ok (.ifCond .ne 11, 3) := by decide +kernel
theorem dX5_shape_49 : decode cX5_shape 49 = .ok (.aload_n 0, 1) := by decide +kernel
theorem dX5_shape_50 : decode cX5_shape 50 = .ok (.iload_n 1, 1) := by decide +kernel
theorem dX5_shape_51 : decode cX5_shape 51 = .ok (.invokevirtual 145, 3) := by decide +kernel
theorem dX5_shape_54 : decode cX5_shape 54 = .ok (.goto 34, 3) := by decide +kernel
theorem dX5_shape_57 : decode cX5_shape 57 = .ok (.iload_n 2, 1) := by decide +kernel
theorem dX5_shape_58 : decode cX5_shape 58 = .ok (.iconst 1, 1) := by decide +kernel
theorem dX5_shape_59 : decode cX5_shape 59 = .ok (.if_icmp .ne 11, 3) := by decide +kernel
theorem dX5_shape_62 : decode cX5_shape 62 = .ok (.aload_n 0, 1) := by decide +kernel
theorem dX5_shape_63 : decode cX5_shape 63 = .ok (.iload_n 1, 1) := by decide +kernel
theorem dX5_shape_64 : decode cX5_shape 64 = .ok (.invokevirtual 149, 3) := by decide +kernel
theorem dX5_shape_67 : decode cX5_shape 67 = .ok (.goto 21, 3) := by decide +kernel
theorem dX5_shape_70 : decode cX5_shape 70 = .ok (.iload_n 2, 1) := by decide +kernel
theorem dX5_shape_71 : decode cX5_shape 71 = .ok (.iconst 2, 1) := by decide +kernel
theorem dX5_shape_72 : decode cX5_shape 72 = .ok (.if_icmp .ne 11, 3) := by decide +kernel
theorem dX5_shape_75 : decode cX5_shape 75 = .ok (.aload_n 0, 1) := by decide +kernel
theorem dX5_shape_76 : decode cX5_shape 76 = .ok (.iload_n 1, 1) := by decide +kernel
theorem dX5_shape_77 : decode cX5_shape 77 = .ok (.invokevirtual 152, 3) := by decide +kernel
theorem dX5_shape_80 : decode cX5_shape 80 = .ok (.goto 8, 3) := by decide +kernel
theorem dX5_shape_83 : decode cX5_shape 83 = .ok (.aload_n 0, 1) := by decide +kernel
theorem dX5_shape_84 : decode cX5_shape 84 = .ok (.iload_n 1, 1) := by decide +kernel
theorem dX5_shape_85 : decode cX5_shape 85 = .ok (.invokevirtual 155, 3) := by decide +kernel
theorem dX5_shape_88 : decode cX5_shape 88 = .ok (.lreturn, 1) := by decide +kernel
theorem dX5_product_0 : decode cX5_product 0 = .ok (.lload_n 0, 1) := by decide +kernel
theorem dX5_product_1 : decode cX5_product 1 = .ok (.lconst 0, 1) := by decide +kernel
theorem dX5_product_2 : decode cX5_product 2 = .ok (.lcmp, 1) := by decide +kernel
theorem dX5_product_3 : decode cX5_product 3 = .ok (.ifCond .lt 19, 3) := by decide +kernel
theorem dX5_product_6 : decode cX5_product 6 = .ok (.lload_n 2, 1) := by decide +kernel
theorem dX5_product_7 : decode cX5_product 7 = .ok (.lconst 0, 1) := by decide +kernel
theorem dX5_product_8 : decode cX5_product 8 = .ok (.lcmp, 1) := by decide +kernel
theorem dX5_product_9 : decode cX5_product 9 = .ok (.ifCond .lt 13, 3) := by decide +kernel
theorem dX5_product_12 : decode cX5_product 12 = .ok (.lload_n 0, 1) := by decide +kernel
theorem dX5_product_13 : decode cX5_product 13 = .ok (.ldc2_w 158, 3) := by decide +kernel
theorem dX5_product_16 : decode cX5_product 16 = .ok (.lload_n 2, 1) := by decide +kernel
theorem dX5_product_17 : decode cX5_product 17 = .ok (.ldiv, 1) := by decide +kernel
theorem dX5_product_18 : decode cX5_product 18 = .ok (.lcmp, 1) := by decide +kernel
theorem dX5_product_19 : decode cX5_product 19 = .ok (.ifCond .le 9, 3) := by decide +kernel
theorem dX5_product_22 : decode cX5_product 22 = .ok (.ldc2_w 160, 3) := by decide +kernel
theorem dX5_product_25 : decode cX5_product 25 = .ok (.goto 6, 3) := by decide +kernel
theorem dX5_product_28 : decode cX5_product 28 = .ok (.lload_n 0, 1) := by decide +kernel
theorem dX5_product_29 : decode cX5_product 29 = .ok (.lload_n 2, 1) := by decide +kernel
theorem dX5_product_30 : decode cX5_product 30 = .ok (.lmul, 1) := by decide +kernel
theorem dX5_product_31 : decode cX5_product 31 = .ok (.lreturn, 1) := by decide +kernel
theorem dX5_undercutAt_0 : decode cX5_undercutAt 0 = .ok (.aload_n 0, 1) := by decide +kernel
theorem dX5_undercutAt_1 : decode cX5_undercutAt 1 = .ok (.iload_n 1, 1) := by decide +kernel
theorem dX5_undercutAt_2 : decode cX5_undercutAt 2 = .ok (.invokevirtual 155, 3) := by decide +kernel
theorem dX5_undercutAt_5 : decode cX5_undercutAt 5 = .ok (.lstore_n 2, 1) := by decide +kernel
theorem dX5_undercutAt_6 : decode cX5_undercutAt 6 = .ok (.lload_n 2, 1) := by decide +kernel
theorem dX5_undercutAt_7 : decode cX5_undercutAt 7 = .ok (.lconst 0, 1) := by decide +kernel
theorem dX5_undercutAt_8 : decode cX5_undercutAt 8 = .ok (.lcmp, 1) := by decide +kernel
theorem dX5_undercutAt_9 : decode cX5_undercutAt 9 = .ok (.ifCond .gt 5, 3) := by decide +kernel
theorem dX5_undercutAt_12 : decode cX5_undercutAt 12 = .ok (.iconst 0, 1) := by decide +kernel
theorem dX5_undercutAt_13 : decode cX5_undercutAt 13 = .ok (.ireturn, 1) := by decide +kernel
theorem dX5_undercutAt_14 : decode cX5_undercutAt 14 = .ok (.aload_n 0, 1) := by decide +kernel
theorem dX5_undercutAt_15 : decode cX5_undercutAt 15 = .ok (.iload_n 1, 1) := by decide +kernel
theorem dX5_undercutAt_16 : decode cX5_undercutAt 16 = .ok (.invokevirtual 145, 3) := by decide +kernel
theorem dX5_undercutAt_19 : decode cX5_undercutAt 19 = .ok (.aload_n 0, 1) := by decide +kernel
theorem dX5_undercutAt_20 : decode cX5_undercutAt 20 = .ok (.iload_n 1, 1) := by decide +kernel
theorem dX5_undercutAt_21 : decode cX5_undercutAt 21 = .ok (.invokevirtual 145, 3) := by decide +kernel
theorem dX5_undercutAt_24 : decode cX5_undercutAt 24 = .ok (.lmul, 1) := by decide +kernel
theorem dX5_undercutAt_25 : decode cX5_undercutAt 25 = .ok (.aload_n 0, 1) := by decide +kernel
theorem dX5_undercutAt_26 : decode cX5_undercutAt 26 = .ok (.iload_n 1, 1) := by decide +kernel
theorem dX5_undercutAt_27 : decode cX5_undercutAt 27 = .ok (.invokevirtual 149, 3) := by decide +kernel
theorem dX5_undercutAt_30 : decode cX5_undercutAt 30 = .ok (.aload_n 0, 1) := by decide +kernel
theorem dX5_undercutAt_31 : decode cX5_undercutAt 31 = .ok (.iload_n 1, 1) := by decide +kernel
theorem dX5_undercutAt_32 : decode cX5_undercutAt 32 = .ok (.invokevirtual 149, 3) := by decide +kernel
theorem dX5_undercutAt_35 : decode cX5_undercutAt 35 = .ok (.lmul, 1) := by decide +kernel
theorem dX5_undercutAt_36 : decode cX5_undercutAt 36 = .ok (.ladd, 1) := by decide +kernel
theorem dX5_undercutAt_37 : decode cX5_undercutAt 37 = .ok (.lstore 4, 2) := by decide +kernel
theorem dX5_undercutAt_39 : decode cX5_undercutAt 39 = .ok (.lload 4, 2) := by decide +kernel
theorem dX5_undercutAt_41 : decode cX5_undercutAt 41 = .ok (.lload 4, 2) := by decide +kernel
theorem dX5_undercutAt_43 : decode cX5_undercutAt 43 = .ok (.invokestatic 162, 3) := by decide +kernel
theorem dX5_undercutAt_46 : decode cX5_undercutAt 46 = .ok (.lload 4, 2) := by decide +kernel
theorem dX5_undercutAt_48 : decode cX5_undercutAt 48 = .ok (.invokestatic 162, 3) := by decide +kernel
theorem dX5_undercutAt_51 : decode cX5_undercutAt 51 = .ok (.lstore 6, 2) := by decide +kernel
theorem dX5_undercutAt_53 : decode cX5_undercutAt 53 = .ok (.aload_n 0, 1) := by decide +kernel
theorem dX5_undercutAt_54 : decode cX5_undercutAt 54 = .ok (.getfield 16, 3) := by decide +kernel
theorem dX5_undercutAt_57 : decode cX5_undercutAt 57 = .ok (.bipush 64, 2) := by decide +kernel
theorem dX5_undercutAt_59 : decode cX5_undercutAt 59 = .ok (.iaload, 1) := by decide +kernel
theorem dX5_undercutAt_60 : decode cX5_undercutAt 60 = .ok (.i2l, 1) := by decide +kernel
theorem dX5_undercutAt_61 : decode cX5_undercutAt 61 = .ok (.lstore 8, 2) := by decide +kernel
theorem dX5_undercutAt_63 : decode cX5_undercutAt 63 = .ok (.lload 8, 2) := by decide +kernel
theorem dX5_undercutAt_65 : decode cX5_undercutAt 65 = .ok (.lload 8, 2) := by decide +kernel
theorem dX5_undercutAt_67 : decode cX5_undercutAt 67 = .ok (.lmul, 1) := by decide +kernel
theorem dX5_undercutAt_68 : decode cX5_undercutAt 68 = .ok (.lload_n 2, 1) := by decide +kernel
theorem dX5_undercutAt_69 : decode cX5_undercutAt 69 = .ok (.lload_n 2, 1) := by decide +kernel
theorem dX5_undercutAt_70 : decode cX5_undercutAt 70 = .ok (.invokestatic 162, 3) := by decide +kernel
theorem dX5_undercutAt_73 : decode cX5_undercutAt 73 = .ok (.invokestatic 162, 3) := by decide +kernel
theorem dX5_undercutAt_76 : decode cX5_undercutAt 76 = .ok (.lstore 10, 2) := by decide +kernel
theorem dX5_undercutAt_78 : decode cX5_undercutAt 78 = .ok (.lload 6, 2) := by decide +kernel
theorem dX5_undercutAt_80 : decode cX5_undercutAt 80 = .ok (.lconst 0, 1) := by decide +kernel
theorem dX5_undercutAt_81 : decode cX5_undercutAt 81 = .ok (.lcmp, 1) := by decide +kernel
theorem dX5_undercutAt_82 : decode cX5_undercutAt 82 = .ok (.ifCond .lt 10, 3) := by decide +kernel
theorem dX5_undercutAt_85 : decode cX5_undercutAt 85 = .ok (.lload 10, 2) := by decide +kernel
theorem dX5_undercutAt_87 : decode cX5_undercutAt 87 = .ok (.lconst 0, 1) := by decide +kernel
theorem dX5_undercutAt_88 : decode cX5_undercutAt 88 = .ok (.lcmp, 1) := by decide +kernel
theorem dX5_undercutAt_89 : decode cX5_undercutAt 89 = .ok (.ifCond .ge 7, 3) := by decide +kernel
theorem dX5_undercutAt_92 : decode cX5_undercutAt 92 = .ok (.iconst 2, 1) := by decide +kernel
theorem dX5_undercutAt_93 : decode cX5_undercutAt 93 = .ok (.goto 16, 3) := by decide +kernel
theorem dX5_undercutAt_96 : decode cX5_undercutAt 96 = .ok (.lload 6, 2) := by decide +kernel
theorem dX5_undercutAt_98 : decode cX5_undercutAt 98 = .ok (.lload 10, 2) := by decide +kernel
theorem dX5_undercutAt_100 : decode cX5_undercutAt 100 = .ok (.lcmp, 1) := by decide +kernel
theorem dX5_undercutAt_101 : decode cX5_undercutAt 101 = .ok (.ifCond .ge 7, 3) := by decide +kernel
theorem dX5_undercutAt_104 : decode cX5_undercutAt 104 = .ok (.iconst 1, 1) := by decide +kernel
theorem dX5_undercutAt_105 : decode cX5_undercutAt 105 = .ok (.goto 4, 3) := by decide +kernel
theorem dX5_undercutAt_108 : decode cX5_undercutAt 108 = .ok (.iconst 0, 1) := by decide +kernel
theorem dX5_undercutAt_109 : decode cX5_undercutAt 109 = .ok (.ireturn, 1) := by decide +kernel
theorem dX5_pressAt_0 : decode cX5_pressAt 0 = .ok (.aload_n 0, 1) := by decide +kernel
theorem dX5_pressAt_1 : decode cX5_pressAt 1 = .ok (.iload_n 1, 1) := by decide +kernel
theorem dX5_pressAt_2 : decode cX5_pressAt 2 = .ok (.invokevirtual 149, 3) := by decide +kernel
theorem dX5_pressAt_5 : decode cX5_pressAt 5 = .ok (.lstore_n 2, 1) := by decide +kernel
theorem dX5_pressAt_6 : decode cX5_pressAt 6 = .ok (.ldc2_w 165, 3) := by decide +kernel
theorem dX5_pressAt_9 : decode cX5_pressAt 9 = .ok (.lload_n 2, 1) := by decide +kernel
theorem dX5_pressAt_10 : decode cX5_pressAt 10 = .ok (.lconst 0, 1) := by decide +kernel
theorem dX5_pressAt_11 : decode cX5_pressAt 11 = .ok (.lcmp, 1) := by decide +kernel
theorem dX5_pressAt_12 : decode cX5_pressAt 12 = .ok (.ifCond .ge 8, 3) := by decide +kernel
theorem dX5_pressAt_15 : decode cX5_pressAt 15 = .ok (.lload_n 2, 1) := by decide +kernel
theorem dX5_pressAt_16 : decode cX5_pressAt 16 = .ok (.lneg, 1) := by decide +kernel
theorem dX5_pressAt_17 : decode cX5_pressAt 17 = .ok (.goto 4, 3) := by decide +kernel
theorem dX5_pressAt_20 : decode cX5_pressAt 20 = .ok (.lload_n 2, 1) := by decide +kernel
theorem dX5_pressAt_21 : decode cX5_pressAt 21 = .ok (.lmul, 1) := by decide +kernel
theorem dX5_pressAt_22 : decode cX5_pressAt 22 = .ok (.aload_n 0, 1) := by decide +kernel
theorem dX5_pressAt_23 : decode cX5_pressAt 23 = .ok (.iload_n 1, 1) := by decide +kernel
theorem dX5_pressAt_24 : decode cX5_pressAt 24 = .ok (.invokevirtual 145, 3) := by decide +kernel
theorem dX5_pressAt_27 : decode cX5_pressAt 27 = .ok (.ldiv, 1) := by decide +kernel
theorem dX5_pressAt_28 : decode cX5_pressAt 28 = .ok (.l2i, 1) := by decide +kernel
theorem dX5_pressAt_29 : decode cX5_pressAt 29 = .ok (.ireturn, 1) := by decide +kernel
theorem dX5_forceAt_0 : decode cX5_forceAt 0 = .ok (.aload_n 0, 1) := by decide +kernel
theorem dX5_forceAt_1 : decode cX5_forceAt 1 = .ok (.getfield 16, 3) := by decide +kernel
theorem dX5_forceAt_4 : decode cX5_forceAt 4 = .ok (.bipush 68, 2) := by decide +kernel
theorem dX5_forceAt_6 : decode cX5_forceAt 6 = .ok (.iaload, 1) := by decide +kernel
theorem dX5_forceAt_7 : decode cX5_forceAt 7 = .ok (.i2l, 1) := by decide +kernel
theorem dX5_forceAt_8 : decode cX5_forceAt 8 = .ok (.lstore_n 2, 1) := by decide +kernel
theorem dX5_forceAt_9 : decode cX5_forceAt 9 = .ok (.aload_n 0, 1) := by decide +kernel
theorem dX5_forceAt_10 : decode cX5_forceAt 10 = .ok (.getfield 16, 3) := by decide +kernel
theorem dX5_forceAt_13 : decode cX5_forceAt 13 = .ok (.bipush 65, 2) := by decide +kernel
theorem dX5_forceAt_15 : decode cX5_forceAt 15 = .ok (.iaload, 1) := by decide +kernel
theorem dX5_forceAt_16 : decode cX5_forceAt 16 = .ok (.i2l, 1) := by decide +kernel
theorem dX5_forceAt_17 : decode cX5_forceAt 17 = .ok (.aload_n 0, 1) := by decide +kernel
theorem dX5_forceAt_18 : decode cX5_forceAt 18 = .ok (.getfield 16, 3) := by decide +kernel
theorem dX5_forceAt_21 : decode cX5_forceAt 21 = .ok (.bipush 66, 2) := by decide +kernel
theorem dX5_forceAt_23 : decode cX5_forceAt 23 = .ok (.iaload, 1) := by decide +kernel
theorem dX5_forceAt_24 : decode cX5_forceAt 24 = .ok (.i2l, 1) := by decide +kernel
theorem dX5_forceAt_25 : decode cX5_forceAt 25 = .ok (.aload_n 0, 1) := by decide +kernel
theorem dX5_forceAt_26 : decode cX5_forceAt 26 = .ok (.iload_n 1, 1) := by decide +kernel
theorem dX5_forceAt_27 : decode cX5_forceAt 27 = .ok (.invokevirtual 121, 3) := by decide +kernel
theorem dX5_forceAt_30 : decode cX5_forceAt 30 = .ok (.i2l, 1) := by decide +kernel
theorem dX5_forceAt_31 : decode cX5_forceAt 31 = .ok (.lmul, 1) := by decide +kernel
theorem dX5_forceAt_32 : decode cX5_forceAt 32 = .ok (.ladd, 1) := by decide +kernel
theorem dX5_forceAt_33 : decode cX5_forceAt 33 = .ok (.aload_n 0, 1) := by decide +kernel
theorem dX5_forceAt_34 : decode cX5_forceAt 34 = .ok (.getfield 16, 3) := by decide +kernel
theorem dX5_forceAt_37 : decode cX5_forceAt 37 = .ok (.bipush 67, 2) := by decide +kernel
theorem dX5_forceAt_39 : decode cX5_forceAt 39 = .ok (.iaload, 1) := by decide +kernel
theorem dX5_forceAt_40 : decode cX5_forceAt 40 = .ok (.i2l, 1) := by decide +kernel
theorem dX5_forceAt_41 : decode cX5_forceAt 41 = .ok (.lload_n 2, 1) := by decide +kernel
theorem dX5_forceAt_42 : decode cX5_forceAt 42 = .ok (.lmul, 1) := by decide +kernel
theorem dX5_forceAt_43 : decode cX5_forceAt 43 = .ok (.lload_n 2, 1) := by decide +kernel
theorem dX5_forceAt_44 : decode cX5_forceAt 44 = .ok (.lmul, 1) := by decide +kernel
theorem dX5_forceAt_45 : decode cX5_forceAt 45 = .ok (.aload_n 0, 1) := by decide +kernel
theorem dX5_forceAt_46 : decode cX5_forceAt 46 = .ok (.iload_n 1, 1) := by decide +kernel
theorem dX5_forceAt_47 : decode cX5_forceAt 47 = .ok (.iconst 2, 1) := by decide +kernel
theorem dX5_forceAt_48 : decode cX5_forceAt 48 = .ok (.invokevirtual 124, 3) := by decide +kernel
theorem dX5_forceAt_51 : decode cX5_forceAt 51 = .ok (.i2l, 1) := by decide +kernel
theorem dX5_forceAt_52 : decode cX5_forceAt 52 = .ok (.lmul, 1) := by decide +kernel
theorem dX5_forceAt_53 : decode cX5_forceAt 53 = .ok (.ldc2_w 165, 3) := by decide +kernel
theorem dX5_forceAt_56 : decode cX5_forceAt 56 = .ok (.invokestatic 110, 3) := by decide +kernel
theorem dX5_forceAt_59 : decode cX5_forceAt 59 = .ok (.ladd, 1) := by decide +kernel
theorem dX5_forceAt_60 : decode cX5_forceAt 60 = .ok (.lreturn, 1) := by decide +kernel
theorem dX5_undercut_0 : decode cX5_undercut 0 = .ok (.aload_n 0, 1) := by decide +kernel
theorem dX5_undercut_1 : decode cX5_undercut 1 = .ok (.iconst 0, 1) := by decide +kernel
theorem dX5_undercut_2 : decode cX5_undercut 2 = .ok (.putfield 1, 3) := by decide +kernel
theorem dX5_undercut_5 : decode cX5_undercut 5 = .ok (.aload_n 0, 1) := by decide +kernel
theorem dX5_undercut_6 : decode cX5_undercut 6 = .ok (.iload_n 1, 1) := by decide +kernel
theorem dX5_undercut_7 : decode cX5_undercut 7 = .ok (.invokevirtual 68, 3) := by decide +kernel
theorem dX5_undercut_10 : decode cX5_undercut 10 = .ok (.ifCond .eq 18, 3) := by decide +kernel
theorem dX5_undercut_13 : decode cX5_undercut 13 = .ok (.aload_n 0, 1) := by decide +kernel
theorem dX5_undercut_14 : decode cX5_undercut 14 = .ok (.invokevirtual 128, 3) := by decide +kernel
theorem dX5_undercut_17 : decode cX5_undercut 17 = .ok (.ifCond .eq 11, 3) := by decide +kernel
theorem dX5_undercut_20 : decode cX5_undercut 20 = .ok (.aload_n 0, 1) := by decide +kernel
theorem dX5_undercut_21 : decode cX5_undercut 21 = .ok (.iload_n 1, 1) := by decide +kernel
theorem dX5_undercut_22 : decode cX5_undercut 22 = .ok (.invokevirtual 167, 3) := by decide +kernel
theorem dX5_undercut_25 : decode cX5_undercut 25 = .ok (.goto 4, 3) := by decide +kernel
theorem dX5_undercut_28 : decode cX5_undercut 28 = .ok (.iconst (-1), 1) := by decide +kernel
theorem dX5_undercut_29 : decode cX5_undercut 29 = .ok (.ireturn, 1) := by decide +kernel
theorem dX5_press_0 : decode cX5_press 0 = .ok (.aload_n 0, 1) := by decide +kernel
theorem dX5_press_1 : decode cX5_press 1 = .ok (.iconst 0, 1) := by decide +kernel
theorem dX5_press_2 : decode cX5_press 2 = .ok (.putfield 1, 3) := by decide +kernel
theorem dX5_press_5 : decode cX5_press 5 = .ok (.aload_n 0, 1) := by decide +kernel
theorem dX5_press_6 : decode cX5_press 6 = .ok (.iload_n 1, 1) := by decide +kernel
theorem dX5_press_7 : decode cX5_press 7 = .ok (.invokevirtual 68, 3) := by decide +kernel
theorem dX5_press_10 : decode cX5_press 10 = .ok (.ifCond .eq 18, 3) := by decide +kernel
theorem dX5_press_13 : decode cX5_press 13 = .ok (.aload_n 0, 1) := by decide +kernel
theorem dX5_press_14 : decode cX5_press 14 = .ok (.invokevirtual 128, 3) := by decide +kernel
theorem dX5_press_17 : decode cX5_press 17 = .ok (.ifCond .eq 11, 3) := by decide +kernel
theorem dX5_press_20 : decode cX5_press 20 = .ok (.aload_n 0, 1) := by decide +kernel
theorem dX5_press_21 : decode cX5_press 21 = .ok (.iload_n 1, 1) := by decide +kernel
theorem dX5_press_22 : decode cX5_press 22 = .ok (.invokevirtual 170, 3) := by decide +kernel
theorem dX5_press_25 : decode cX5_press 25 = .ok (.goto 4, 3) := by decide +kernel
theorem dX5_press_28 : decode cX5_press 28 = .ok (.iconst (-1), 1) := by decide +kernel
theorem dX5_press_29 : decode cX5_press 29 = .ok (.ireturn, 1) := by decide +kernel
theorem dX5_force_0 : decode cX5_force 0 = .ok (.aload_n 0, 1) := by decide +kernel
theorem dX5_force_1 : decode cX5_force 1 = .ok (.aload_n 0, 1) := by decide +kernel
theorem dX5_force_2 : decode cX5_force 2 = .ok (.iload_n 1, 1) := by decide +kernel
theorem dX5_force_3 : decode cX5_force 3 = .ok (.invokevirtual 68, 3) := by decide +kernel
theorem dX5_force_6 : decode cX5_force 6 = .ok (.ifCond .eq 14, 3) := by decide +kernel
theorem dX5_force_9 : decode cX5_force 9 = .ok (.aload_n 0, 1) := by decide +kernel
theorem dX5_force_10 : decode cX5_force 10 = .ok (.invokevirtual 128, 3) := by decide +kernel
theorem dX5_force_13 : decode cX5_force 13 = .ok (.ifCond .eq 7, 3) := by decide +kernel
theorem dX5_force_16 : decode cX5_force 16 = .ok (.iconst 0, 1) := by decide +kernel
theorem dX5_force_17 : decode cX5_force 17 = .ok (.goto 4, 3) := by decide +kernel
theorem dX5_force_20 : decode cX5_force 20 = .ok (.iconst 1, 1) := by decide +kernel
theorem dX5_force_21 : decode cX5_force 21 = .ok (.putfield 1, 3) := by decide +kernel
theorem dX5_force_24 : decode cX5_force 24 = .ok (.aload_n 0, 1) := by decide +kernel
theorem dX5_force_25 : decode cX5_force 25 = .ok (.getfield 1, 3) := by decide +kernel
theorem dX5_force_28 : decode cX5_force 28 = .ok (.ifCond .le 7, 3) := by decide +kernel
theorem dX5_force_31 : decode cX5_force 31 = .ok (.lconst 0, 1) := by decide +kernel
theorem dX5_force_32 : decode cX5_force 32 = .ok (.goto 8, 3) := by decide +kernel
theorem dX5_force_35 : decode cX5_force 35 = .ok (.aload_n 0, 1) := by decide +kernel
theorem dX5_force_36 : decode cX5_force 36 = .ok (.iload_n 1, 1) := by decide +kernel
theorem dX5_force_37 : decode cX5_force 37 = .ok (.invokevirtual 173, 3) := by decide +kernel
theorem dX5_force_40 : decode cX5_force 40 = .ok (.lreturn, 1) := by decide +kernel
theorem dX5_isBad_0 : decode cX5_isBad 0 = .ok (.iload_n 2, 1) := by decide +kernel
theorem dX5_isBad_1 : decode cX5_isBad 1 = .ok (.tableswitch 65 0 2 #[27, 27, 44], 27) := by decide +kernel
theorem dX5_isBad_28 : decode cX5_isBad 28 = .ok (.aload_n 0, 1) := by decide +kernel
theorem dX5_isBad_29 : decode cX5_isBad 29 = .ok (.iload_n 1, 1) := by decide +kernel
theorem dX5_isBad_30 : decode cX5_isBad 30 = .ok (.invokevirtual 167, 3) := by decide +kernel
theorem dX5_isBad_33 : decode cX5_isBad 33 = .ok (.iload_n 2, 1) := by decide +kernel
theorem dX5_isBad_34 : decode cX5_isBad 34 = .ok (.iconst 1, 1) := by decide +kernel
theorem dX5_isBad_35 : decode cX5_isBad 35 = .ok (.iadd, 1) := by decide +kernel
theorem dX5_isBad_36 : decode cX5_isBad 36 = .ok (.if_icmp .ne 7, 3) := by decide +kernel
theorem dX5_isBad_39 : decode cX5_isBad 39 = .ok (.iconst 1, 1) := by decide +kernel
theorem dX5_isBad_40 : decode cX5_isBad 40 = .ok (.goto 4, 3) := by decide +kernel
theorem dX5_isBad_43 : decode cX5_isBad 43 = .ok (.iconst 0, 1) := by decide +kernel
theorem dX5_isBad_44 : decode cX5_isBad 44 = .ok (.ireturn, 1) := by decide +kernel
theorem dX5_isBad_45 : decode cX5_isBad 45 = .ok (.aload_n 0, 1) := by decide +kernel
theorem dX5_isBad_46 : decode cX5_isBad 46 = .ok (.iload_n 1, 1) := by decide +kernel
theorem dX5_isBad_47 : decode cX5_isBad 47 = .ok (.invokevirtual 170, 3) := by decide +kernel
theorem dX5_isBad_50 : decode cX5_isBad 50 = .ok (.aload_n 0, 1) := by decide +kernel
theorem dX5_isBad_51 : decode cX5_isBad 51 = .ok (.getfield 16, 3) := by decide +kernel
theorem dX5_isBad_54 : decode cX5_isBad 54 = .ok (.bipush 69, 2) := by decide +kernel
theorem dX5_isBad_56 : decode cX5_isBad 56 = .ok (.iaload, 1) := by decide +kernel
theorem dX5_isBad_57 : decode cX5_isBad 57 = .ok (.if_icmp .le 7, 3) := by decide +kernel
theorem dX5_isBad_60 : decode cX5_isBad 60 = .ok (.iconst 1, 1) := by decide +kernel
theorem dX5_isBad_61 : decode cX5_isBad 61 = .ok (.goto 4, 3) := by decide +kernel
theorem dX5_isBad_64 : decode cX5_isBad 64 = .ok (.iconst 0, 1) := by decide +kernel
theorem dX5_isBad_65 : decode cX5_isBad 65 = .ok (.ireturn, 1) := by decide +kernel
theorem dX5_isBad_66 : decode cX5_isBad 66 = .ok (.aload_n 0, 1) := by decide +kernel
theorem dX5_isBad_67 : decode cX5_isBad 67 = .ok (.iload_n 1, 1) := by decide +kernel
theorem dX5_isBad_68 : decode cX5_isBad 68 = .ok (.invokevirtual 173, 3) := by decide +kernel
theorem dX5_isBad_71 : decode cX5_isBad 71 = .ok (.lconst 0, 1) := by decide +kernel
theorem dX5_isBad_72 : decode cX5_isBad 72 = .ok (.lcmp, 1) := by decide +kernel
theorem dX5_isBad_73 : decode cX5_isBad 73 = .ok (.ifCond .ge 7, 3) := by decide +kernel
theorem dX5_isBad_76 : decode cX5_isBad 76 = .ok (.iconst 1, 1) := by decide +kernel
theorem dX5_isBad_77 : decode cX5_isBad 77 = .ok (.goto 4, 3) := by decide +kernel
theorem dX5_isBad_80 : decode cX5_isBad 80 = .ok (.iconst 0, 1) := by decide +kernel
theorem dX5_isBad_81 : decode cX5_isBad 81 = .ok (.ireturn, 1) := by decide +kernel
theorem dX5_bad_0 : decode cX5_bad 0 = .ok (.aload_n 0, 1) := by decide +kernel
theorem dX5_bad_1 : decode cX5_bad 1 = .ok (.iconst 0, 1) := by decide +kernel
theorem dX5_bad_2 : decode cX5_bad 2 = .ok (.putfield 1, 3) := by decide +kernel
theorem dX5_bad_5 : decode cX5_bad 5 = .ok (.iload_n 1, 1) := by decide +kernel
theorem dX5_bad_6 : decode cX5_bad 6 = .ok (.i2l, 1) := by decide +kernel
theorem dX5_bad_7 : decode cX5_bad 7 = .ok (.lconst 0, 1) := by decide +kernel
theorem dX5_bad_8 : decode cX5_bad 8 = .ok (.ldc2_w 47, 3) := by decide +kernel
theorem dX5_bad_11 : decode cX5_bad 11 = .ok (.invokestatic 39, 3) := by decide +kernel
theorem dX5_bad_14 : decode cX5_bad 14 = .ok (.ifCond .eq 15, 3) := by decide +kernel
theorem dX5_bad_17 : decode cX5_bad 17 = .ok (.iload_n 2, 1) := by decide +kernel
theorem dX5_bad_18 : decode cX5_bad 18 = .ok (.iconst (-1), 1) := by decide +kernel
theorem dX5_bad_19 : decode cX5_bad 19 = .ok (.if_icmp .lt 10, 3) := by decide +kernel
theorem dX5_bad_22 : decode cX5_bad 22 = .ok (.aload_n 0, 1) := by decide +kernel
theorem dX5_bad_23 : decode cX5_bad 23 = .ok (.invokevirtual 128, 3) := by decide +kernel
theorem dX5_bad_26 : decode cX5_bad 26 = .ok (.ifCond .ne 5, 3) := by decide +kernel
theorem dX5_bad_29 : decode cX5_bad 29 = .ok (.iconst (-1), 1) := by decide +kernel
theorem dX5_bad_30 : decode cX5_bad 30 = .ok (.ireturn, 1) := by decide +kernel
theorem dX5_bad_31 : decode cX5_bad 31 = .ok (.iconst 0, 1) := by decide +kernel
theorem dX5_bad_32 : decode cX5_bad 32 = .ok (.istore_n 3, 1) := by decide +kernel
theorem dX5_bad_33 : decode cX5_bad 33 = .ok (.iconst 0, 1) := by decide +kernel
theorem dX5_bad_34 : decode cX5_bad 34 = .ok (.istore 4, 2) := by decide +kernel
theorem dX5_bad_36 : decode cX5_bad 36 = .ok (.iload 4, 2) := by decide +kernel
theorem dX5_bad_38 : decode cX5_bad 38 = .ok (.aload_n 0, 1) := by decide +kernel
theorem dX5_bad_39 : decode cX5_bad 39 = .ok (.getfield 13, 3) := by decide +kernel
theorem dX5_bad_42 : decode cX5_bad 42 = .ok (.if_icmp .ge 30, 3) := by decide +kernel
theorem dX5_bad_45 : decode cX5_bad 45 = .ok (.aload_n 0, 1) := by decide +kernel
theorem dX5_bad_46 : decode cX5_bad 46 = .ok (.iload 4, 2) := by decide +kernel
theorem dX5_bad_48 : decode cX5_bad 48 = .ok (.iload_n 1, 1) := by decide +kernel
theorem dX5_bad_49 : decode cX5_bad 49 = .ok (.invokevirtual 176, 3) := by decide +kernel
theorem dX5_bad_52 : decode cX5_bad 52 = .ok (.ifCond .eq 14, 3) := by decide +kernel
theorem dX5_bad_55 : decode cX5_bad 55 = .ok (.iload_n 3, 1) := by decide +kernel
theorem dX5_bad_56 : decode cX5_bad 56 = .ok (.iload_n 2, 1) := by decide +kernel
theorem dX5_bad_57 : decode cX5_bad 57 = .ok (.if_icmp .ne 6, 3) := by decide +kernel
theorem dX5_bad_60 : decode cX5_bad 60 = .ok (.iload 4, 2) := by decide +kernel
theorem dX5_bad_62 : decode cX5_bad 62 = .ok (.ireturn, 1) := by decide +kernel
theorem dX5_bad_63 : decode cX5_bad 63 = .ok (.iinc 3 1, 3) := by decide +kernel
theorem dX5_bad_66 : decode cX5_bad 66 = .ok (.iinc 4 1, 3) := by decide +kernel
theorem dX5_bad_69 : decode cX5_bad 69 = .ok (.goto (-33), 3) := by decide +kernel
theorem dX5_bad_72 : decode cX5_bad 72 = .ok (.iload_n 2, 1) := by decide +kernel
theorem dX5_bad_73 : decode cX5_bad 73 = .ok (.iconst (-1), 1) := by decide +kernel
theorem dX5_bad_74 : decode cX5_bad 74 = .ok (.if_icmp .ne 7, 3) := by decide +kernel
theorem dX5_bad_77 : decode cX5_bad 77 = .ok (.iload_n 3, 1) := by decide +kernel
theorem dX5_bad_78 : decode cX5_bad 78 = .ok (.goto 4, 3) := by decide +kernel
theorem dX5_bad_81 : decode cX5_bad 81 = .ok (.iconst (-1), 1) := by decide +kernel
theorem dX5_bad_82 : decode cX5_bad 82 = .ok (.ireturn, 1) := by decide +kernel
theorem dX5_top_0 : decode cX5_top 0 = .ok (.aload_n 0, 1) := by decide +kernel
theorem dX5_top_1 : decode cX5_top 1 = .ok (.iconst 0, 1) := by decide +kernel
theorem dX5_top_2 : decode cX5_top 2 = .ok (.putfield 1, 3) := by decide +kernel
theorem dX5_top_5 : decode cX5_top 5 = .ok (.iload_n 1, 1) := by decide +kernel
theorem dX5_top_6 : decode cX5_top 6 = .ok (.i2l, 1) := by decide +kernel
theorem dX5_top_7 : decode cX5_top 7 = .ok (.lconst 0, 1) := by decide +kernel
theorem dX5_top_8 : decode cX5_top 8 = .ok (.ldc2_w 180, 3) := by decide +kernel
theorem dX5_top_11 : decode cX5_top 11 = .ok (.invokestatic 39, 3) := by decide +kernel
theorem dX5_top_14 : decode cX5_top 14 = .ok (.ifCond .eq 10, 3) := by decide +kernel
theorem dX5_top_17 : decode cX5_top 17 = .ok (.aload_n 0, 1) := by decide +kernel
theorem dX5_top_18 : decode cX5_top 18 = .ok (.invokevirtual 128, 3) := by decide +kernel
theorem dX5_top_21 : decode cX5_top 21 = .ok (.ifCond .ne 5, 3) := by decide +kernel
theorem dX5_top_24 : decode cX5_top 24 = .ok (.iconst (-1), 1) := by decide +kernel
theorem dX5_top_25 : decode cX5_top 25 = .ok (.ireturn, 1) := by decide +kernel
theorem dX5_top_26 : decode cX5_top 26 = .ok (.iconst 0, 1) := by decide +kernel
theorem dX5_top_27 : decode cX5_top 27 = .ok (.istore_n 2, 1) := by decide +kernel
theorem dX5_top_28 : decode cX5_top 28 = .ok (.iconst 0, 1) := by decide +kernel
theorem dX5_top_29 : decode cX5_top 29 = .ok (.istore_n 3, 1) := by decide +kernel
theorem dX5_top_30 : decode cX5_top 30 = .ok (.iconst 0, 1) := by decide +kernel
theorem dX5_top_31 : decode cX5_top 31 = .ok (.istore 4, 2) := by decide +kernel
theorem dX5_top_33 : decode cX5_top 33 = .ok (.iconst 0, 1) := by decide +kernel
theorem dX5_top_34 : decode cX5_top 34 = .ok (.istore 5, 2) := by decide +kernel
theorem dX5_top_36 : decode cX5_top 36 = .ok (.iconst 0, 1) := by decide +kernel
theorem dX5_top_37 : decode cX5_top 37 = .ok (.istore 6, 2) := by decide +kernel
theorem dX5_top_39 : decode cX5_top 39 = .ok (.iload 6, 2) := by decide +kernel
theorem dX5_top_41 : decode cX5_top 41 = .ok (.aload_n 0, 1) := by decide +kernel
theorem dX5_top_42 : decode cX5_top 42 = .ok (.getfield 13, 3) := by decide +kernel
theorem dX5_top_45 : decode cX5_top 45 = .ok (.if_icmp .ge 90, 3) := by decide +kernel
theorem dX5_top_48 : decode cX5_top 48 = .ok (.aload_n 0, 1) := by decide +kernel
theorem dX5_top_49 : decode cX5_top 49 = .ok (.iload 6, 2) := by decide +kernel
theorem dX5_top_51 : decode cX5_top 51 = .ok (.invokevirtual 170, 3) := by decide +kernel
theorem dX5_top_54 : decode cX5_top 54 = .ok (.aload_n 0, 1) := by decide +kernel
theorem dX5_top_55 : decode cX5_top 55 = .ok (.iload_n 2, 1) := by decide +kernel
theorem dX5_top_56 : decode cX5_top 56 = .ok (.invokevirtual 170, 3) := by decide +kernel
theorem dX5_top_59 : decode cX5_top 59 = .ok (.if_icmp .le 8, 3) := by decide +kernel
theorem dX5_top_62 : decode cX5_top 62 = .ok (.iload 6, 2) := by decide +kernel
theorem dX5_top_64 : decode cX5_top 64 = .ok (.goto 4, 3) := by decide +kernel
theorem dX5_top_67 : decode cX5_top 67 = .ok (.iload_n 2, 1) := by decide +kernel
theorem dX5_top_68 : decode cX5_top 68 = .ok (.istore_n 2, 1) := by decide +kernel
theorem dX5_top_69 : decode cX5_top 69 = .ok (.aload_n 0, 1) := by decide +kernel
theorem dX5_top_70 : decode cX5_top 70 = .ok (.iload 6, 2) := by decide +kernel
theorem dX5_top_72 : decode cX5_top 72 = .ok (.invokevirtual 173, 3) := by decide +kernel
theorem dX5_top_75 : decode cX5_top 75 = .ok (.aload_n 0, 1) := by decide +kernel
theorem dX5_top_76 : decode cX5_top 76 = .ok (.iload_n 3, 1) := by decide +kernel
theorem dX5_top_77 : decode cX5_top 77 = .ok (.invokevirtual 173, 3) := by decide +kernel
theorem dX5_top_80 : decode cX5_top 80 = .ok (.lcmp, 1) := by decide +kernel
theorem dX5_top_81 : decode cX5_top 81 = .ok (.ifCond .ge 8, 3) := by decide +kernel
theorem dX5_top_84 : decode cX5_top 84 = .ok (.iload 6, 2) := by decide +kernel
theorem dX5_top_86 : decode cX5_top 86 = .ok (.goto 4, 3) := by decide +kernel
theorem dX5_top_89 : decode cX5_top 89 = .ok (.iload_n 3, 1) := by decide +kernel
theorem dX5_top_90 : decode cX5_top 90 = .ok (.istore_n 3, 1) := by decide +kernel
theorem dX5_top_91 : decode cX5_top 91 = .ok (.aload_n 0, 1) := by decide +kernel
theorem dX5_top_92 : decode cX5_top 92 = .ok (.getfield 23, 3) := by decide +kernel
theorem dX5_top_95 : decode cX5_top 95 = .ok (.iload 6, 2) := by decide +kernel
theorem dX5_top_97 : decode cX5_top 97 = .ok (.iaload, 1) := by decide +kernel
theorem dX5_top_98 : decode cX5_top 98 = .ok (.aload_n 0, 1) := by decide +kernel
theorem dX5_top_99 : decode cX5_top 99 = .ok (.getfield 23, 3) := by decide +kernel
theorem dX5_top_102 : decode cX5_top 102 = .ok (.iload 4, 2) := by decide +kernel
theorem dX5_top_104 : decode cX5_top 104 = .ok (.iaload, 1) := by decide +kernel
theorem dX5_top_105 : decode cX5_top 105 = .ok (.if_icmp .le 8, 3) := by decide +kernel
theorem dX5_top_108 : decode cX5_top 108 = .ok (.iload 6, 2) := by decide +kernel
theorem dX5_top_110 : decode cX5_top 110 = .ok (.goto 5, 3) := by decide +kernel
theorem dX5_top_113 : decode cX5_top 113 = .ok (.iload 4, 2) := by decide +kernel
theorem dX5_top_115 : decode cX5_top 115 = .ok (.istore 4, 2) := by decide +kernel
theorem dX5_top_117 : decode cX5_top 117 = .ok (.iload 5, 2) := by decide +kernel
theorem dX5_top_119 : decode cX5_top 119 = .ok (.aload_n 0, 1) := by decide +kernel
theorem dX5_top_120 : decode cX5_top 120 = .ok (.getfield 23, 3) := by decide +kernel
theorem dX5_top_123 : decode cX5_top 123 = .ok (.iload 6, 2) := by decide +kernel
theorem dX5_top_125 : decode cX5_top 125 = .ok (.iaload, 1) := by decide +kernel
theorem dX5_top_126 : decode cX5_top 126 = .ok (.iadd, 1) := by decide +kernel
theorem dX5_top_127 : decode cX5_top 127 = .ok (.istore 5, 2) := by decide +kernel
theorem dX5_top_129 : decode cX5_top 129 = .ok (.iinc 6 1, 3) := by decide +kernel
theorem dX5_top_132 : decode cX5_top 132 = .ok (.goto (-93), 3) := by decide +kernel
theorem dX5_top_135 : decode cX5_top 135 = .ok (.iload_n 1, 1) := by decide +kernel
theorem dX5_top_136 : decode cX5_top 136 = .ok (.tableswitch 57 0 4 #[36, 42, 44, 46, 54], 36) := by decide +kernel
theorem dX5_top_172 : decode cX5_top 172 = .ok (.aload_n 0, 1) := by decide +kernel
theorem dX5_top_173 : decode cX5_top 173 = .ok (.iload_n 2, 1) := by decide +kernel
theorem dX5_top_174 : decode cX5_top 174 = .ok (.invokevirtual 170, 3) := by decide +kernel
theorem dX5_top_177 : decode cX5_top 177 = .ok (.ireturn, 1) := by decide +kernel
theorem dX5_top_178 : decode cX5_top 178 = .ok (.iload_n 2, 1) := by decide +kernel
theorem dX5_top_179 : decode cX5_top 179 = .ok (.ireturn, 1) := by decide +kernel
theorem dX5_top_180 : decode cX5_top 180 = .ok (.iload_n 3, 1) := by decide +kernel
theorem dX5_top_181 : decode cX5_top 181 = .ok (.ireturn, 1) := by decide +kernel
theorem dX5_top_182 : decode cX5_top 182 = .ok (.aload_n 0, 1) := by decide +kernel
theorem dX5_top_183 : decode cX5_top 183 = .ok (.getfield 23, 3) := by decide +kernel
theorem dX5_top_186 : decode cX5_top 186 = .ok (.iload 4, 2) := by decide +kernel
theorem dX5_top_188 : decode cX5_top 188 = .ok (.iaload, 1) := by decide +kernel
theorem dX5_top_189 : decode cX5_top 189 = .ok (.ireturn, 1) := by decide +kernel
theorem dX5_top_190 : decode cX5_top 190 = .ok (.iload 4, 2) := by decide +kernel
theorem dX5_top_192 : decode cX5_top 192 = .ok (.ireturn, 1) := by decide +kernel
theorem dX5_top_193 : decode cX5_top 193 = .ok (.iload 5, 2) := by decide +kernel
theorem dX5_top_195 : decode cX5_top 195 = .ok (.ireturn, 1) := by decide +kernel
theorem dX5_offAt_0 : decode cX5_offAt 0 = .ok (.aload_n 0, 1) := by decide +kernel
theorem dX5_offAt_1 : decode cX5_offAt 1 = .ok (.getfield 23, 3) := by decide +kernel
theorem dX5_offAt_4 : decode cX5_offAt 4 = .ok (.aload_n 0, 1) := by decide +kernel
theorem dX5_offAt_5 : decode cX5_offAt 5 = .ok (.getfield 16, 3) := by decide +kernel
theorem dX5_offAt_8 : decode cX5_offAt 8 = .ok (.bipush 36, 2) := by decide +kernel
theorem dX5_offAt_10 : decode cX5_offAt 10 = .ok (.iload_n 1, 1) := by decide +kernel
theorem dX5_offAt_11 : decode cX5_offAt 11 = .ok (.iadd, 1) := by decide +kernel
theorem dX5_offAt_12 : decode cX5_offAt 12 = .ok (.iaload, 1) := by decide +kernel
theorem dX5_offAt_13 : decode cX5_offAt 13 = .ok (.iaload, 1) := by decide +kernel
theorem dX5_offAt_14 : decode cX5_offAt 14 = .ok (.aload_n 0, 1) := by decide +kernel
theorem dX5_offAt_15 : decode cX5_offAt 15 = .ok (.getfield 16, 3) := by decide +kernel
theorem dX5_offAt_18 : decode cX5_offAt 18 = .ok (.bipush 44, 2) := by decide +kernel
theorem dX5_offAt_20 : decode cX5_offAt 20 = .ok (.iload_n 1, 1) := by decide +kernel
theorem dX5_offAt_21 : decode cX5_offAt 21 = .ok (.iadd, 1) := by decide +kernel
theorem dX5_offAt_22 : decode cX5_offAt 22 = .ok (.iaload, 1) := by decide +kernel
theorem dX5_offAt_23 : decode cX5_offAt 23 = .ok (.isub, 1) := by decide +kernel
theorem dX5_offAt_24 : decode cX5_offAt 24 = .ok (.invokestatic 131, 3) := by decide +kernel
theorem dX5_offAt_27 : decode cX5_offAt 27 = .ok (.ireturn, 1) := by decide +kernel
theorem dX5_metNow_0 : decode cX5_metNow 0 = .ok (.iconst 0, 1) := by decide +kernel
theorem dX5_metNow_1 : decode cX5_metNow 1 = .ok (.istore_n 1, 1) := by decide +kernel
theorem dX5_metNow_2 : decode cX5_metNow 2 = .ok (.iconst 0, 1) := by decide +kernel
theorem dX5_metNow_3 : decode cX5_metNow 3 = .ok (.istore_n 2, 1) := by decide +kernel
theorem dX5_metNow_4 : decode cX5_metNow 4 = .ok (.iload_n 2, 1) := by decide +kernel
theorem dX5_metNow_5 : decode cX5_metNow 5 = .ok (.aload_n 0, 1) := by decide +kernel
theorem dX5_metNow_6 : decode cX5_metNow 6 = .ok (.getfield 16, 3) := by decide +kernel
theorem dX5_metNow_9 : decode cX5_metNow 9 = .ok (.bipush 61, 2) := by decide +kernel
theorem dX5_metNow_11 : decode cX5_metNow 11 = .ok (.iaload, 1) := by decide +kernel
theorem dX5_metNow_12 : decode cX5_metNow 12 = .ok (.if_icmp .ge 36, 3) := by decide +kernel
theorem dX5_metNow_15 : decode cX5_metNow 15 = .ok (.iload_n 1, 1) := by decide +kernel
theorem dX5_metNow_16 : decode cX5_metNow 16 = .ok (.aload_n 0, 1) := by decide +kernel
theorem dX5_metNow_17 : decode cX5_metNow 17 = .ok (.iload_n 2, 1) := by decide +kernel
theorem dX5_metNow_18 : decode cX5_metNow 18 = .ok (.invokevirtual 182, 3) := by decide +kernel
theorem dX5_metNow_21 : decode cX5_metNow 21 = .ok (.aload_n 0, 1) := by decide +kernel
theorem dX5_metNow_22 : decode cX5_metNow 22 = .ok (.getfield 16, 3) := by decide +kernel
theorem dX5_metNow_25 : decode cX5_metNow 25 = .ok (.bipush 52, 2) := by decide +kernel
theorem dX5_metNow_27 : decode cX5_metNow 27 = .ok (.iload_n 2, 1) := by decide +kernel
theorem dX5_metNow_28 : decode cX5_metNow 28 = .ok (.iadd, 1) := by decide +kernel
theorem dX5_metNow_29 : decode cX5_metNow 29 = .ok (.iaload, 1) := by decide +kernel
theorem dX5_metNow_30 : decode cX5_metNow 30 = .ok (.if_icmp .gt 9, 3) := by decide +kernel
theorem dX5_metNow_33 : decode cX5_metNow 33 = .ok (.iconst 1, 1) := by decide +kernel
theorem dX5_metNow_34 : decode cX5_metNow 34 = .ok (.iload_n 2, 1) := by decide +kernel
theorem dX5_metNow_35 : decode cX5_metNow 35 = .ok (.ishl, 1) := by decide +kernel
theorem dX5_metNow_36 : decode cX5_metNow 36 = .ok (.goto 4, 3) := by decide +kernel
theorem dX5_metNow_39 : decode cX5_metNow 39 = .ok (.iconst 0, 1) := by decide +kernel
theorem dX5_metNow_40 : decode cX5_metNow 40 = .ok (.ior, 1) := by decide +kernel
theorem dX5_metNow_41 : decode cX5_metNow 41 = .ok (.istore_n 1, 1) := by decide +kernel
theorem dX5_metNow_42 : decode cX5_metNow 42 = .ok (.iinc 2 1, 3) := by decide +kernel
theorem dX5_metNow_45 : decode cX5_metNow 45 = .ok (.goto (-41), 3) := by decide +kernel
theorem dX5_metNow_48 : decode cX5_metNow 48 = .ok (.iload_n 1, 1) := by decide +kernel
theorem dX5_metNow_49 : decode cX5_metNow 49 = .ok (.ireturn, 1) := by decide +kernel
theorem dX5_met_0 : decode cX5_met 0 = .ok (.aload_n 0, 1) := by decide +kernel
theorem dX5_met_1 : decode cX5_met 1 = .ok (.iconst 0, 1) := by decide +kernel
theorem dX5_met_2 : decode cX5_met 2 = .ok (.putfield 1, 3) := by decide +kernel
theorem dX5_met_5 : decode cX5_met 5 = .ok (.aload_n 0, 1) := by decide +kernel
theorem dX5_met_6 : decode cX5_met 6 = .ok (.invokevirtual 128, 3) := by decide +kernel
theorem dX5_met_9 : decode cX5_met 9 = .ok (.ifCond .eq 10, 3) := by decide +kernel
theorem dX5_met_12 : decode cX5_met 12 = .ok (.aload_n 0, 1) := by decide +kernel
theorem dX5_met_13 : decode cX5_met 13 = .ok (.invokevirtual 185, 3) := by decide +kernel
theorem dX5_met_16 : decode cX5_met 16 = .ok (.goto 4, 3) := by decide +kernel
theorem dX5_met_19 : decode cX5_met 19 = .ok (.iconst (-1), 1) := by decide +kernel
theorem dX5_met_20 : decode cX5_met 20 = .ok (.ireturn, 1) := by decide +kernel
theorem dX5_marked_0 : decode cX5_marked 0 = .ok (.aload_n 0, 1) := by decide +kernel
theorem dX5_marked_1 : decode cX5_marked 1 = .ok (.iconst 0, 1) := by decide +kernel
theorem dX5_marked_2 : decode cX5_marked 2 = .ok (.putfield 1, 3) := by decide +kernel
theorem dX5_marked_5 : decode cX5_marked 5 = .ok (.aload_n 0, 1) := by decide +kernel
theorem dX5_marked_6 : decode cX5_marked 6 = .ok (.iload_n 1, 1) := by decide +kernel
theorem dX5_marked_7 : decode cX5_marked 7 = .ok (.invokevirtual 71, 3) := by decide +kernel
theorem dX5_marked_10 : decode cX5_marked 10 = .ok (.ifCond .ne 5, 3) := by decide +kernel
theorem dX5_marked_13 : decode cX5_marked 13 = .ok (.iconst (-1), 1) := by decide +kernel
theorem dX5_marked_14 : decode cX5_marked 14 = .ok (.ireturn, 1) := by decide +kernel
theorem dX5_marked_15 : decode cX5_marked 15 = .ok (.iload_n 2, 1) := by decide +kernel
theorem dX5_marked_16 : decode cX5_marked 16 = .ok (.tableswitch 79 0 3 #[32, 42, 52, 62], 32) := by decide +kernel
theorem dX5_marked_48 : decode cX5_marked 48 = .ok (.aload_n 0, 1) := by decide +kernel
theorem dX5_marked_49 : decode cX5_marked 49 = .ok (.getfield 16, 3) := by decide +kernel
theorem dX5_marked_52 : decode cX5_marked 52 = .ok (.bipush 36, 2) := by decide +kernel
theorem dX5_marked_54 : decode cX5_marked 54 = .ok (.iload_n 1, 1) := by decide +kernel
theorem dX5_marked_55 : decode cX5_marked 55 = .ok (.iadd, 1) := by decide +kernel
theorem dX5_marked_56 : decode cX5_marked 56 = .ok (.iaload, 1) := by decide +kernel
theorem dX5_marked_57 : decode cX5_marked 57 = .ok (.ireturn, 1) := by decide +kernel
theorem dX5_marked_58 : decode cX5_marked 58 = .ok (.aload_n 0, 1) := by decide +kernel
theorem dX5_marked_59 : decode cX5_marked 59 = .ok (.getfield 16, 3) := by decide +kernel
theorem dX5_marked_62 : decode cX5_marked 62 = .ok (.bipush 44, 2) := by decide +kernel
theorem dX5_marked_64 : decode cX5_marked 64 = .ok (.iload_n 1, 1) := by decide +kernel
theorem dX5_marked_65 : decode cX5_marked 65 = .ok (.iadd, 1) := by decide +kernel
theorem dX5_marked_66 : decode cX5_marked 66 = .ok (.iaload, 1) := by decide +kernel
theorem dX5_marked_67 : decode cX5_marked 67 = .ok (.ireturn, 1) := by decide +kernel
theorem dX5_marked_68 : decode cX5_marked 68 = .ok (.aload_n 0, 1) := by decide +kernel
theorem dX5_marked_69 : decode cX5_marked 69 = .ok (.getfield 16, 3) := by decide +kernel
theorem dX5_marked_72 : decode cX5_marked 72 = .ok (.bipush 52, 2) := by decide +kernel
theorem dX5_marked_74 : decode cX5_marked 74 = .ok (.iload_n 1, 1) := by decide +kernel
theorem dX5_marked_75 : decode cX5_marked 75 = .ok (.iadd, 1) := by decide +kernel
theorem dX5_marked_76 : decode cX5_marked 76 = .ok (.iaload, 1) := by decide +kernel
theorem dX5_marked_77 : decode cX5_marked 77 = .ok (.ireturn, 1) := by decide +kernel
theorem dX5_marked_78 : decode cX5_marked 78 = .ok (.aload_n 0, 1) := by decide +kernel
theorem dX5_marked_79 : decode cX5_marked 79 = .ok (.invokevirtual 128, 3) := by decide +kernel
theorem dX5_marked_82 : decode cX5_marked 82 = .ok (.ifCond .eq 11, 3) := by decide +kernel
theorem dX5_marked_85 : decode cX5_marked 85 = .ok (.aload_n 0, 1) := by decide +kernel
theorem dX5_marked_86 : decode cX5_marked 86 = .ok (.iload_n 1, 1) := by decide +kernel
theorem dX5_marked_87 : decode cX5_marked 87 = .ok (.invokevirtual 182, 3) := by decide +kernel
theorem dX5_marked_90 : decode cX5_marked 90 = .ok (.goto 4, 3) := by decide +kernel
theorem dX5_marked_93 : decode cX5_marked 93 = .ok (.iconst (-1), 1) := by decide +kernel
theorem dX5_marked_94 : decode cX5_marked 94 = .ok (.ireturn, 1) := by decide +kernel
theorem dX5_marked_95 : decode cX5_marked 95 = .ok (.iconst (-1), 1) := by decide +kernel
theorem dX5_marked_96 : decode cX5_marked 96 = .ok (.ireturn, 1) := by decide +kernel
theorem dX5_isGood_0 : decode cX5_isGood 0 = .ok (.aload_n 0, 1) := by decide +kernel
theorem dX5_isGood_1 : decode cX5_isGood 1 = .ok (.invokevirtual 185, 3) := by decide +kernel
theorem dX5_isGood_4 : decode cX5_isGood 4 = .ok (.iconst 1, 1) := by decide +kernel
theorem dX5_isGood_5 : decode cX5_isGood 5 = .ok (.aload_n 0, 1) := by decide +kernel
theorem dX5_isGood_6 : decode cX5_isGood 6 = .ok (.getfield 16, 3) := by decide +kernel
theorem dX5_isGood_9 : decode cX5_isGood 9 = .ok (.bipush 61, 2) := by decide +kernel
theorem dX5_isGood_11 : decode cX5_isGood 11 = .ok (.iaload, 1) := by decide +kernel
theorem dX5_isGood_12 : decode cX5_isGood 12 = .ok (.ishl, 1) := by decide +kernel
theorem dX5_isGood_13 : decode cX5_isGood 13 = .ok (.iconst 1, 1) := by decide +kernel
theorem dX5_isGood_14 : decode cX5_isGood 14 = .ok (.isub, 1) := by decide +kernel
theorem dX5_isGood_15 : decode cX5_isGood 15 = .ok (.if_icmp .ne 7, 3) := by decide +kernel
theorem dX5_isGood_18 : decode cX5_isGood 18 = .ok (.iconst 1, 1) := by decide +kernel
theorem dX5_isGood_19 : decode cX5_isGood 19 = .ok (.goto 4, 3) := by decide +kernel
theorem dX5_isGood_22 : decode cX5_isGood 22 = .ok (.iconst 0, 1) := by decide +kernel
theorem dX5_isGood_23 : decode cX5_isGood 23 = .ok (.istore_n 1, 1) := by decide +kernel
theorem dX5_isGood_24 : decode cX5_isGood 24 = .ok (.iconst 0, 1) := by decide +kernel
theorem dX5_isGood_25 : decode cX5_isGood 25 = .ok (.istore_n 2, 1) := by decide +kernel
theorem dX5_isGood_26 : decode cX5_isGood 26 = .ok (.iload_n 2, 1) := by decide +kernel
theorem dX5_isGood_27 : decode cX5_isGood 27 = .ok (.aload_n 0, 1) := by decide +kernel
theorem dX5_isGood_28 : decode cX5_isGood 28 = .ok (.getfield 13, 3) := by decide +kernel
theorem dX5_isGood_31 : decode cX5_isGood 31 = .ok (.if_icmp .ge 45, 3) := by decide +kernel
theorem dX5_isGood_34 : decode cX5_isGood 34 = .ok (.iload_n 1, 1) := by decide +kernel
theorem dX5_isGood_35 : decode cX5_isGood 35 = .ok (.ifCond .eq 41, 3) := by decide +kernel
theorem dX5_isGood_38 : decode cX5_isGood 38 = .ok (.aload_n 0, 1) := by decide +kernel
theorem dX5_isGood_39 : decode cX5_isGood 39 = .ok (.iload_n 2, 1) := by decide +kernel
theorem dX5_isGood_40 : decode cX5_isGood 40 = .ok (.invokevirtual 167, 3) := by decide +kernel
theorem dX5_isGood_43 : decode cX5_isGood 43 = .ok (.ifCond .ne 25, 3) := by decide +kernel
theorem dX5_isGood_46 : decode cX5_isGood 46 = .ok (.aload_n 0, 1) := by decide +kernel
theorem dX5_isGood_47 : decode cX5_isGood 47 = .ok (.iload_n 2, 1) := by decide +kernel
theorem dX5_isGood_48 : decode cX5_isGood 48 = .ok (.iconst 2, 1) := by decide +kernel
theorem dX5_isGood_49 : decode cX5_isGood 49 = .ok (.invokevirtual 176, 3) := by decide +kernel
theorem dX5_isGood_52 : decode cX5_isGood 52 = .ok (.ifCond .ne 16, 3) := by decide +kernel
theorem dX5_isGood_55 : decode cX5_isGood 55 = .ok (.aload_n 0, 1) := by decide +kernel
theorem dX5_isGood_56 : decode cX5_isGood 56 = .ok (.iload_n 2, 1) := by decide +kernel
theorem dX5_isGood_57 : decode cX5_isGood 57 = .ok (.iconst 3, 1) := by decide +kernel
theorem dX5_isGood_58 : decode cX5_isGood 58 = .ok (.invokevirtual 176, 3) := by decide +kernel
theorem dX5_isGood_61 : decode cX5_isGood 61 = .ok (.ifCond .ne 7, 3) := by decide +kernel
theorem dX5_isGood_64 : decode cX5_isGood 64 = .ok (.iconst 1, 1) := by decide +kernel
theorem dX5_isGood_65 : decode cX5_isGood 65 = .ok (.goto 4, 3) := by decide +kernel
theorem dX5_isGood_68 : decode cX5_isGood 68 = .ok (.iconst 0, 1) := by decide +kernel
theorem dX5_isGood_69 : decode cX5_isGood 69 = .ok (.istore_n 1, 1) := by decide +kernel
theorem dX5_isGood_70 : decode cX5_isGood 70 = .ok (.iinc 2 1, 3) := by decide +kernel
theorem dX5_isGood_73 : decode cX5_isGood 73 = .ok (.goto (-47), 3) := by decide +kernel
theorem dX5_isGood_76 : decode cX5_isGood 76 = .ok (.iload_n 1, 1) := by decide +kernel
theorem dX5_isGood_77 : decode cX5_isGood 77 = .ok (.ireturn, 1) := by decide +kernel
theorem dX5_turned_0 : decode cX5_turned 0 = .ok (.iconst 0, 1) := by decide +kernel
theorem dX5_turned_1 : decode cX5_turned 1 = .ok (.istore_n 1, 1) := by decide +kernel
theorem dX5_turned_2 : decode cX5_turned 2 = .ok (.iconst 0, 1) := by decide +kernel
theorem dX5_turned_3 : decode cX5_turned 3 = .ok (.istore_n 2, 1) := by decide +kernel
theorem dX5_turned_4 : decode cX5_turned 4 = .ok (.iload_n 2, 1) := by decide +kernel
theorem dX5_turned_5 : decode cX5_turned 5 = .ok (.aload_n 0, 1) := by decide +kernel
theorem dX5_turned_6 : decode cX5_turned 6 = .ok (.getfield 16, 3) := by decide +kernel
theorem dX5_turned_9 : decode cX5_turned 9 = .ok (.bipush 60, 2) := by decide +kernel
theorem dX5_turned_11 : decode cX5_turned 11 = .ok (.iaload, 1) := by decide +kernel
theorem dX5_turned_12 : decode cX5_turned 12 = .ok (.if_icmp .ge 25, 3) := by decide +kernel
theorem dX5_turned_15 : decode cX5_turned 15 = .ok (.iload_n 1, 1) := by decide +kernel
theorem dX5_turned_16 : decode cX5_turned 16 = .ok (.aload_n 0, 1) := by decide +kernel
theorem dX5_turned_17 : decode cX5_turned 17 = .ok (.iload_n 2, 1) := by decide +kernel
theorem dX5_turned_18 : decode cX5_turned 18 = .ok (.invokevirtual 81, 3) := by decide +kernel
theorem dX5_turned_21 : decode cX5_turned 21 = .ok (.ifCond .eq 7, 3) := by decide +kernel
theorem dX5_turned_24 : decode cX5_turned 24 = .ok (.iconst 0, 1) := by decide +kernel
theorem dX5_turned_25 : decode cX5_turned 25 = .ok (.goto 4, 3) := by decide +kernel
theorem dX5_turned_28 : decode cX5_turned 28 = .ok (.iconst 1, 1) := by decide +kernel
theorem dX5_turned_29 : decode cX5_turned 29 = .ok (.iadd, 1) := by decide +kernel
theorem dX5_turned_30 : decode cX5_turned 30 = .ok (.istore_n 1, 1) := by decide +kernel
theorem dX5_turned_31 : decode cX5_turned 31 = .ok (.iinc 2 1, 3) := by decide +kernel
theorem dX5_turned_34 : decode cX5_turned 34 = .ok (.goto (-30), 3) := by decide +kernel
theorem dX5_turned_37 : decode cX5_turned 37 = .ok (.iload_n 1, 1) := by decide +kernel
theorem dX5_turned_38 : decode cX5_turned 38 = .ok (.ireturn, 1) := by decide +kernel
theorem dX5_gives_0 : decode cX5_gives 0 = .ok (.iload_n 2, 1) := by decide +kernel
theorem dX5_gives_1 : decode cX5_gives 1 = .ok (.istore_n 3, 1) := by decide +kernel
theorem dX5_gives_2 : decode cX5_gives 2 = .ok (.iconst 0, 1) := by decide +kernel
theorem dX5_gives_3 : decode cX5_gives 3 = .ok (.istore 4, 2) := by decide +kernel
theorem dX5_gives_5 : decode cX5_gives 5 = .ok (.iload 4, 2) := by decide +kernel
theorem dX5_gives_7 : decode cX5_gives 7 = .ok (.aload_n 0, 1) := by decide +kernel
theorem dX5_gives_8 : decode cX5_gives 8 = .ok (.getfield 16, 3) := by decide +kernel
theorem dX5_gives_11 : decode cX5_gives 11 = .ok (.bipush 60, 2) := by decide +kernel
theorem dX5_gives_13 : decode cX5_gives 13 = .ok (.iaload, 1) := by decide +kernel
theorem dX5_gives_14 : decode cX5_gives 14 = .ok (.if_icmp .ge 38, 3) := by decide +kernel
theorem dX5_gives_17 : decode cX5_gives 17 = .ok (.aload_n 0, 1) := by decide +kernel
theorem dX5_gives_18 : decode cX5_gives 18 = .ok (.iload 4, 2) := by decide +kernel
theorem dX5_gives_20 : decode cX5_gives 20 = .ok (.invokevirtual 81, 3) := by decide +kernel
theorem dX5_gives_23 : decode cX5_gives 23 = .ok (.ifCond .ne 23, 3) := by decide +kernel
theorem dX5_gives_26 : decode cX5_gives 26 = .ok (.iinc 3 (-1), 3) := by decide +kernel
theorem dX5_gives_29 : decode cX5_gives 29 = .ok (.aload_n 0, 1) := by decide +kernel
theorem dX5_gives_30 : decode cX5_gives 30 = .ok (.getfield 16, 3) := by decide +kernel
theorem dX5_gives_33 : decode cX5_gives 33 = .ok (.bipush 24, 2) := by decide +kernel
theorem dX5_gives_35 : decode cX5_gives 35 = .ok (.iload 4, 2) := by decide +kernel
theorem dX5_gives_37 : decode cX5_gives 37 = .ok (.iadd, 1) := by decide +kernel
theorem dX5_gives_38 : decode cX5_gives 38 = .ok (.iload_n 1, 1) := by decide +kernel
theorem dX5_gives_39 : decode cX5_gives 39 = .ok (.iconst 2, 1) := by decide +kernel
theorem dX5_gives_40 : decode cX5_gives 40 = .ok (.iload_n 3, 1) := by decide +kernel
theorem dX5_gives_41 : decode cX5_gives 41 = .ok (.imul, 1) := by decide +kernel
theorem dX5_gives_42 : decode cX5_gives 42 = .ok (.ishr, 1) := by decide +kernel
theorem dX5_gives_43 : decode cX5_gives 43 = .ok (.iconst 3, 1) := by decide +kernel
theorem dX5_gives_44 : decode cX5_gives 44 = .ok (.iand, 1) := by decide +kernel
theorem dX5_gives_45 : decode cX5_gives 45 = .ok (.iastore, 1) := by decide +kernel
theorem dX5_gives_46 : decode cX5_gives 46 = .ok (.iinc 4 1, 3) := by decide +kernel
theorem dX5_gives_49 : decode cX5_gives 49 = .ok (.goto (-44), 3) := by decide +kernel
theorem dX5_gives_52 : decode cX5_gives 52 = .ok (.return_, 1) := by decide +kernel
theorem dX5_takesWay_0 : decode cX5_takesWay 0 = .ok (.iconst 0, 1) := by decide +kernel
theorem dX5_takesWay_1 : decode cX5_takesWay 1 = .ok (.istore_n 1, 1) := by decide +kernel
theorem dX5_takesWay_2 : decode cX5_takesWay 2 = .ok (.iload_n 1, 1) := by decide +kernel
theorem dX5_takesWay_3 : decode cX5_takesWay 3 = .ok (.bipush 12, 2) := by decide +kernel
theorem dX5_takesWay_5 : decode cX5_takesWay 5 = .ok (.if_icmp .ge 24, 3) := by decide +kernel
theorem dX5_takesWay_8 : decode cX5_takesWay 8 = .ok (.aload_n 0, 1) := by decide +kernel
theorem dX5_takesWay_9 : decode cX5_takesWay 9 = .ok (.getfield 29, 3) := by decide +kernel
theorem dX5_takesWay_12 : decode cX5_takesWay 12 = .ok (.iload_n 1, 1) := by decide +kernel
theorem dX5_takesWay_13 : decode cX5_takesWay 13 = .ok (.aload_n 0, 1) := by decide +kernel
theorem dX5_takesWay_14 : decode cX5_takesWay 14 = .ok (.getfield 16, 3) := by decide +kernel
theorem dX5_takesWay_17 : decode cX5_takesWay 17 = .ok (.bipush 24, 2) := by decide +kernel
theorem dX5_takesWay_19 : decode cX5_takesWay 19 = .ok (.iload_n 1, 1) := by decide +kernel
theorem dX5_takesWay_20 : decode cX5_takesWay 20 = .ok (.iadd, 1) := by decide +kernel
theorem dX5_takesWay_21 : decode cX5_takesWay 21 = .ok (.iaload, 1) := by decide +kernel
theorem dX5_takesWay_22 : decode cX5_takesWay 22 = .ok (.iastore, 1) := by decide +kernel
theorem dX5_takesWay_23 : decode cX5_takesWay 23 = .ok (.iinc 1 1, 3) := by decide +kernel
theorem dX5_takesWay_26 : decode cX5_takesWay 26 = .ok (.goto (-24), 3) := by decide +kernel
theorem dX5_takesWay_29 : decode cX5_takesWay 29 = .ok (.return_, 1) := by decide +kernel
theorem dX5_laysBest_0 : decode cX5_laysBest 0 = .ok (.iconst 0, 1) := by decide +kernel
theorem dX5_laysBest_1 : decode cX5_laysBest 1 = .ok (.istore_n 2, 1) := by decide +kernel
theorem dX5_laysBest_2 : decode cX5_laysBest 2 = .ok (.iload_n 2, 1) := by decide +kernel
theorem dX5_laysBest_3 : decode cX5_laysBest 3 = .ok (.bipush 12, 2) := by decide +kernel
theorem dX5_laysBest_5 : decode cX5_laysBest 5 = .ok (.if_icmp .ge 24, 3) := by decide +kernel
theorem dX5_laysBest_8 : decode cX5_laysBest 8 = .ok (.aload_n 0, 1) := by decide +kernel
theorem dX5_laysBest_9 : decode cX5_laysBest 9 = .ok (.getfield 26, 3) := by decide +kernel
theorem dX5_laysBest_12 : decode cX5_laysBest 12 = .ok (.iload_n 2, 1) := by decide +kernel
theorem dX5_laysBest_13 : decode cX5_laysBest 13 = .ok (.aload_n 0, 1) := by decide +kernel
theorem dX5_laysBest_14 : decode cX5_laysBest 14 = .ok (.getfield 16, 3) := by decide +kernel
theorem dX5_laysBest_17 : decode cX5_laysBest 17 = .ok (.bipush 24, 2) := by decide +kernel
theorem dX5_laysBest_19 : decode cX5_laysBest 19 = .ok (.iload_n 2, 1) := by decide +kernel
theorem dX5_laysBest_20 : decode cX5_laysBest 20 = .ok (.iadd, 1) := by decide +kernel
theorem dX5_laysBest_21 : decode cX5_laysBest 21 = .ok (.iaload, 1) := by decide +kernel
theorem dX5_laysBest_22 : decode cX5_laysBest 22 = .ok (.iastore, 1) := by decide +kernel
theorem dX5_laysBest_23 : decode cX5_laysBest 23 = .ok (.iinc 2 1, 3) := by decide +kernel
theorem dX5_laysBest_26 : decode cX5_laysBest 26 = .ok (.goto (-24), 3) := by decide +kernel
theorem dX5_laysBest_29 : decode cX5_laysBest 29 = .ok (.iconst 0, 1) := by decide +kernel
theorem dX5_laysBest_30 : decode cX5_laysBest 30 = .ok (.istore_n 2, 1) := by decide +kernel
theorem dX5_laysBest_31 : decode cX5_laysBest 31 = .ok (.iload_n 2, 1) := by decide +kernel
theorem dX5_laysBest_32 : decode cX5_laysBest 32 = .ok (.iconst 1, 1) := by decide +kernel
theorem dX5_laysBest_33 : decode cX5_laysBest 33 = .ok (.iconst 2, 1) := by decide +kernel
theorem dX5_laysBest_34 : decode cX5_laysBest 34 = .ok (.iload_n 1, 1) := by decide +kernel
theorem dX5_laysBest_35 : decode cX5_laysBest 35 = .ok (.imul, 1) := by decide +kernel
theorem dX5_laysBest_36 : decode cX5_laysBest 36 = .ok (.ishl, 1) := by decide +kernel
theorem dX5_laysBest_37 : decode cX5_laysBest 37 = .ok (.if_icmp .ge 121, 3) := by decide +kernel
theorem dX5_laysBest_40 : decode cX5_laysBest 40 = .ok (.aload_n 0, 1) := by decide +kernel
theorem dX5_laysBest_41 : decode cX5_laysBest 41 = .ok (.iload_n 2, 1) := by decide +kernel
theorem dX5_laysBest_42 : decode cX5_laysBest 42 = .ok (.iload_n 1, 1) := by decide +kernel
theorem dX5_laysBest_43 : decode cX5_laysBest 43 = .ok (.invokevirtual 189, 3) := by decide +kernel
theorem dX5_laysBest_46 : decode cX5_laysBest 46 = .ok (.aload_n 0, 1) := by decide +kernel
theorem dX5_laysBest_47 : decode cX5_laysBest 47 = .ok (.invokevirtual 118, 3) := by decide +kernel
theorem dX5_laysBest_50 : decode cX5_laysBest 50 = .ok (.aload_n 0, 1) := by decide +kernel
theorem dX5_laysBest_51 : decode cX5_laysBest 51 = .ok (.invokevirtual 193, 3) := by decide +kernel
theorem dX5_laysBest_54 : decode cX5_laysBest 54 = .ok (.istore_n 3, 1) := by decide +kernel
theorem dX5_laysBest_55 : decode cX5_laysBest 55 = .ok (.aload_n 0, 1) := by decide +kernel
theorem dX5_laysBest_56 : decode cX5_laysBest 56 = .ok (.iconst 2, 1) := by decide +kernel
theorem dX5_laysBest_57 : decode cX5_laysBest 57 = .ok (.invokevirtual 134, 3) := by decide +kernel
theorem dX5_laysBest_60 : decode cX5_laysBest 60 = .ok (.istore 4, 2) := by decide +kernel
theorem dX5_laysBest_62 : decode cX5_laysBest 62 = .ok (.aload_n 0, 1) := by decide +kernel
theorem dX5_laysBest_63 : decode cX5_laysBest 63 = .ok (.iconst 3, 1) := by decide +kernel
theorem dX5_laysBest_64 : decode cX5_laysBest 64 = .ok (.invokevirtual 134, 3) := by decide +kernel
theorem dX5_laysBest_67 : decode cX5_laysBest 67 = .ok (.istore 5, 2) := by decide +kernel
theorem dX5_laysBest_69 : decode cX5_laysBest 69 = .ok (.iload 4, 2) := by decide +kernel
theorem dX5_laysBest_71 : decode cX5_laysBest 71 = .ok (.aload_n 0, 1) := by decide +kernel
theorem dX5_laysBest_72 : decode cX5_laysBest 72 = .ok (.getfield 196, 3) := by decide +kernel
theorem dX5_laysBest_75 : decode cX5_laysBest 75 = .ok (.if_icmp .lt 21, 3) := by decide +kernel
theorem dX5_laysBest_78 : decode cX5_laysBest 78 = .ok (.iload 4, 2) := by decide +kernel
theorem dX5_laysBest_80 : decode cX5_laysBest 80 = .ok (.aload_n 0, 1) := by decide +kernel
theorem dX5_laysBest_81 : decode cX5_laysBest 81 = .ok (.getfield 196, 3) := by decide +kernel
theorem dX5_laysBest_84 : decode cX5_laysBest 84 = .ok (.if_icmp .ne 16, 3) := by decide +kernel
theorem dX5_laysBest_87 : decode cX5_laysBest 87 = .ok (.iload 5, 2) := by decide +kernel
theorem dX5_laysBest_89 : decode cX5_laysBest 89 = .ok (.aload_n 0, 1) := by decide +kernel
theorem dX5_laysBest_90 : decode cX5_laysBest 90 = .ok (.getfield 199, 3) := by decide +kernel
theorem dX5_laysBest_93 : decode cX5_laysBest 93 = .ok (.if_icmp .ge 7, 3) := by decide +kernel
theorem dX5_laysBest_96 : decode cX5_laysBest 96 = .ok (.iconst 1, 1) := by decide +kernel
theorem dX5_laysBest_97 : decode cX5_laysBest 97 = .ok (.goto 4, 3) := by decide +kernel
theorem dX5_laysBest_100 : decode cX5_laysBest 100 = .ok (.iconst 0, 1) := by decide +kernel
theorem dX5_laysBest_101 : decode cX5_laysBest 101 = .ok (.istore 6, 2) := by decide +kernel
theorem dX5_laysBest_103 : decode cX5_laysBest 103 = .ok (.iload_n 2, 1) := by decide +kernel
theorem dX5_laysBest_104 : decode cX5_laysBest 104 = .ok (.ifCond .eq 27, 3) := by decide +kernel
theorem dX5_laysBest_107 : decode cX5_laysBest 107 = .ok (.iload_n 3, 1) := by decide +kernel
theorem dX5_laysBest_108 : decode cX5_laysBest 108 = .ok (.ifCond .eq 10, 3) := by decide +kernel
theorem dX5_laysBest_111 : decode cX5_laysBest 111 = .ok (.aload_n 0, 1) := by decide +kernel
theorem dX5_laysBest_112 : decode cX5_laysBest 112 = .ok (.getfield 202, 3) := by decide +kernel
theorem dX5_laysBest_115 : decode cX5_laysBest 115 = .ok (.ifCond .eq 16, 3) := by decide +kernel
theorem dX5_laysBest_118 : decode cX5_laysBest 118 = .ok (.iload_n 3, 1) := by decide +kernel
theorem dX5_laysBest_119 : decode cX5_laysBest 119 = .ok (.aload_n 0, 1) := by decide +kernel
theorem dX5_laysBest_120 : decode cX5_laysBest 120 = .ok (.getfield 202, 3) := by decide +kernel
theorem dX5_laysBest_123 : decode cX5_laysBest 123 = .ok (.if_icmp .ne 29, 3) := by decide +kernel
theorem dX5_laysBest_126 : decode cX5_laysBest 126 = .ok (.iload 6, 2) := by decide +kernel
theorem dX5_laysBest_128 : decode cX5_laysBest 128 = .ok (.ifCond .eq 24, 3) := by decide +kernel
theorem dX5_laysBest_131 : decode cX5_laysBest 131 = .ok (.aload_n 0, 1) := by decide +kernel
theorem dX5_laysBest_132 : decode cX5_laysBest 132 = .ok (.iload_n 3, 1) := by decide +kernel
theorem dX5_laysBest_133 : decode cX5_laysBest 133 = .ok (.putfield 202, 3) := by decide +kernel
theorem dX5_laysBest_136 : decode cX5_laysBest 136 = .ok (.aload_n 0, 1) := by decide +kernel
theorem dX5_laysBest_137 : decode cX5_laysBest 137 = .ok (.iload 4, 2) := by decide +kernel
theorem dX5_laysBest_139 : decode cX5_laysBest 139 = .ok (.putfield 196, 3) := by decide +kernel
theorem dX5_laysBest_142 : decode cX5_laysBest 142 = .ok (.aload_n 0, 1) := by decide +kernel
theorem dX5_laysBest_143 : decode cX5_laysBest 143 = .ok (.iload 5, 2) := by decide +kernel
theorem dX5_laysBest_145 : decode cX5_laysBest 145 = .ok (.putfield 199, 3) := by decide +kernel
theorem dX5_laysBest_148 : decode cX5_laysBest 148 = .ok (.aload_n 0, 1) := by decide +kernel
theorem dX5_laysBest_149 : decode cX5_laysBest 149 = .ok (.invokevirtual 206, 3) := by decide +kernel
theorem dX5_laysBest_152 : decode cX5_laysBest 152 = .ok (.iinc 2 1, 3) := by decide +kernel
theorem dX5_laysBest_155 : decode cX5_laysBest 155 = .ok (.goto (-124), 3) := by decide +kernel
theorem dX5_laysBest_158 : decode cX5_laysBest 158 = .ok (.iconst 0, 1) := by decide +kernel
theorem dX5_laysBest_159 : decode cX5_laysBest 159 = .ok (.istore_n 2, 1) := by decide +kernel
theorem dX5_laysBest_160 : decode cX5_laysBest 160 = .ok (.iload_n 2, 1) := by decide +kernel
theorem dX5_laysBest_161 : decode cX5_laysBest 161 = .ok (.bipush 12, 2) := by decide +kernel
theorem dX5_laysBest_163 : decode cX5_laysBest 163 = .ok (.if_icmp .ge 24, 3) := by decide +kernel
theorem dX5_laysBest_166 : decode cX5_laysBest 166 = .ok (.aload_n 0, 1) := by decide +kernel
theorem dX5_laysBest_167 : decode cX5_laysBest 167 = .ok (.getfield 16, 3) := by decide +kernel
theorem dX5_laysBest_170 : decode cX5_laysBest 170 = .ok (.bipush 24, 2) := by decide +kernel
theorem dX5_laysBest_172 : decode cX5_laysBest 172 = .ok (.iload_n 2, 1) := by decide +kernel
theorem dX5_laysBest_173 : decode cX5_laysBest 173 = .ok (.iadd, 1) := by decide +kernel
theorem dX5_laysBest_174 : decode cX5_laysBest 174 = .ok (.aload_n 0, 1) := by decide +kernel
theorem dX5_laysBest_175 : decode cX5_laysBest 175 = .ok (.getfield 26, 3) := by decide +kernel
theorem dX5_laysBest_178 : decode cX5_laysBest 178 = .ok (.iload_n 2, 1) := by decide +kernel
theorem dX5_laysBest_179 : decode cX5_laysBest 179 = .ok (.iaload, 1) := by decide +kernel
theorem dX5_laysBest_180 : decode cX5_laysBest 180 = .ok (.iastore, 1) := by decide +kernel
theorem dX5_laysBest_181 : decode cX5_laysBest 181 = .ok (.iinc 2 1, 3) := by decide +kernel
theorem dX5_laysBest_184 : decode cX5_laysBest 184 = .ok (.goto (-24), 3) := by decide +kernel
theorem dX5_laysBest_187 : decode cX5_laysBest 187 = .ok (.return_, 1) := by decide +kernel
theorem dX5_best_0 : decode cX5_best 0 = .ok (.aload_n 0, 1) := by decide +kernel
theorem dX5_best_1 : decode cX5_best 1 = .ok (.iconst 0, 1) := by decide +kernel
theorem dX5_best_2 : decode cX5_best 2 = .ok (.putfield 1, 3) := by decide +kernel
theorem dX5_best_5 : decode cX5_best 5 = .ok (.iload_n 1, 1) := by decide +kernel
theorem dX5_best_6 : decode cX5_best 6 = .ok (.i2l, 1) := by decide +kernel
theorem dX5_best_7 : decode cX5_best 7 = .ok (.lconst 0, 1) := by decide +kernel
theorem dX5_best_8 : decode cX5_best 8 = .ok (.ldc2_w 209, 3) := by decide +kernel
theorem dX5_best_11 : decode cX5_best 11 = .ok (.invokestatic 39, 3) := by decide +kernel
theorem dX5_best_14 : decode cX5_best 14 = .ok (.ifCond .eq 33, 3) := by decide +kernel
theorem dX5_best_17 : decode cX5_best 17 = .ok (.aload_n 0, 1) := by decide +kernel
theorem dX5_best_18 : decode cX5_best 18 = .ok (.invokevirtual 114, 3) := by decide +kernel
theorem dX5_best_21 : decode cX5_best 21 = .ok (.ifCond .eq 26, 3) := by decide +kernel
theorem dX5_best_24 : decode cX5_best 24 = .ok (.aload_n 0, 1) := by decide +kernel
theorem dX5_best_25 : decode cX5_best 25 = .ok (.invokevirtual 211, 3) := by decide +kernel
theorem dX5_best_28 : decode cX5_best 28 = .ok (.bipush 6, 2) := by decide +kernel
theorem dX5_best_30 : decode cX5_best 30 = .ok (.if_icmp .gt 17, 3) := by decide +kernel
theorem dX5_best_33 : decode cX5_best 33 = .ok (.iload_n 1, 1) := by decide +kernel
theorem dX5_best_34 : decode cX5_best 34 = .ok (.bipush 12, 2) := by decide +kernel
theorem dX5_best_36 : decode cX5_best 36 = .ok (.if_icmp .ge 13, 3) := by decide +kernel
theorem dX5_best_39 : decode cX5_best 39 = .ok (.aload_n 0, 1) := by decide +kernel
theorem dX5_best_40 : decode cX5_best 40 = .ok (.iload_n 1, 1) := by decide +kernel
theorem dX5_best_41 : decode cX5_best 41 = .ok (.invokevirtual 52, 3) := by decide +kernel
theorem dX5_best_44 : decode cX5_best 44 = .ok (.ifCond .ne 5, 3) := by decide +kernel
theorem dX5_best_47 : decode cX5_best 47 = .ok (.iconst (-1), 1) := by decide +kernel
theorem dX5_best_48 : decode cX5_best 48 = .ok (.ireturn, 1) := by decide +kernel
theorem dX5_best_49 : decode cX5_best 49 = .ok (.aload_n 0, 1) := by decide +kernel
theorem dX5_best_50 : decode cX5_best 50 = .ok (.aload_n 0, 1) := by decide +kernel
theorem dX5_best_51 : decode cX5_best 51 = .ok (.invokevirtual 211, 3) := by decide +kernel
theorem dX5_best_54 : decode cX5_best 54 = .ok (.invokevirtual 214, 3) := by decide +kernel
theorem dX5_best_57 : decode cX5_best 57 = .ok (.iload_n 1, 1) := by decide +kernel
theorem dX5_best_58 : decode cX5_best 58 = .ok (.bipush 12, 2) := by decide +kernel
theorem dX5_best_60 : decode cX5_best 60 = .ok (.if_icmp .ne 10, 3) := by decide +kernel
theorem dX5_best_63 : decode cX5_best 63 = .ok (.aload_n 0, 1) := by decide +kernel
theorem dX5_best_64 : decode cX5_best 64 = .ok (.getfield 196, 3) := by decide +kernel
theorem dX5_best_67 : decode cX5_best 67 = .ok (.goto 43, 3) := by decide +kernel
theorem dX5_best_70 : decode cX5_best 70 = .ok (.iload_n 1, 1) := by decide +kernel
theorem dX5_best_71 : decode cX5_best 71 = .ok (.bipush 13, 2) := by decide +kernel
theorem dX5_best_73 : decode cX5_best 73 = .ok (.if_icmp .ne 10, 3) := by decide +kernel
theorem dX5_best_76 : decode cX5_best 76 = .ok (.aload_n 0, 1) := by decide +kernel
theorem dX5_best_77 : decode cX5_best 77 = .ok (.getfield 199, 3) := by decide +kernel
theorem dX5_best_80 : decode cX5_best 80 = .ok (.goto 30, 3) := by decide +kernel
theorem dX5_best_83 : decode cX5_best 83 = .ok (.iload_n 1, 1) := by decide +kernel
theorem dX5_best_84 : decode cX5_best 84 = .ok (.bipush 14, 2) := by decide +kernel
theorem dX5_best_86 : decode cX5_best 86 = .ok (.if_icmp .ne 18, 3) := by decide +kernel
theorem dX5_best_89 : decode cX5_best 89 = .ok (.aload_n 0, 1) := by decide +kernel
theorem dX5_best_90 : decode cX5_best 90 = .ok (.getfield 202, 3) := by decide +kernel
theorem dX5_best_93 : decode cX5_best 93 = .ok (.ifCond .eq 7, 3) := by decide +kernel
theorem dX5_best_96 : decode cX5_best 96 = .ok (.iconst 1, 1) := by decide +kernel
theorem dX5_best_97 : decode cX5_best 97 = .ok (.goto 13, 3) := by decide +kernel
theorem dX5_best_100 : decode cX5_best 100 = .ok (.iconst 0, 1) := by decide +kernel
theorem dX5_best_101 : decode cX5_best 101 = .ok (.goto 9, 3) := by decide +kernel
theorem dX5_best_104 : decode cX5_best 104 = .ok (.aload_n 0, 1) := by decide +kernel
theorem dX5_best_105 : decode cX5_best 105 = .ok (.getfield 29, 3) := by decide +kernel
theorem dX5_best_108 : decode cX5_best 108 = .ok (.iload_n 1, 1) := by decide +kernel
theorem dX5_best_109 : decode cX5_best 109 = .ok (.iaload, 1) := by decide +kernel
theorem dX5_best_110 : decode cX5_best 110 = .ok (.ireturn, 1) := by decide +kernel
theorem dX5_isFree_0 : decode cX5_isFree 0 = .ok (.aload_n 0, 1) := by decide +kernel
theorem dX5_isFree_1 : decode cX5_isFree 1 = .ok (.getfield 16, 3) := by decide +kernel
theorem dX5_isFree_4 : decode cX5_isFree 4 = .ok (.iload_n 1, 1) := by decide +kernel
theorem dX5_isFree_5 : decode cX5_isFree 5 = .ok (.iaload, 1) := by decide +kernel
theorem dX5_isFree_6 : decode cX5_isFree 6 = .ok (.istore 4, 2) := by decide +kernel
theorem dX5_isFree_8 : decode cX5_isFree 8 = .ok (.aload_n 0, 1) := by decide +kernel
theorem dX5_isFree_9 : decode cX5_isFree 9 = .ok (.getfield 16, 3) := by decide +kernel
theorem dX5_isFree_12 : decode cX5_isFree 12 = .ok (.iload_n 1, 1) := by decide +kernel
theorem dX5_isFree_13 : decode cX5_isFree 13 = .ok (.iload_n 2, 1) := by decide +kernel
theorem dX5_isFree_14 : decode cX5_isFree 14 = .ok (.iastore, 1) := by decide +kernel
theorem dX5_isFree_15 : decode cX5_isFree 15 = .ok (.iconst 1, 1) := by decide +kernel
theorem dX5_isFree_16 : decode cX5_isFree 16 = .ok (.istore 5, 2) := by decide +kernel
theorem dX5_isFree_18 : decode cX5_isFree 18 = .ok (.iconst 0, 1) := by decide +kernel
theorem dX5_isFree_19 : decode cX5_isFree 19 = .ok (.istore 6, 2) := by decide +kernel
theorem dX5_isFree_21 : decode cX5_isFree 21 = .ok (.iload 6, 2) := by decide +kernel
theorem dX5_isFree_23 : decode cX5_isFree 23 = .ok (.aload_n 0, 1) := by decide +kernel
theorem dX5_isFree_24 : decode cX5_isFree 24 = .ok (.getfield 13, 3) := by decide +kernel
theorem dX5_isFree_27 : decode cX5_isFree 27 = .ok (.if_icmp .ge 52, 3) := by decide +kernel
theorem dX5_isFree_30 : decode cX5_isFree 30 = .ok (.iload 5, 2) := by decide +kernel
theorem dX5_isFree_32 : decode cX5_isFree 32 = .ok (.ifCond .eq 47, 3) := by decide +kernel
theorem dX5_isFree_35 : decode cX5_isFree 35 = .ok (.iload_n 3, 1) := by decide +kernel
theorem dX5_isFree_36 : decode cX5_isFree 36 = .ok (.ifCond .ne 20, 3) := by decide +kernel
theorem dX5_isFree_39 : decode cX5_isFree 39 = .ok (.aload_n 0, 1) := by decide +kernel
theorem dX5_isFree_40 : decode cX5_isFree 40 = .ok (.iload 6, 2) := by decide +kernel
theorem dX5_isFree_42 : decode cX5_isFree 42 = .ok (.invokevirtual 167, 3) := by decide +kernel
theorem dX5_isFree_45 : decode cX5_isFree 45 = .ok (.ifCond .ne 7, 3) := by decide +kernel
theorem dX5_isFree_48 : decode cX5_isFree 48 = .ok (.iconst 1, 1) := by decide +kernel
theorem dX5_isFree_49 : decode cX5_isFree 49 = .ok (.goto 22, 3) := by decide +kernel
theorem dX5_isFree_52 : decode cX5_isFree 52 = .ok (.iconst 0, 1) := by decide +kernel
theorem dX5_isFree_53 : decode cX5_isFree 53 = .ok (.goto 18, 3) := by decide +kernel
theorem dX5_isFree_56 : decode cX5_isFree 56 = .ok (.aload_n 0, 1) := by decide +kernel
theorem dX5_isFree_57 : decode cX5_isFree 57 = .ok (.iload 6, 2) := by decide +kernel
theorem dX5_isFree_59 : decode cX5_isFree 59 = .ok (.iload_n 3, 1) := by decide +kernel
theorem dX5_isFree_60 : decode cX5_isFree 60 = .ok (.invokevirtual 176, 3) := by decide +kernel
theorem dX5_isFree_63 : decode cX5_isFree 63 = .ok (.ifCond .ne 7, 3) := by decide +kernel
theorem dX5_isFree_66 : decode cX5_isFree 66 = .ok (.iconst 1, 1) := by decide +kernel
theorem dX5_isFree_67 : decode cX5_isFree 67 = .ok (.goto 4, 3) := by decide +kernel
theorem dX5_isFree_70 : decode cX5_isFree 70 = .ok (.iconst 0, 1) := by decide +kernel
theorem dX5_isFree_71 : decode cX5_isFree 71 = .ok (.istore 5, 2) := by decide +kernel
theorem dX5_isFree_73 : decode cX5_isFree 73 = .ok (.iinc 6 1, 3) := by decide +kernel
theorem dX5_isFree_76 : decode cX5_isFree 76 = .ok (.goto (-55), 3) := by decide +kernel
theorem dX5_isFree_79 : decode cX5_isFree 79 = .ok (.aload_n 0, 1) := by decide +kernel
theorem dX5_isFree_80 : decode cX5_isFree 80 = .ok (.getfield 16, 3) := by decide +kernel
theorem dX5_isFree_83 : decode cX5_isFree 83 = .ok (.iload_n 1, 1) := by decide +kernel
theorem dX5_isFree_84 : decode cX5_isFree 84 = .ok (.iload 4, 2) := by decide +kernel
theorem dX5_isFree_86 : decode cX5_isFree 86 = .ok (.iastore, 1) := by decide +kernel
theorem dX5_isFree_87 : decode cX5_isFree 87 = .ok (.iload 5, 2) := by decide +kernel
theorem dX5_isFree_89 : decode cX5_isFree 89 = .ok (.ireturn, 1) := by decide +kernel
theorem dX5_limit_0 : decode cX5_limit 0 = .ok (.aload_n 0, 1) := by decide +kernel
theorem dX5_limit_1 : decode cX5_limit 1 = .ok (.iconst 0, 1) := by decide +kernel
theorem dX5_limit_2 : decode cX5_limit 2 = .ok (.putfield 1, 3) := by decide +kernel
theorem dX5_limit_5 : decode cX5_limit 5 = .ok (.iload_n 1, 1) := by decide +kernel
theorem dX5_limit_6 : decode cX5_limit 6 = .ok (.i2l, 1) := by decide +kernel
theorem dX5_limit_7 : decode cX5_limit 7 = .ok (.lconst 0, 1) := by decide +kernel
theorem dX5_limit_8 : decode cX5_limit 8 = .ok (.ldc2_w 84, 3) := by decide +kernel
theorem dX5_limit_11 : decode cX5_limit 11 = .ok (.invokestatic 39, 3) := by decide +kernel
theorem dX5_limit_14 : decode cX5_limit 14 = .ok (.ifCond .eq 10, 3) := by decide +kernel
theorem dX5_limit_17 : decode cX5_limit 17 = .ok (.aload_n 0, 1) := by decide +kernel
theorem dX5_limit_18 : decode cX5_limit 18 = .ok (.invokevirtual 128, 3) := by decide +kernel
theorem dX5_limit_21 : decode cX5_limit 21 = .ok (.ifCond .ne 5, 3) := by decide +kernel
theorem dX5_limit_24 : decode cX5_limit 24 = .ok (.iconst (-1), 1) := by decide +kernel
theorem dX5_limit_25 : decode cX5_limit 25 = .ok (.ireturn, 1) := by decide +kernel
theorem dX5_limit_26 : decode cX5_limit 26 = .ok (.iconst 0, 1) := by decide +kernel
theorem dX5_limit_27 : decode cX5_limit 27 = .ok (.istore_n 2, 1) := by decide +kernel
theorem dX5_limit_28 : decode cX5_limit 28 = .ok (.iload_n 1, 1) := by decide +kernel
theorem dX5_limit_29 : decode cX5_limit 29 = .ok (.ifCond .ne 31, 3) := by decide +kernel
theorem dX5_limit_32 : decode cX5_limit 32 = .ok (.iload_n 2, 1) := by decide +kernel
theorem dX5_limit_33 : decode cX5_limit 33 = .ok (.sipush 9999, 3) := by decide +kernel
theorem dX5_limit_36 : decode cX5_limit 36 = .ok (.if_icmp .ge 22, 3) := by decide +kernel
theorem dX5_limit_39 : decode cX5_limit 39 = .ok (.aload_n 0, 1) := by decide +kernel
theorem dX5_limit_40 : decode cX5_limit 40 = .ok (.bipush 64, 2) := by decide +kernel
theorem dX5_limit_42 : decode cX5_limit 42 = .ok (.iload_n 2, 1) := by decide +kernel
theorem dX5_limit_43 : decode cX5_limit 43 = .ok (.iconst 1, 1) := by decide +kernel
theorem dX5_limit_44 : decode cX5_limit 44 = .ok (.iadd, 1) := by decide +kernel
theorem dX5_limit_45 : decode cX5_limit 45 = .ok (.iconst 0, 1) := by decide +kernel
theorem dX5_limit_46 : decode cX5_limit 46 = .ok (.invokevirtual 218, 3) := by decide +kernel
theorem dX5_limit_49 : decode cX5_limit 49 = .ok (.ifCond .eq 9, 3) := by decide +kernel
theorem dX5_limit_52 : decode cX5_limit 52 = .ok (.iinc 2 1, 3) := by decide +kernel
theorem dX5_limit_55 : decode cX5_limit 55 = .ok (.goto (-23), 3) := by decide +kernel
theorem dX5_limit_58 : decode cX5_limit 58 = .ok (.iload_n 2, 1) := by decide +kernel
theorem dX5_limit_59 : decode cX5_limit 59 = .ok (.ireturn, 1) := by decide +kernel
theorem dX5_limit_60 : decode cX5_limit 60 = .ok (.iload_n 1, 1) := by decide +kernel
theorem dX5_limit_61 : decode cX5_limit 61 = .ok (.iconst 1, 1) := by decide +kernel
theorem dX5_limit_62 : decode cX5_limit 62 = .ok (.if_icmp .ne 43, 3) := by decide +kernel
theorem dX5_limit_65 : decode cX5_limit 65 = .ok (.bipush 10, 2) := by decide +kernel
theorem dX5_limit_67 : decode cX5_limit 67 = .ok (.istore_n 2, 1) := by decide +kernel
theorem dX5_limit_68 : decode cX5_limit 68 = .ok (.iload_n 2, 1) := by decide +kernel
theorem dX5_limit_69 : decode cX5_limit 69 = .ok (.sipush 9999, 3) := by decide +kernel
theorem dX5_limit_72 : decode cX5_limit 72 = .ok (.if_icmp .gt 20, 3) := by decide +kernel
theorem dX5_limit_75 : decode cX5_limit 75 = .ok (.aload_n 0, 1) := by decide +kernel
theorem dX5_limit_76 : decode cX5_limit 76 = .ok (.bipush 63, 2) := by decide +kernel
theorem dX5_limit_78 : decode cX5_limit 78 = .ok (.iload_n 2, 1) := by decide +kernel
theorem dX5_limit_79 : decode cX5_limit 79 = .ok (.iconst 2, 1) := by decide +kernel
theorem dX5_limit_80 : decode cX5_limit 80 = .ok (.invokevirtual 218, 3) := by decide +kernel
theorem dX5_limit_83 : decode cX5_limit 83 = .ok (.ifCond .ne 9, 3) := by decide +kernel
theorem dX5_limit_86 : decode cX5_limit 86 = .ok (.iinc 2 1, 3) := by decide +kernel
theorem dX5_limit_89 : decode cX5_limit 89 = .ok (.goto (-21), 3) := by decide +kernel
theorem dX5_limit_92 : decode cX5_limit 92 = .ok (.iload_n 2, 1) := by decide +kernel
theorem dX5_limit_93 : decode cX5_limit 93 = .ok (.sipush 9999, 3) := by decide +kernel
theorem dX5_limit_96 : decode cX5_limit 96 = .ok (.if_icmp .le 7, 3) := by decide +kernel
theorem dX5_limit_99 : decode cX5_limit 99 = .ok (.iconst (-1), 1) := by decide +kernel
theorem dX5_limit_100 : decode cX5_limit 100 = .ok (.goto 4, 3) := by decide +kernel
theorem dX5_limit_103 : decode cX5_limit 103 = .ok (.iload_n 2, 1) := by decide +kernel
theorem dX5_limit_104 : decode cX5_limit 104 = .ok (.ireturn, 1) := by decide +kernel
theorem dX5_limit_105 : decode cX5_limit 105 = .ok (.sipush 9999, 3) := by decide +kernel
theorem dX5_limit_108 : decode cX5_limit 108 = .ok (.istore_n 2, 1) := by decide +kernel
theorem dX5_limit_109 : decode cX5_limit 109 = .ok (.iload_n 2, 1) := by decide +kernel
theorem dX5_limit_110 : decode cX5_limit 110 = .ok (.ifCond .lt 20, 3) := by decide +kernel
theorem dX5_limit_113 : decode cX5_limit 113 = .ok (.aload_n 0, 1) := by decide +kernel
theorem dX5_limit_114 : decode cX5_limit 114 = .ok (.bipush 68, 2) := by decide +kernel
theorem dX5_limit_116 : decode cX5_limit 116 = .ok (.iload_n 2, 1) := by decide +kernel
theorem dX5_limit_117 : decode cX5_limit 117 = .ok (.iconst 3, 1) := by decide +kernel
theorem dX5_limit_118 : decode cX5_limit 118 = .ok (.invokevirtual 218, 3) := by decide +kernel
theorem dX5_limit_121 : decode cX5_limit 121 = .ok (.ifCond .ne 9, 3) := by decide +kernel
theorem dX5_limit_124 : decode cX5_limit 124 = .ok (.iinc 2 (-1), 3) := by decide +kernel
theorem dX5_limit_127 : decode cX5_limit 127 = .ok (.goto (-18), 3) := by decide +kernel
theorem dX5_limit_130 : decode cX5_limit 130 = .ok (.iload_n 2, 1) := by decide +kernel
theorem dX5_limit_131 : decode cX5_limit 131 = .ok (.ireturn, 1) := by decide +kernel
theorem dX5_count_0 : decode cX5_count 0 = .ok (.aload_n 0, 1) := by decide +kernel
theorem dX5_count_1 : decode cX5_count 1 = .ok (.iconst 0, 1) := by decide +kernel
theorem dX5_count_2 : decode cX5_count 2 = .ok (.putfield 1, 3) := by decide +kernel
theorem dX5_count_5 : decode cX5_count 5 = .ok (.iload_n 1, 1) := by decide +kernel
theorem dX5_count_6 : decode cX5_count 6 = .ok (.tableswitch 221 0 15 #[78, 83, 91, 99, 107, 115, 123, 131, 139, 147, 155, 163, 171, 184, 204, 209], 78) := by decide +kernel
theorem dX5_count_84 : decode cX5_count 84 = .ok (.aload_n 0, 1) := by decide +kernel
theorem dX5_count_85 : decode cX5_count 85 = .ok (.getfield 13, 3) := by decide +kernel
theorem dX5_count_88 : decode cX5_count 88 = .ok (.ireturn, 1) := by decide +kernel
theorem dX5_count_89 : decode cX5_count 89 = .ok (.aload_n 0, 1) := by decide +kernel
theorem dX5_count_90 : decode cX5_count 90 = .ok (.getfield 16, 3) := by decide +kernel
theorem dX5_count_93 : decode cX5_count 93 = .ok (.bipush 60, 2) := by decide +kernel
theorem dX5_count_95 : decode cX5_count 95 = .ok (.iaload, 1) := by decide +kernel
theorem dX5_count_96 : decode cX5_count 96 = .ok (.ireturn, 1) := by decide +kernel
theorem dX5_count_97 : decode cX5_count 97 = .ok (.aload_n 0, 1) := by decide +kernel
theorem dX5_count_98 : decode cX5_count 98 = .ok (.getfield 16, 3) := by decide +kernel
theorem dX5_count_101 : decode cX5_count 101 = .ok (.bipush 62, 2) := by decide +kernel
theorem dX5_count_103 : decode cX5_count 103 = .ok (.iaload, 1) := by decide +kernel
theorem dX5_count_104 : decode cX5_count 104 = .ok (.ireturn, 1) := by decide +kernel
theorem dX5_count_105 : decode cX5_count 105 = .ok (.aload_n 0, 1) := by decide +kernel
theorem dX5_count_106 : decode cX5_count 106 = .ok (.getfield 16, 3) := by decide +kernel
theorem dX5_count_109 : decode cX5_count 109 = .ok (.bipush 63, 2) := by decide +kernel
theorem dX5_count_111 : decode cX5_count 111 = .ok (.iaload, 1) := by decide +kernel
theorem dX5_count_112 : decode cX5_count 112 = .ok (.ireturn, 1) := by decide +kernel
theorem dX5_count_113 : decode cX5_count 113 = .ok (.aload_n 0, 1) := by decide +kernel
theorem dX5_count_114 : decode cX5_count 114 = .ok (.getfield 16, 3) := by decide +kernel
theorem dX5_count_117 : decode cX5_count 117 = .ok (.bipush 64, 2) := by decide +kernel
theorem dX5_count_119 : decode cX5_count 119 = .ok (.iaload, 1) := by decide +kernel
theorem dX5_count_120 : decode cX5_count 120 = .ok (.ireturn, 1) := by decide +kernel
theorem dX5_count_121 : decode cX5_count 121 = .ok (.aload_n 0, 1) := by decide +kernel
theorem dX5_count_122 : decode cX5_count 122 = .ok (.getfield 16, 3) := by decide +kernel
theorem dX5_count_125 : decode cX5_count 125 = .ok (.bipush 65, 2) := by decide +kernel
theorem dX5_count_127 : decode cX5_count 127 = .ok (.iaload, 1) := by decide +kernel
theorem dX5_count_128 : decode cX5_count 128 = .ok (.ireturn, 1) := by decide +kernel
theorem dX5_count_129 : decode cX5_count 129 = .ok (.aload_n 0, 1) := by decide +kernel
theorem dX5_count_130 : decode cX5_count 130 = .ok (.getfield 16, 3) := by decide +kernel
theorem dX5_count_133 : decode cX5_count 133 = .ok (.bipush 66, 2) := by decide +kernel
theorem dX5_count_135 : decode cX5_count 135 = .ok (.iaload, 1) := by decide +kernel
theorem dX5_count_136 : decode cX5_count 136 = .ok (.ireturn, 1) := by decide +kernel
theorem dX5_count_137 : decode cX5_count 137 = .ok (.aload_n 0, 1) := by decide +kernel
theorem dX5_count_138 : decode cX5_count 138 = .ok (.getfield 16, 3) := by decide +kernel
theorem dX5_count_141 : decode cX5_count 141 = .ok (.bipush 67, 2) := by decide +kernel
theorem dX5_count_143 : decode cX5_count 143 = .ok (.iaload, 1) := by decide +kernel
theorem dX5_count_144 : decode cX5_count 144 = .ok (.ireturn, 1) := by decide +kernel
theorem dX5_count_145 : decode cX5_count 145 = .ok (.aload_n 0, 1) := by decide +kernel
theorem dX5_count_146 : decode cX5_count 146 = .ok (.getfield 16, 3) := by decide +kernel
theorem dX5_count_149 : decode cX5_count 149 = .ok (.bipush 68, 2) := by decide +kernel
theorem dX5_count_151 : decode cX5_count 151 = .ok (.iaload, 1) := by decide +kernel
theorem dX5_count_152 : decode cX5_count 152 = .ok (.ireturn, 1) := by decide +kernel
theorem dX5_count_153 : decode cX5_count 153 = .ok (.aload_n 0, 1) := by decide +kernel
theorem dX5_count_154 : decode cX5_count 154 = .ok (.getfield 16, 3) := by decide +kernel
theorem dX5_count_157 : decode cX5_count 157 = .ok (.bipush 69, 2) := by decide +kernel
theorem dX5_count_159 : decode cX5_count 159 = .ok (.iaload, 1) := by decide +kernel
theorem dX5_count_160 : decode cX5_count 160 = .ok (.ireturn, 1) := by decide +kernel
theorem dX5_count_161 : decode cX5_count 161 = .ok (.aload_n 0, 1) := by decide +kernel
theorem dX5_count_162 : decode cX5_count 162 = .ok (.getfield 16, 3) := by decide +kernel
theorem dX5_count_165 : decode cX5_count 165 = .ok (.bipush 70, 2) := by decide +kernel
theorem dX5_count_167 : decode cX5_count 167 = .ok (.iaload, 1) := by decide +kernel
theorem dX5_count_168 : decode cX5_count 168 = .ok (.ireturn, 1) := by decide +kernel
theorem dX5_count_169 : decode cX5_count 169 = .ok (.aload_n 0, 1) := by decide +kernel
theorem dX5_count_170 : decode cX5_count 170 = .ok (.getfield 16, 3) := by decide +kernel
theorem dX5_count_173 : decode cX5_count 173 = .ok (.bipush 61, 2) := by decide +kernel
theorem dX5_count_175 : decode cX5_count 175 = .ok (.iaload, 1) := by decide +kernel
theorem dX5_count_176 : decode cX5_count 176 = .ok (.ireturn, 1) := by decide +kernel
theorem dX5_count_177 : decode cX5_count 177 = .ok (.aload_n 0, 1) := by decide +kernel
theorem dX5_count_178 : decode cX5_count 178 = .ok (.invokevirtual 114, 3) := by decide +kernel
theorem dX5_count_181 : decode cX5_count 181 = .ok (.ifCond .eq 7, 3) := by decide +kernel
theorem dX5_count_184 : decode cX5_count 184 = .ok (.iconst 1, 1) := by decide +kernel
theorem dX5_count_185 : decode cX5_count 185 = .ok (.goto 4, 3) := by decide +kernel
theorem dX5_count_188 : decode cX5_count 188 = .ok (.iconst 0, 1) := by decide +kernel
theorem dX5_count_189 : decode cX5_count 189 = .ok (.ireturn, 1) := by decide +kernel
theorem dX5_count_190 : decode cX5_count 190 = .ok (.aload_n 0, 1) := by decide +kernel
theorem dX5_count_191 : decode cX5_count 191 = .ok (.invokevirtual 128, 3) := by decide +kernel
theorem dX5_count_194 : decode cX5_count 194 = .ok (.ifCond .eq 14, 3) := by decide +kernel
theorem dX5_count_197 : decode cX5_count 197 = .ok (.aload_n 0, 1) := by decide +kernel
theorem dX5_count_198 : decode cX5_count 198 = .ok (.invokevirtual 193, 3) := by decide +kernel
theorem dX5_count_201 : decode cX5_count 201 = .ok (.ifCond .eq 7, 3) := by decide +kernel
theorem dX5_count_204 : decode cX5_count 204 = .ok (.iconst 1, 1) := by decide +kernel
theorem dX5_count_205 : decode cX5_count 205 = .ok (.goto 4, 3) := by decide +kernel
theorem dX5_count_208 : decode cX5_count 208 = .ok (.iconst 0, 1) := by decide +kernel
theorem dX5_count_209 : decode cX5_count 209 = .ok (.ireturn, 1) := by decide +kernel
theorem dX5_count_210 : decode cX5_count 210 = .ok (.aload_n 0, 1) := by decide +kernel
theorem dX5_count_211 : decode cX5_count 211 = .ok (.getfield 32, 3) := by decide +kernel
theorem dX5_count_214 : decode cX5_count 214 = .ok (.ireturn, 1) := by decide +kernel
theorem dX5_count_215 : decode cX5_count 215 = .ok (.aload_n 0, 1) := by decide +kernel
theorem dX5_count_216 : decode cX5_count 216 = .ok (.aload_n 0, 1) := by decide +kernel
theorem dX5_count_217 : decode cX5_count 217 = .ok (.getfield 16, 3) := by decide +kernel
theorem dX5_count_220 : decode cX5_count 220 = .ok (.bipush 60, 2) := by decide +kernel
theorem dX5_count_222 : decode cX5_count 222 = .ok (.iaload, 1) := by decide +kernel
theorem dX5_count_223 : decode cX5_count 223 = .ok (.invokevirtual 78, 3) := by decide +kernel
theorem dX5_count_226 : decode cX5_count 226 = .ok (.ireturn, 1) := by decide +kernel
theorem dX5_count_227 : decode cX5_count 227 = .ok (.iconst (-1), 1) := by decide +kernel
theorem dX5_count_228 : decode cX5_count 228 = .ok (.ireturn, 1) := by decide +kernel
end
section
theorem dL_diff_0 : decode cL_diff 0 = .ok (.aload_n 3, 1) := by decide +kernel
theorem dL_diff_1 : decode cL_diff 1 = .ok (.iconst 0, 1) := by decide +kernel
theorem dL_diff_2 : decode cL_diff 2 = .ok (.aload_n 0, 1) := by decide +kernel
theorem dL_diff_3 : decode cL_diff 3 = .ok (.iload_n 1, 1) := by decide +kernel
theorem dL_diff_4 : decode cL_diff 4 = .ok (.iload_n 2, 1) := by decide +kernel
theorem dL_diff_5 : decode cL_diff 5 = .ok (.invokevirtual 7, 3) := by decide +kernel
theorem dL_diff_8 : decode cL_diff 8 = .ok (.i2l, 1) := by decide +kernel
theorem dL_diff_9 : decode cL_diff 9 = .ok (.lastore, 1) := by decide +kernel
theorem dL_diff_10 : decode cL_diff 10 = .ok (.goto 7, 3) := by decide +kernel
theorem dL_diff_13 : decode cL_diff 13 = .ok (.astore 4, 2) := by decide +kernel
theorem dL_diff_15 : decode cL_diff 15 = .ok (.iconst 1, 1) := by decide +kernel
theorem dL_diff_16 : decode cL_diff 16 = .ok (.ireturn, 1) := by decide +kernel
theorem dL_diff_17 : decode cL_diff 17 = .ok (.iconst 0, 1) := by decide +kernel
theorem dL_diff_18 : decode cL_diff 18 = .ok (.ireturn, 1) := by decide +kernel
theorem dL_shape_0 : decode cL_shape 0 = .ok (.aload_n 3, 1) := by decide +kernel
theorem dL_shape_1 : decode cL_shape 1 = .ok (.iconst 0, 1) := by decide +kernel
theorem dL_shape_2 : decode cL_shape 2 = .ok (.aload_n 0, 1) := by decide +kernel
theorem dL_shape_3 : decode cL_shape 3 = .ok (.iload_n 1, 1) := by decide +kernel
theorem dL_shape_4 : decode cL_shape 4 = .ok (.iload_n 2, 1) := by decide +kernel
theorem dL_shape_5 : decode cL_shape 5 = .ok (.invokevirtual 15, 3) := by decide +kernel
theorem dL_shape_8 : decode cL_shape 8 = .ok (.lastore, 1) := by decide +kernel
theorem dL_shape_9 : decode cL_shape 9 = .ok (.goto 7, 3) := by decide +kernel
theorem dL_shape_12 : decode cL_shape 12 = .ok (.astore 4, 2) := by decide +kernel
theorem dL_shape_14 : decode cL_shape 14 = .ok (.iconst 1, 1) := by decide +kernel
theorem dL_shape_15 : decode cL_shape 15 = .ok (.ireturn, 1) := by decide +kernel
theorem dL_shape_16 : decode cL_shape 16 = .ok (.iconst 0, 1) := by decide +kernel
theorem dL_shape_17 : decode cL_shape 17 = .ok (.ireturn, 1) := by decide +kernel
theorem dL_force_0 : decode cL_force 0 = .ok (.aload_n 2, 1) := by decide +kernel
theorem dL_force_1 : decode cL_force 1 = .ok (.iconst 0, 1) := by decide +kernel
theorem dL_force_2 : decode cL_force 2 = .ok (.aload_n 0, 1) := by decide +kernel
theorem dL_force_3 : decode cL_force 3 = .ok (.iload_n 1, 1) := by decide +kernel
theorem dL_force_4 : decode cL_force 4 = .ok (.invokevirtual 19, 3) := by decide +kernel
theorem dL_force_7 : decode cL_force 7 = .ok (.lastore, 1) := by decide +kernel
theorem dL_force_8 : decode cL_force 8 = .ok (.goto 6, 3) := by decide +kernel
theorem dL_force_11 : decode cL_force 11 = .ok (.astore_n 3, 1) := by decide +kernel
theorem dL_force_12 : decode cL_force 12 = .ok (.iconst 1, 1) := by decide +kernel
theorem dL_force_13 : decode cL_force 13 = .ok (.ireturn, 1) := by decide +kernel
theorem dL_force_14 : decode cL_force 14 = .ok (.iconst 0, 1) := by decide +kernel
theorem dL_force_15 : decode cL_force 15 = .ok (.ireturn, 1) := by decide +kernel
theorem dL_law_0 : decode cL_law 0 = .ok (.new 8, 3) := by decide +kernel
theorem dL_law_3 : decode cL_law 3 = .ok (.dup, 1) := by decide +kernel
theorem dL_law_4 : decode cL_law 4 = .ok (.invokespecial 23, 3) := by decide +kernel
theorem dL_law_7 : decode cL_law 7 = .ok (.astore_n 1, 1) := by decide +kernel
theorem dL_law_8 : decode cL_law 8 = .ok (.new 24, 3) := by decide +kernel
theorem dL_law_11 : decode cL_law 11 = .ok (.dup, 1) := by decide +kernel
theorem dL_law_12 : decode cL_law 12 = .ok (.invokespecial 26, 3) := by decide +kernel
theorem dL_law_15 : decode cL_law 15 = .ok (.astore_n 2, 1) := by decide +kernel
theorem dL_law_16 : decode cL_law 16 = .ok (.iconst 1, 1) := by decide +kernel
theorem dL_law_17 : decode cL_law 17 = .ok (.newarray .long, 2) := by decide +kernel
theorem dL_law_19 : decode cL_law 19 = .ok (.astore_n 3, 1) := by decide +kernel
theorem dL_law_20 : decode cL_law 20 = .ok (.iconst 0, 1) := by decide +kernel
theorem dL_law_21 : decode cL_law 21 = .ok (.istore 4, 2) := by decide +kernel
theorem dL_law_23 : decode cL_law 23 = .ok (.iload 4, 2) := by decide +kernel
theorem dL_law_25 : decode cL_law 25 = .ok (.aload_n 0, 1) := by decide +kernel
theorem dL_law_26 : decode cL_law 26 = .ok (.arraylength, 1) := by decide +kernel
theorem dL_law_27 : decode cL_law 27 = .ok (.iconst 4, 1) := by decide +kernel
theorem dL_law_28 : decode cL_law 28 = .ok (.isub, 1) := by decide +kernel
theorem dL_law_29 : decode cL_law 29 = .ok (.if_icmp .gt 1122, 3) := by decide +kernel
theorem dL_law_32 : decode cL_law 32 = .ok (.aload_n 0, 1) := by decide +kernel
theorem dL_law_33 : decode cL_law 33 = .ok (.iload 4, 2) := by decide +kernel
theorem dL_law_35 : decode cL_law 35 = .ok (.iaload, 1) := by decide +kernel
theorem dL_law_36 : decode cL_law 36 = .ok (.bipush 31, 2) := by decide +kernel
theorem dL_law_38 : decode cL_law 38 = .ok (.iand, 1) := by decide +kernel
theorem dL_law_39 : decode cL_law 39 = .ok (.tableswitch 1106 0 29 #[133, 158, 207, 256, 269, 294, 319, 344, 393, 418, 443, 468, 517, 542, 555, 592, 617, 685, 722, 747, 814, 839, 864, 919, 956, 981, 994, 1031, 1056, 1081], 133) := by decide +kernel
theorem dL_law_172 : decode cL_law 172 = .ok (.aload_n 1, 1) := by decide +kernel
theorem dL_law_173 : decode cL_law 173 = .ok (.aload_n 0, 1) := by decide +kernel
theorem dL_law_174 : decode cL_law 174 = .ok (.iload 4, 2) := by decide +kernel
theorem dL_law_176 : decode cL_law 176 = .ok (.iconst 1, 1) := by decide +kernel
theorem dL_law_177 : decode cL_law 177 = .ok (.iadd, 1) := by decide +kernel
theorem dL_law_178 : decode cL_law 178 = .ok (.iaload, 1) := by decide +kernel
theorem dL_law_179 : decode cL_law 179 = .ok (.invokevirtual 27, 3) := by decide +kernel
theorem dL_law_182 : decode cL_law 182 = .ok (.aload_n 2, 1) := by decide +kernel
theorem dL_law_183 : decode cL_law 183 = .ok (.aload_n 0, 1) := by decide +kernel
theorem dL_law_184 : decode cL_law 184 = .ok (.iload 4, 2) := by decide +kernel
theorem dL_law_186 : decode cL_law 186 = .ok (.iconst 1, 1) := by decide +kernel
theorem dL_law_187 : decode cL_law 187 = .ok (.iadd, 1) := by decide +kernel
theorem dL_law_188 : decode cL_law 188 = .ok (.iaload, 1) := by decide +kernel
theorem dL_law_189 : decode cL_law 189 = .ok (.invokevirtual 31, 3) := by decide +kernel
theorem dL_law_192 : decode cL_law 192 = .ok (.if_icmp .eq 953, 3) := by decide +kernel
theorem dL_law_195 : decode cL_law 195 = .ok (.iconst 0, 1) := by decide +kernel
theorem dL_law_196 : decode cL_law 196 = .ok (.ireturn, 1) := by decide +kernel
theorem dL_law_197 : decode cL_law 197 = .ok (.aload_n 1, 1) := by decide +kernel
theorem dL_law_198 : decode cL_law 198 = .ok (.aload_n 0, 1) := by decide +kernel
theorem dL_law_199 : decode cL_law 199 = .ok (.iload 4, 2) := by decide +kernel
theorem dL_law_201 : decode cL_law 201 = .ok (.iconst 1, 1) := by decide +kernel
theorem dL_law_202 : decode cL_law 202 = .ok (.iadd, 1) := by decide +kernel
theorem dL_law_203 : decode cL_law 203 = .ok (.iaload, 1) := by decide +kernel
theorem dL_law_204 : decode cL_law 204 = .ok (.aload_n 0, 1) := by decide +kernel
theorem dL_law_205 : decode cL_law 205 = .ok (.iload 4, 2) := by decide +kernel
theorem dL_law_207 : decode cL_law 207 = .ok (.iconst 2, 1) := by decide +kernel
theorem dL_law_208 : decode cL_law 208 = .ok (.iadd, 1) := by decide +kernel
theorem dL_law_209 : decode cL_law 209 = .ok (.iaload, 1) := by decide +kernel
theorem dL_law_210 : decode cL_law 210 = .ok (.aload_n 0, 1) := by decide +kernel
theorem dL_law_211 : decode cL_law 211 = .ok (.iload 4, 2) := by decide +kernel
theorem dL_law_213 : decode cL_law 213 = .ok (.iconst 3, 1) := by decide +kernel
theorem dL_law_214 : decode cL_law 214 = .ok (.iadd, 1) := by decide +kernel
theorem dL_law_215 : decode cL_law 215 = .ok (.iaload, 1) := by decide +kernel
theorem dL_law_216 : decode cL_law 216 = .ok (.invokevirtual 32, 3) := by decide +kernel
theorem dL_law_219 : decode cL_law 219 = .ok (.aload_n 2, 1) := by decide +kernel
theorem dL_law_220 : decode cL_law 220 = .ok (.aload_n 0, 1) := by decide +kernel
theorem dL_law_221 : decode cL_law 221 = .ok (.iload 4, 2) := by decide +kernel
theorem dL_law_223 : decode cL_law 223 = .ok (.iconst 1, 1) := by decide +kernel
theorem dL_law_224 : decode cL_law 224 = .ok (.iadd, 1) := by decide +kernel
theorem dL_law_225 : decode cL_law 225 = .ok (.iaload, 1) := by decide +kernel
theorem dL_law_226 : decode cL_law 226 = .ok (.aload_n 0, 1) := by decide +kernel
theorem dL_law_227 : decode cL_law 227 = .ok (.iload 4, 2) := by decide +kernel
theorem dL_law_229 : decode cL_law 229 = .ok (.iconst 2, 1) := by decide +kernel
theorem dL_law_230 : decode cL_law 230 = .ok (.iadd, 1) := by decide +kernel
theorem dL_law_231 : decode cL_law 231 = .ok (.iaload, 1) := by decide +kernel
theorem dL_law_232 : decode cL_law 232 = .ok (.aload_n 0, 1) := by decide +kernel
theorem dL_law_233 : decode cL_law 233 = .ok (.iload 4, 2) := by decide +kernel
theorem dL_law_235 : decode cL_law 235 = .ok (.iconst 3, 1) := by decide +kernel
theorem dL_law_236 : decode cL_law 236 = .ok (.iadd, 1) := by decide +kernel
theorem dL_law_237 : decode cL_law 237 = .ok (.iaload, 1) := by decide +kernel
theorem dL_law_238 : decode cL_law 238 = .ok (.invokevirtual 36, 3) := by decide +kernel
theorem dL_law_241 : decode cL_law 241 = .ok (.if_icmp .eq 904, 3) := by decide +kernel
theorem dL_law_244 : decode cL_law 244 = .ok (.iconst 0, 1) := by decide +kernel
theorem dL_law_245 : decode cL_law 245 = .ok (.ireturn, 1) := by decide +kernel
theorem dL_law_246 : decode cL_law 246 = .ok (.aload_n 1, 1) := by decide +kernel
theorem dL_law_247 : decode cL_law 247 = .ok (.aload_n 0, 1) := by decide +kernel
theorem dL_law_248 : decode cL_law 248 = .ok (.iload 4, 2) := by decide +kernel
theorem dL_law_250 : decode cL_law 250 = .ok (.iconst 1, 1) := by decide +kernel
theorem dL_law_251 : decode cL_law 251 = .ok (.iadd, 1) := by decide +kernel
theorem dL_law_252 : decode cL_law 252 = .ok (.iaload, 1) := by decide +kernel
theorem dL_law_253 : decode cL_law 253 = .ok (.aload_n 0, 1) := by decide +kernel
theorem dL_law_254 : decode cL_law 254 = .ok (.iload 4, 2) := by decide +kernel
theorem dL_law_256 : decode cL_law 256 = .ok (.iconst 2, 1) := by decide +kernel
theorem dL_law_257 : decode cL_law 257 = .ok (.iadd, 1) := by decide +kernel
theorem dL_law_258 : decode cL_law 258 = .ok (.iaload, 1) := by decide +kernel
theorem dL_law_259 : decode cL_law 259 = .ok (.aload_n 0, 1) := by decide +kernel
theorem dL_law_260 : decode cL_law 260 = .ok (.iload 4, 2) := by decide +kernel
theorem dL_law_262 : decode cL_law 262 = .ok (.iconst 3, 1) := by decide +kernel
theorem dL_law_263 : decode cL_law 263 = .ok (.iadd, 1) := by decide +kernel
theorem dL_law_264 : decode cL_law 264 = .ok (.iaload, 1) := by decide +kernel
theorem dL_law_265 : decode cL_law 265 = .ok (.invokevirtual 37, 3) := by decide +kernel
theorem dL_law_268 : decode cL_law 268 = .ok (.aload_n 2, 1) := by decide +kernel
theorem dL_law_269 : decode cL_law 269 = .ok (.aload_n 0, 1) := by decide +kernel
theorem dL_law_270 : decode cL_law 270 = .ok (.iload 4, 2) := by decide +kernel
theorem dL_law_272 : decode cL_law 272 = .ok (.iconst 1, 1) := by decide +kernel
theorem dL_law_273 : decode cL_law 273 = .ok (.iadd, 1) := by decide +kernel
theorem dL_law_274 : decode cL_law 274 = .ok (.iaload, 1) := by decide +kernel
theorem dL_law_275 : decode cL_law 275 = .ok (.aload_n 0, 1) := by decide +kernel
theorem dL_law_276 : decode cL_law 276 = .ok (.iload 4, 2) := by decide +kernel
theorem dL_law_278 : decode cL_law 278 = .ok (.iconst 2, 1) := by decide +kernel
theorem dL_law_279 : decode cL_law 279 = .ok (.iadd, 1) := by decide +kernel
theorem dL_law_280 : decode cL_law 280 = .ok (.iaload, 1) := by decide +kernel
theorem dL_law_281 : decode cL_law 281 = .ok (.aload_n 0, 1) := by decide +kernel
theorem dL_law_282 : decode cL_law 282 = .ok (.iload 4, 2) := by decide +kernel
theorem dL_law_284 : decode cL_law 284 = .ok (.iconst 3, 1) := by decide +kernel
theorem dL_law_285 : decode cL_law 285 = .ok (.iadd, 1) := by decide +kernel
theorem dL_law_286 : decode cL_law 286 = .ok (.iaload, 1) := by decide +kernel
theorem dL_law_287 : decode cL_law 287 = .ok (.invokevirtual 40, 3) := by decide +kernel
theorem dL_law_290 : decode cL_law 290 = .ok (.if_icmp .eq 855, 3) := by decide +kernel
theorem dL_law_293 : decode cL_law 293 = .ok (.iconst 0, 1) := by decide +kernel
theorem dL_law_294 : decode cL_law 294 = .ok (.ireturn, 1) := by decide +kernel
theorem dL_law_295 : decode cL_law 295 = .ok (.aload_n 1, 1) := by decide +kernel
theorem dL_law_296 : decode cL_law 296 = .ok (.invokevirtual 41, 3) := by decide +kernel
theorem dL_law_299 : decode cL_law 299 = .ok (.aload_n 2, 1) := by decide +kernel
theorem dL_law_300 : decode cL_law 300 = .ok (.invokevirtual 45, 3) := by decide +kernel
theorem dL_law_303 : decode cL_law 303 = .ok (.if_icmp .eq 842, 3) := by decide +kernel
theorem dL_law_306 : decode cL_law 306 = .ok (.iconst 0, 1) := by decide +kernel
theorem dL_law_307 : decode cL_law 307 = .ok (.ireturn, 1) := by decide +kernel
theorem dL_law_308 : decode cL_law 308 = .ok (.aload_n 1, 1) := by decide +kernel
theorem dL_law_309 : decode cL_law 309 = .ok (.aload_n 0, 1) := by decide +kernel
theorem dL_law_310 : decode cL_law 310 = .ok (.iload 4, 2) := by decide +kernel
theorem dL_law_312 : decode cL_law 312 = .ok (.iconst 1, 1) := by decide +kernel
theorem dL_law_313 : decode cL_law 313 = .ok (.iadd, 1) := by decide +kernel
theorem dL_law_314 : decode cL_law 314 = .ok (.iaload, 1) := by decide +kernel
theorem dL_law_315 : decode cL_law 315 = .ok (.invokevirtual 46, 3) := by decide +kernel
theorem dL_law_318 : decode cL_law 318 = .ok (.aload_n 2, 1) := by decide +kernel
theorem dL_law_319 : decode cL_law 319 = .ok (.aload_n 0, 1) := by decide +kernel
theorem dL_law_320 : decode cL_law 320 = .ok (.iload 4, 2) := by decide +kernel
theorem dL_law_322 : decode cL_law 322 = .ok (.iconst 1, 1) := by decide +kernel
theorem dL_law_323 : decode cL_law 323 = .ok (.iadd, 1) := by decide +kernel
theorem dL_law_324 : decode cL_law 324 = .ok (.iaload, 1) := by decide +kernel
theorem dL_law_325 : decode cL_law 325 = .ok (.invokevirtual 49, 3) := by decide +kernel
theorem dL_law_328 : decode cL_law 328 = .ok (.if_icmp .eq 817, 3) := by decide +kernel
theorem dL_law_331 : decode cL_law 331 = .ok (.iconst 0, 1) := by decide +kernel
theorem dL_law_332 : decode cL_law 332 = .ok (.ireturn, 1) := by decide +kernel
theorem dL_law_333 : decode cL_law 333 = .ok (.aload_n 1, 1) := by decide +kernel
theorem dL_law_334 : decode cL_law 334 = .ok (.aload_n 0, 1) := by decide +kernel
theorem dL_law_335 : decode cL_law 335 = .ok (.iload 4, 2) := by decide +kernel
theorem dL_law_337 : decode cL_law 337 = .ok (.iconst 1, 1) := by decide +kernel
theorem dL_law_338 : decode cL_law 338 = .ok (.iadd, 1) := by decide +kernel
theorem dL_law_339 : decode cL_law 339 = .ok (.iaload, 1) := by decide +kernel
theorem dL_law_340 : decode cL_law 340 = .ok (.invokevirtual 50, 3) := by decide +kernel
theorem dL_law_343 : decode cL_law 343 = .ok (.aload_n 2, 1) := by decide +kernel
theorem dL_law_344 : decode cL_law 344 = .ok (.aload_n 0, 1) := by decide +kernel
theorem dL_law_345 : decode cL_law 345 = .ok (.iload 4, 2) := by decide +kernel
theorem dL_law_347 : decode cL_law 347 = .ok (.iconst 1, 1) := by decide +kernel
theorem dL_law_348 : decode cL_law 348 = .ok (.iadd, 1) := by decide +kernel
theorem dL_law_349 : decode cL_law 349 = .ok (.iaload, 1) := by decide +kernel
theorem dL_law_350 : decode cL_law 350 = .ok (.invokevirtual 53, 3) := by decide +kernel
theorem dL_law_353 : decode cL_law 353 = .ok (.if_icmp .eq 792, 3) := by decide +kernel
theorem dL_law_356 : decode cL_law 356 = .ok (.iconst 0, 1) := by decide +kernel
theorem dL_law_357 : decode cL_law 357 = .ok (.ireturn, 1) := by decide +kernel
theorem dL_law_358 : decode cL_law 358 = .ok (.aload_n 1, 1) := by decide +kernel
theorem dL_law_359 : decode cL_law 359 = .ok (.aload_n 0, 1) := by decide +kernel
theorem dL_law_360 : decode cL_law 360 = .ok (.iload 4, 2) := by decide +kernel
theorem dL_law_362 : decode cL_law 362 = .ok (.iconst 1, 1) := by decide +kernel
theorem dL_law_363 : decode cL_law 363 = .ok (.iadd, 1) := by decide +kernel
theorem dL_law_364 : decode cL_law 364 = .ok (.iaload, 1) := by decide +kernel
theorem dL_law_365 : decode cL_law 365 = .ok (.invokevirtual 54, 3) := by decide +kernel
theorem dL_law_368 : decode cL_law 368 = .ok (.aload_n 2, 1) := by decide +kernel
theorem dL_law_369 : decode cL_law 369 = .ok (.aload_n 0, 1) := by decide +kernel
theorem dL_law_370 : decode cL_law 370 = .ok (.iload 4, 2) := by decide +kernel
theorem dL_law_372 : decode cL_law 372 = .ok (.iconst 1, 1) := by decide +kernel
theorem dL_law_373 : decode cL_law 373 = .ok (.iadd, 1) := by decide +kernel
theorem dL_law_374 : decode cL_law 374 = .ok (.iaload, 1) := by decide +kernel
theorem dL_law_375 : decode cL_law 375 = .ok (.invokevirtual 57, 3) := by decide +kernel
theorem dL_law_378 : decode cL_law 378 = .ok (.if_icmp .eq 767, 3) := by decide +kernel
theorem dL_law_381 : decode cL_law 381 = .ok (.iconst 0, 1) := by decide +kernel
theorem dL_law_382 : decode cL_law 382 = .ok (.ireturn, 1) := by decide +kernel
theorem dL_law_383 : decode cL_law 383 = .ok (.aload_n 1, 1) := by decide +kernel
theorem dL_law_384 : decode cL_law 384 = .ok (.aload_n 0, 1) := by decide +kernel
theorem dL_law_385 : decode cL_law 385 = .ok (.iload 4, 2) := by decide +kernel
theorem dL_law_387 : decode cL_law 387 = .ok (.iconst 1, 1) := by decide +kernel
theorem dL_law_388 : decode cL_law 388 = .ok (.iadd, 1) := by decide +kernel
theorem dL_law_389 : decode cL_law 389 = .ok (.iaload, 1) := by decide +kernel
theorem dL_law_390 : decode cL_law 390 = .ok (.aload_n 0, 1) := by decide +kernel
theorem dL_law_391 : decode cL_law 391 = .ok (.iload 4, 2) := by decide +kernel
theorem dL_law_393 : decode cL_law 393 = .ok (.iconst 2, 1) := by decide +kernel
theorem dL_law_394 : decode cL_law 394 = .ok (.iadd, 1) := by decide +kernel
theorem dL_law_395 : decode cL_law 395 = .ok (.iaload, 1) := by decide +kernel
theorem dL_law_396 : decode cL_law 396 = .ok (.aload_n 0, 1) := by decide +kernel
theorem dL_law_397 : decode cL_law 397 = .ok (.iload 4, 2) := by decide +kernel
theorem dL_law_399 : decode cL_law 399 = .ok (.iconst 3, 1) := by decide +kernel
theorem dL_law_400 : decode cL_law 400 = .ok (.iadd, 1) := by decide +kernel
theorem dL_law_401 : decode cL_law 401 = .ok (.iaload, 1) := by decide +kernel
theorem dL_law_402 : decode cL_law 402 = .ok (.invokevirtual 58, 3) := by decide +kernel
theorem dL_law_405 : decode cL_law 405 = .ok (.aload_n 2, 1) := by decide +kernel
theorem dL_law_406 : decode cL_law 406 = .ok (.aload_n 0, 1) := by decide +kernel
theorem dL_law_407 : decode cL_law 407 = .ok (.iload 4, 2) := by decide +kernel
theorem dL_law_409 : decode cL_law 409 = .ok (.iconst 1, 1) := by decide +kernel
theorem dL_law_410 : decode cL_law 410 = .ok (.iadd, 1) := by decide +kernel
theorem dL_law_411 : decode cL_law 411 = .ok (.iaload, 1) := by decide +kernel
theorem dL_law_412 : decode cL_law 412 = .ok (.aload_n 0, 1) := by decide +kernel
theorem dL_law_413 : decode cL_law 413 = .ok (.iload 4, 2) := by decide +kernel
theorem dL_law_415 : decode cL_law 415 = .ok (.iconst 2, 1) := by decide +kernel
theorem dL_law_416 : decode cL_law 416 = .ok (.iadd, 1) := by decide +kernel
theorem dL_law_417 : decode cL_law 417 = .ok (.iaload, 1) := by decide +kernel
theorem dL_law_418 : decode cL_law 418 = .ok (.aload_n 0, 1) := by decide +kernel
theorem dL_law_419 : decode cL_law 419 = .ok (.iload 4, 2) := by decide +kernel
theorem dL_law_421 : decode cL_law 421 = .ok (.iconst 3, 1) := by decide +kernel
theorem dL_law_422 : decode cL_law 422 = .ok (.iadd, 1) := by decide +kernel
theorem dL_law_423 : decode cL_law 423 = .ok (.iaload, 1) := by decide +kernel
theorem dL_law_424 : decode cL_law 424 = .ok (.invokevirtual 62, 3) := by decide +kernel
theorem dL_law_427 : decode cL_law 427 = .ok (.if_icmp .eq 718, 3) := by decide +kernel
theorem dL_law_430 : decode cL_law 430 = .ok (.iconst 0, 1) := by decide +kernel
theorem dL_law_431 : decode cL_law 431 = .ok (.ireturn, 1) := by decide +kernel
theorem dL_law_432 : decode cL_law 432 = .ok (.aload_n 1, 1) := by decide +kernel
theorem dL_law_433 : decode cL_law 433 = .ok (.aload_n 0, 1) := by decide +kernel
theorem dL_law_434 : decode cL_law 434 = .ok (.iload 4, 2) := by decide +kernel
theorem dL_law_436 : decode cL_law 436 = .ok (.iconst 1, 1) := by decide +kernel
theorem dL_law_437 : decode cL_law 437 = .ok (.iadd, 1) := by decide +kernel
theorem dL_law_438 : decode cL_law 438 = .ok (.iaload, 1) := by decide +kernel
theorem dL_law_439 : decode cL_law 439 = .ok (.invokevirtual 63, 3) := by decide +kernel
theorem dL_law_442 : decode cL_law 442 = .ok (.aload_n 2, 1) := by decide +kernel
theorem dL_law_443 : decode cL_law 443 = .ok (.aload_n 0, 1) := by decide +kernel
theorem dL_law_444 : decode cL_law 444 = .ok (.iload 4, 2) := by decide +kernel
theorem dL_law_446 : decode cL_law 446 = .ok (.iconst 1, 1) := by decide +kernel
theorem dL_law_447 : decode cL_law 447 = .ok (.iadd, 1) := by decide +kernel
theorem dL_law_448 : decode cL_law 448 = .ok (.iaload, 1) := by decide +kernel
theorem dL_law_449 : decode cL_law 449 = .ok (.invokevirtual 66, 3) := by decide +kernel
theorem dL_law_452 : decode cL_law 452 = .ok (.if_icmp .eq 693, 3) := by decide +kernel
theorem dL_law_455 : decode cL_law 455 = .ok (.iconst 0, 1) := by decide +kernel
theorem dL_law_456 : decode cL_law 456 = .ok (.ireturn, 1) := by decide +kernel
theorem dL_law_457 : decode cL_law 457 = .ok (.aload_n 1, 1) := by decide +kernel
theorem dL_law_458 : decode cL_law 458 = .ok (.aload_n 0, 1) := by decide +kernel
theorem dL_law_459 : decode cL_law 459 = .ok (.iload 4, 2) := by decide +kernel
theorem dL_law_461 : decode cL_law 461 = .ok (.iconst 1, 1) := by decide +kernel
theorem dL_law_462 : decode cL_law 462 = .ok (.iadd, 1) := by decide +kernel
theorem dL_law_463 : decode cL_law 463 = .ok (.iaload, 1) := by decide +kernel
theorem dL_law_464 : decode cL_law 464 = .ok (.invokevirtual 67, 3) := by decide +kernel
theorem dL_law_467 : decode cL_law 467 = .ok (.aload_n 2, 1) := by decide +kernel
theorem dL_law_468 : decode cL_law 468 = .ok (.aload_n 0, 1) := by decide +kernel
theorem dL_law_469 : decode cL_law 469 = .ok (.iload 4, 2) := by decide +kernel
theorem dL_law_471 : decode cL_law 471 = .ok (.iconst 1, 1) := by decide +kernel
theorem dL_law_472 : decode cL_law 472 = .ok (.iadd, 1) := by decide +kernel
theorem dL_law_473 : decode cL_law 473 = .ok (.iaload, 1) := by decide +kernel
theorem dL_law_474 : decode cL_law 474 = .ok (.invokevirtual 70, 3) := by decide +kernel
theorem dL_law_477 : decode cL_law 477 = .ok (.if_icmp .eq 668, 3) := by decide +kernel
theorem dL_law_480 : decode cL_law 480 = .ok (.iconst 0, 1) := by decide +kernel
theorem dL_law_481 : decode cL_law 481 = .ok (.ireturn, 1) := by decide +kernel
theorem dL_law_482 : decode cL_law 482 = .ok (.aload_n 1, 1) := by decide +kernel
theorem dL_law_483 : decode cL_law 483 = .ok (.aload_n 0, 1) := by decide +kernel
theorem dL_law_484 : decode cL_law 484 = .ok (.iload 4, 2) := by decide +kernel
theorem dL_law_486 : decode cL_law 486 = .ok (.iconst 1, 1) := by decide +kernel
theorem dL_law_487 : decode cL_law 487 = .ok (.iadd, 1) := by decide +kernel
theorem dL_law_488 : decode cL_law 488 = .ok (.iaload, 1) := by decide +kernel
theorem dL_law_489 : decode cL_law 489 = .ok (.invokevirtual 71, 3) := by decide +kernel
theorem dL_law_492 : decode cL_law 492 = .ok (.aload_n 2, 1) := by decide +kernel
theorem dL_law_493 : decode cL_law 493 = .ok (.aload_n 0, 1) := by decide +kernel
theorem dL_law_494 : decode cL_law 494 = .ok (.iload 4, 2) := by decide +kernel
theorem dL_law_496 : decode cL_law 496 = .ok (.iconst 1, 1) := by decide +kernel
theorem dL_law_497 : decode cL_law 497 = .ok (.iadd, 1) := by decide +kernel
theorem dL_law_498 : decode cL_law 498 = .ok (.iaload, 1) := by decide +kernel
theorem dL_law_499 : decode cL_law 499 = .ok (.invokevirtual 74, 3) := by decide +kernel
theorem dL_law_502 : decode cL_law 502 = .ok (.if_icmp .eq 643, 3) := by decide +kernel
theorem dL_law_505 : decode cL_law 505 = .ok (.iconst 0, 1) := by decide +kernel
theorem dL_law_506 : decode cL_law 506 = .ok (.ireturn, 1) := by decide +kernel
theorem dL_law_507 : decode cL_law 507 = .ok (.aload_n 1, 1) := by decide +kernel
theorem dL_law_508 : decode cL_law 508 = .ok (.aload_n 0, 1) := by decide +kernel
theorem dL_law_509 : decode cL_law 509 = .ok (.iload 4, 2) := by decide +kernel
theorem dL_law_511 : decode cL_law 511 = .ok (.iconst 1, 1) := by decide +kernel
theorem dL_law_512 : decode cL_law 512 = .ok (.iadd, 1) := by decide +kernel
theorem dL_law_513 : decode cL_law 513 = .ok (.iaload, 1) := by decide +kernel
theorem dL_law_514 : decode cL_law 514 = .ok (.aload_n 0, 1) := by decide +kernel
theorem dL_law_515 : decode cL_law 515 = .ok (.iload 4, 2) := by decide +kernel
theorem dL_law_517 : decode cL_law 517 = .ok (.iconst 2, 1) := by decide +kernel
theorem dL_law_518 : decode cL_law 518 = .ok (.iadd, 1) := by decide +kernel
theorem dL_law_519 : decode cL_law 519 = .ok (.iaload, 1) := by decide +kernel
theorem dL_law_520 : decode cL_law 520 = .ok (.aload_n 0, 1) := by decide +kernel
theorem dL_law_521 : decode cL_law 521 = .ok (.iload 4, 2) := by decide +kernel
theorem dL_law_523 : decode cL_law 523 = .ok (.iconst 3, 1) := by decide +kernel
theorem dL_law_524 : decode cL_law 524 = .ok (.iadd, 1) := by decide +kernel
theorem dL_law_525 : decode cL_law 525 = .ok (.iaload, 1) := by decide +kernel
theorem dL_law_526 : decode cL_law 526 = .ok (.invokevirtual 75, 3) := by decide +kernel
theorem dL_law_529 : decode cL_law 529 = .ok (.aload_n 2, 1) := by decide +kernel
theorem dL_law_530 : decode cL_law 530 = .ok (.aload_n 0, 1) := by decide +kernel
theorem dL_law_531 : decode cL_law 531 = .ok (.iload 4, 2) := by decide +kernel
theorem dL_law_533 : decode cL_law 533 = .ok (.iconst 1, 1) := by decide +kernel
theorem dL_law_534 : decode cL_law 534 = .ok (.iadd, 1) := by decide +kernel
theorem dL_law_535 : decode cL_law 535 = .ok (.iaload, 1) := by decide +kernel
theorem dL_law_536 : decode cL_law 536 = .ok (.aload_n 0, 1) := by decide +kernel
theorem dL_law_537 : decode cL_law 537 = .ok (.iload 4, 2) := by decide +kernel
theorem dL_law_539 : decode cL_law 539 = .ok (.iconst 2, 1) := by decide +kernel
theorem dL_law_540 : decode cL_law 540 = .ok (.iadd, 1) := by decide +kernel
theorem dL_law_541 : decode cL_law 541 = .ok (.iaload, 1) := by decide +kernel
theorem dL_law_542 : decode cL_law 542 = .ok (.aload_n 0, 1) := by decide +kernel
theorem dL_law_543 : decode cL_law 543 = .ok (.iload 4, 2) := by decide +kernel
theorem dL_law_545 : decode cL_law 545 = .ok (.iconst 3, 1) := by decide +kernel
theorem dL_law_546 : decode cL_law 546 = .ok (.iadd, 1) := by decide +kernel
theorem dL_law_547 : decode cL_law 547 = .ok (.iaload, 1) := by decide +kernel
theorem dL_law_548 : decode cL_law 548 = .ok (.invokevirtual 78, 3) := by decide +kernel
theorem dL_law_551 : decode cL_law 551 = .ok (.if_icmp .eq 594, 3) := by decide +kernel
theorem dL_law_554 : decode cL_law 554 = .ok (.iconst 0, 1) := by decide +kernel
theorem dL_law_555 : decode cL_law 555 = .ok (.ireturn, 1) := by decide +kernel
theorem dL_law_556 : decode cL_law 556 = .ok (.aload_n 1, 1) := by decide +kernel
theorem dL_law_557 : decode cL_law 557 = .ok (.aload_n 0, 1) := by decide +kernel
theorem dL_law_558 : decode cL_law 558 = .ok (.iload 4, 2) := by decide +kernel
theorem dL_law_560 : decode cL_law 560 = .ok (.iconst 1, 1) := by decide +kernel
theorem dL_law_561 : decode cL_law 561 = .ok (.iadd, 1) := by decide +kernel
theorem dL_law_562 : decode cL_law 562 = .ok (.iaload, 1) := by decide +kernel
theorem dL_law_563 : decode cL_law 563 = .ok (.invokevirtual 79, 3) := by decide +kernel
theorem dL_law_566 : decode cL_law 566 = .ok (.aload_n 2, 1) := by decide +kernel
theorem dL_law_567 : decode cL_law 567 = .ok (.aload_n 0, 1) := by decide +kernel
theorem dL_law_568 : decode cL_law 568 = .ok (.iload 4, 2) := by decide +kernel
theorem dL_law_570 : decode cL_law 570 = .ok (.iconst 1, 1) := by decide +kernel
theorem dL_law_571 : decode cL_law 571 = .ok (.iadd, 1) := by decide +kernel
theorem dL_law_572 : decode cL_law 572 = .ok (.iaload, 1) := by decide +kernel
theorem dL_law_573 : decode cL_law 573 = .ok (.invokevirtual 83, 3) := by decide +kernel
theorem dL_law_576 : decode cL_law 576 = .ok (.if_icmp .eq 569, 3) := by decide +kernel
theorem dL_law_579 : decode cL_law 579 = .ok (.iconst 0, 1) := by decide +kernel
theorem dL_law_580 : decode cL_law 580 = .ok (.ireturn, 1) := by decide +kernel
theorem dL_law_581 : decode cL_law 581 = .ok (.aload_n 1, 1) := by decide +kernel
theorem dL_law_582 : decode cL_law 582 = .ok (.invokevirtual 84, 3) := by decide +kernel
theorem dL_law_585 : decode cL_law 585 = .ok (.aload_n 2, 1) := by decide +kernel
theorem dL_law_586 : decode cL_law 586 = .ok (.invokevirtual 88, 3) := by decide +kernel
theorem dL_law_589 : decode cL_law 589 = .ok (.if_icmp .eq 556, 3) := by decide +kernel
theorem dL_law_592 : decode cL_law 592 = .ok (.iconst 0, 1) := by decide +kernel
theorem dL_law_593 : decode cL_law 593 = .ok (.ireturn, 1) := by decide +kernel
theorem dL_law_594 : decode cL_law 594 = .ok (.aload_n 1, 1) := by decide +kernel
theorem dL_law_595 : decode cL_law 595 = .ok (.aload_n 0, 1) := by decide +kernel
theorem dL_law_596 : decode cL_law 596 = .ok (.iload 4, 2) := by decide +kernel
theorem dL_law_598 : decode cL_law 598 = .ok (.iconst 1, 1) := by decide +kernel
theorem dL_law_599 : decode cL_law 599 = .ok (.iadd, 1) := by decide +kernel
theorem dL_law_600 : decode cL_law 600 = .ok (.iaload, 1) := by decide +kernel
theorem dL_law_601 : decode cL_law 601 = .ok (.aload_n 0, 1) := by decide +kernel
theorem dL_law_602 : decode cL_law 602 = .ok (.iload 4, 2) := by decide +kernel
theorem dL_law_604 : decode cL_law 604 = .ok (.iconst 2, 1) := by decide +kernel
theorem dL_law_605 : decode cL_law 605 = .ok (.iadd, 1) := by decide +kernel
theorem dL_law_606 : decode cL_law 606 = .ok (.iaload, 1) := by decide +kernel
theorem dL_law_607 : decode cL_law 607 = .ok (.invokevirtual 89, 3) := by decide +kernel
theorem dL_law_610 : decode cL_law 610 = .ok (.aload_n 2, 1) := by decide +kernel
theorem dL_law_611 : decode cL_law 611 = .ok (.aload_n 0, 1) := by decide +kernel
theorem dL_law_612 : decode cL_law 612 = .ok (.iload 4, 2) := by decide +kernel
theorem dL_law_614 : decode cL_law 614 = .ok (.iconst 1, 1) := by decide +kernel
theorem dL_law_615 : decode cL_law 615 = .ok (.iadd, 1) := by decide +kernel
theorem dL_law_616 : decode cL_law 616 = .ok (.iaload, 1) := by decide +kernel
theorem dL_law_617 : decode cL_law 617 = .ok (.aload_n 0, 1) := by decide +kernel
theorem dL_law_618 : decode cL_law 618 = .ok (.iload 4, 2) := by decide +kernel
theorem dL_law_620 : decode cL_law 620 = .ok (.iconst 2, 1) := by decide +kernel
theorem dL_law_621 : decode cL_law 621 = .ok (.iadd, 1) := by decide +kernel
theorem dL_law_622 : decode cL_law 622 = .ok (.iaload, 1) := by decide +kernel
theorem dL_law_623 : decode cL_law 623 = .ok (.invokevirtual 92, 3) := by decide +kernel
theorem dL_law_626 : decode cL_law 626 = .ok (.if_icmp .eq 519, 3) := by decide +kernel
theorem dL_law_629 : decode cL_law 629 = .ok (.iconst 0, 1) := by decide +kernel
theorem dL_law_630 : decode cL_law 630 = .ok (.ireturn, 1) := by decide +kernel
theorem dL_law_631 : decode cL_law 631 = .ok (.aload_n 1, 1) := by decide +kernel
theorem dL_law_632 : decode cL_law 632 = .ok (.aload_n 0, 1) := by decide +kernel
theorem dL_law_633 : decode cL_law 633 = .ok (.iload 4, 2) := by decide +kernel
theorem dL_law_635 : decode cL_law 635 = .ok (.iconst 1, 1) := by decide +kernel
theorem dL_law_636 : decode cL_law 636 = .ok (.iadd, 1) := by decide +kernel
theorem dL_law_637 : decode cL_law 637 = .ok (.iaload, 1) := by decide +kernel
theorem dL_law_638 : decode cL_law 638 = .ok (.invokevirtual 93, 3) := by decide +kernel
theorem dL_law_641 : decode cL_law 641 = .ok (.aload_n 2, 1) := by decide +kernel
theorem dL_law_642 : decode cL_law 642 = .ok (.aload_n 0, 1) := by decide +kernel
theorem dL_law_643 : decode cL_law 643 = .ok (.iload 4, 2) := by decide +kernel
theorem dL_law_645 : decode cL_law 645 = .ok (.iconst 1, 1) := by decide +kernel
theorem dL_law_646 : decode cL_law 646 = .ok (.iadd, 1) := by decide +kernel
theorem dL_law_647 : decode cL_law 647 = .ok (.iaload, 1) := by decide +kernel
theorem dL_law_648 : decode cL_law 648 = .ok (.invokevirtual 96, 3) := by decide +kernel
theorem dL_law_651 : decode cL_law 651 = .ok (.if_icmp .eq 494, 3) := by decide +kernel
theorem dL_law_654 : decode cL_law 654 = .ok (.iconst 0, 1) := by decide +kernel
theorem dL_law_655 : decode cL_law 655 = .ok (.ireturn, 1) := by decide +kernel
theorem dL_law_656 : decode cL_law 656 = .ok (.aload_n 1, 1) := by decide +kernel
theorem dL_law_657 : decode cL_law 657 = .ok (.aload_n 0, 1) := by decide +kernel
theorem dL_law_658 : decode cL_law 658 = .ok (.iload 4, 2) := by decide +kernel
theorem dL_law_660 : decode cL_law 660 = .ok (.iconst 1, 1) := by decide +kernel
theorem dL_law_661 : decode cL_law 661 = .ok (.iadd, 1) := by decide +kernel
theorem dL_law_662 : decode cL_law 662 = .ok (.iaload, 1) := by decide +kernel
theorem dL_law_663 : decode cL_law 663 = .ok (.aload_n 0, 1) := by decide +kernel
theorem dL_law_664 : decode cL_law 664 = .ok (.iload 4, 2) := by decide +kernel
theorem dL_law_666 : decode cL_law 666 = .ok (.iconst 2, 1) := by decide +kernel
theorem dL_law_667 : decode cL_law 667 = .ok (.iadd, 1) := by decide +kernel
theorem dL_law_668 : decode cL_law 668 = .ok (.iaload, 1) := by decide +kernel
theorem dL_law_669 : decode cL_law 669 = .ok (.aload_n 3, 1) := by decide +kernel
theorem dL_law_670 : decode cL_law 670 = .ok (.invokestatic 97, 3) := by decide +kernel
theorem dL_law_673 : decode cL_law 673 = .ok (.istore 5, 2) := by decide +kernel
theorem dL_law_675 : decode cL_law 675 = .ok (.aload_n 2, 1) := by decide +kernel
theorem dL_law_676 : decode cL_law 676 = .ok (.aload_n 0, 1) := by decide +kernel
theorem dL_law_677 : decode cL_law 677 = .ok (.iload 4, 2) := by decide +kernel
theorem dL_law_679 : decode cL_law 679 = .ok (.iconst 1, 1) := by decide +kernel
theorem dL_law_680 : decode cL_law 680 = .ok (.iadd, 1) := by decide +kernel
theorem dL_law_681 : decode cL_law 681 = .ok (.iaload, 1) := by decide +kernel
theorem dL_law_682 : decode cL_law 682 = .ok (.aload_n 0, 1) := by decide +kernel
theorem dL_law_683 : decode cL_law 683 = .ok (.iload 4, 2) := by decide +kernel
theorem dL_law_685 : decode cL_law 685 = .ok (.iconst 2, 1) := by decide +kernel
theorem dL_law_686 : decode cL_law 686 = .ok (.iadd, 1) := by decide +kernel
theorem dL_law_687 : decode cL_law 687 = .ok (.iaload, 1) := by decide +kernel
theorem dL_law_688 : decode cL_law 688 = .ok (.invokevirtual 102, 3) := by decide +kernel
theorem dL_law_691 : decode cL_law 691 = .ok (.istore 6, 2) := by decide +kernel
theorem dL_law_693 : decode cL_law 693 = .ok (.aload_n 2, 1) := by decide +kernel
theorem dL_law_694 : decode cL_law 694 = .ok (.invokevirtual 103, 3) := by decide +kernel
theorem dL_law_697 : decode cL_law 697 = .ok (.iload 5, 2) := by decide +kernel
theorem dL_law_699 : decode cL_law 699 = .ok (.if_icmp .eq 5, 3) := by decide +kernel
theorem dL_law_702 : decode cL_law 702 = .ok (.iconst 0, 1) := by decide +kernel
theorem dL_law_703 : decode cL_law 703 = .ok (.ireturn, 1) := by decide +kernel
theorem dL_law_704 : decode cL_law 704 = .ok (.iload 5, 2) := by decide +kernel
theorem dL_law_706 : decode cL_law 706 = .ok (.ifCond .ne 15, 3) := by decide +kernel
theorem dL_law_709 : decode cL_law 709 = .ok (.aload_n 3, 1) := by decide +kernel
theorem dL_law_710 : decode cL_law 710 = .ok (.iconst 0, 1) := by decide +kernel
theorem dL_law_711 : decode cL_law 711 = .ok (.laload, 1) := by decide +kernel
theorem dL_law_712 : decode cL_law 712 = .ok (.iload 6, 2) := by decide +kernel
theorem dL_law_714 : decode cL_law 714 = .ok (.i2l, 1) := by decide +kernel
theorem dL_law_715 : decode cL_law 715 = .ok (.lcmp, 1) := by decide +kernel
theorem dL_law_716 : decode cL_law 716 = .ok (.ifCond .eq 5, 3) := by decide +kernel
theorem dL_law_719 : decode cL_law 719 = .ok (.iconst 0, 1) := by decide +kernel
theorem dL_law_720 : decode cL_law 720 = .ok (.ireturn, 1) := by decide +kernel
theorem dL_law_721 : decode cL_law 721 = .ok (.goto 424, 3) := by decide +kernel
theorem dL_law_724 : decode cL_law 724 = .ok (.aload_n 1, 1) := by decide +kernel
theorem dL_law_725 : decode cL_law 725 = .ok (.aload_n 0, 1) := by decide +kernel
theorem dL_law_726 : decode cL_law 726 = .ok (.iload 4, 2) := by decide +kernel
theorem dL_law_728 : decode cL_law 728 = .ok (.iconst 1, 1) := by decide +kernel
theorem dL_law_729 : decode cL_law 729 = .ok (.iadd, 1) := by decide +kernel
theorem dL_law_730 : decode cL_law 730 = .ok (.iaload, 1) := by decide +kernel
theorem dL_law_731 : decode cL_law 731 = .ok (.aload_n 0, 1) := by decide +kernel
theorem dL_law_732 : decode cL_law 732 = .ok (.iload 4, 2) := by decide +kernel
theorem dL_law_734 : decode cL_law 734 = .ok (.iconst 2, 1) := by decide +kernel
theorem dL_law_735 : decode cL_law 735 = .ok (.iadd, 1) := by decide +kernel
theorem dL_law_736 : decode cL_law 736 = .ok (.iaload, 1) := by decide +kernel
theorem dL_law_737 : decode cL_law 737 = .ok (.invokevirtual 106, 3) := by decide +kernel
theorem dL_law_740 : decode cL_law 740 = .ok (.aload_n 2, 1) := by decide +kernel
theorem dL_law_741 : decode cL_law 741 = .ok (.aload_n 0, 1) := by decide +kernel
theorem dL_law_742 : decode cL_law 742 = .ok (.iload 4, 2) := by decide +kernel
theorem dL_law_744 : decode cL_law 744 = .ok (.iconst 1, 1) := by decide +kernel
theorem dL_law_745 : decode cL_law 745 = .ok (.iadd, 1) := by decide +kernel
theorem dL_law_746 : decode cL_law 746 = .ok (.iaload, 1) := by decide +kernel
theorem dL_law_747 : decode cL_law 747 = .ok (.aload_n 0, 1) := by decide +kernel
theorem dL_law_748 : decode cL_law 748 = .ok (.iload 4, 2) := by decide +kernel
theorem dL_law_750 : decode cL_law 750 = .ok (.iconst 2, 1) := by decide +kernel
theorem dL_law_751 : decode cL_law 751 = .ok (.iadd, 1) := by decide +kernel
theorem dL_law_752 : decode cL_law 752 = .ok (.iaload, 1) := by decide +kernel
theorem dL_law_753 : decode cL_law 753 = .ok (.invokevirtual 109, 3) := by decide +kernel
theorem dL_law_756 : decode cL_law 756 = .ok (.if_icmp .eq 389, 3) := by decide +kernel
theorem dL_law_759 : decode cL_law 759 = .ok (.iconst 0, 1) := by decide +kernel
theorem dL_law_760 : decode cL_law 760 = .ok (.ireturn, 1) := by decide +kernel
theorem dL_law_761 : decode cL_law 761 = .ok (.aload_n 1, 1) := by decide +kernel
theorem dL_law_762 : decode cL_law 762 = .ok (.aload_n 0, 1) := by decide +kernel
theorem dL_law_763 : decode cL_law 763 = .ok (.iload 4, 2) := by decide +kernel
theorem dL_law_765 : decode cL_law 765 = .ok (.iconst 1, 1) := by decide +kernel
theorem dL_law_766 : decode cL_law 766 = .ok (.iadd, 1) := by decide +kernel
theorem dL_law_767 : decode cL_law 767 = .ok (.iaload, 1) := by decide +kernel
theorem dL_law_768 : decode cL_law 768 = .ok (.invokevirtual 110, 3) := by decide +kernel
theorem dL_law_771 : decode cL_law 771 = .ok (.aload_n 2, 1) := by decide +kernel
theorem dL_law_772 : decode cL_law 772 = .ok (.aload_n 0, 1) := by decide +kernel
theorem dL_law_773 : decode cL_law 773 = .ok (.iload 4, 2) := by decide +kernel
theorem dL_law_775 : decode cL_law 775 = .ok (.iconst 1, 1) := by decide +kernel
theorem dL_law_776 : decode cL_law 776 = .ok (.iadd, 1) := by decide +kernel
theorem dL_law_777 : decode cL_law 777 = .ok (.iaload, 1) := by decide +kernel
theorem dL_law_778 : decode cL_law 778 = .ok (.invokevirtual 113, 3) := by decide +kernel
theorem dL_law_781 : decode cL_law 781 = .ok (.if_icmp .eq 364, 3) := by decide +kernel
theorem dL_law_784 : decode cL_law 784 = .ok (.iconst 0, 1) := by decide +kernel
theorem dL_law_785 : decode cL_law 785 = .ok (.ireturn, 1) := by decide +kernel
theorem dL_law_786 : decode cL_law 786 = .ok (.aload_n 1, 1) := by decide +kernel
theorem dL_law_787 : decode cL_law 787 = .ok (.aload_n 0, 1) := by decide +kernel
theorem dL_law_788 : decode cL_law 788 = .ok (.iload 4, 2) := by decide +kernel
theorem dL_law_790 : decode cL_law 790 = .ok (.iconst 1, 1) := by decide +kernel
theorem dL_law_791 : decode cL_law 791 = .ok (.iadd, 1) := by decide +kernel
theorem dL_law_792 : decode cL_law 792 = .ok (.iaload, 1) := by decide +kernel
theorem dL_law_793 : decode cL_law 793 = .ok (.aload_n 0, 1) := by decide +kernel
theorem dL_law_794 : decode cL_law 794 = .ok (.iload 4, 2) := by decide +kernel
theorem dL_law_796 : decode cL_law 796 = .ok (.iconst 2, 1) := by decide +kernel
theorem dL_law_797 : decode cL_law 797 = .ok (.iadd, 1) := by decide +kernel
theorem dL_law_798 : decode cL_law 798 = .ok (.iaload, 1) := by decide +kernel
theorem dL_law_799 : decode cL_law 799 = .ok (.aload_n 3, 1) := by decide +kernel
theorem dL_law_800 : decode cL_law 800 = .ok (.invokestatic 114, 3) := by decide +kernel
theorem dL_law_803 : decode cL_law 803 = .ok (.istore 5, 2) := by decide +kernel
theorem dL_law_805 : decode cL_law 805 = .ok (.aload_n 2, 1) := by decide +kernel
theorem dL_law_806 : decode cL_law 806 = .ok (.aload_n 0, 1) := by decide +kernel
theorem dL_law_807 : decode cL_law 807 = .ok (.iload 4, 2) := by decide +kernel
theorem dL_law_809 : decode cL_law 809 = .ok (.iconst 1, 1) := by decide +kernel
theorem dL_law_810 : decode cL_law 810 = .ok (.iadd, 1) := by decide +kernel
theorem dL_law_811 : decode cL_law 811 = .ok (.iaload, 1) := by decide +kernel
theorem dL_law_812 : decode cL_law 812 = .ok (.aload_n 0, 1) := by decide +kernel
theorem dL_law_813 : decode cL_law 813 = .ok (.iload 4, 2) := by decide +kernel
theorem dL_law_815 : decode cL_law 815 = .ok (.iconst 2, 1) := by decide +kernel
theorem dL_law_816 : decode cL_law 816 = .ok (.iadd, 1) := by decide +kernel
theorem dL_law_817 : decode cL_law 817 = .ok (.iaload, 1) := by decide +kernel
theorem dL_law_818 : decode cL_law 818 = .ok (.invokevirtual 116, 3) := by decide +kernel
theorem dL_law_821 : decode cL_law 821 = .ok (.lstore 6, 2) := by decide +kernel
theorem dL_law_823 : decode cL_law 823 = .ok (.aload_n 2, 1) := by decide +kernel
theorem dL_law_824 : decode cL_law 824 = .ok (.invokevirtual 103, 3) := by decide +kernel
theorem dL_law_827 : decode cL_law 827 = .ok (.iload 5, 2) := by decide +kernel
theorem dL_law_829 : decode cL_law 829 = .ok (.if_icmp .eq 5, 3) := by decide +kernel
theorem dL_law_832 : decode cL_law 832 = .ok (.iconst 0, 1) := by decide +kernel
theorem dL_law_833 : decode cL_law 833 = .ok (.ireturn, 1) := by decide +kernel
theorem dL_law_834 : decode cL_law 834 = .ok (.iload 5, 2) := by decide +kernel
theorem dL_law_836 : decode cL_law 836 = .ok (.ifCond .ne 14, 3) := by decide +kernel
theorem dL_law_839 : decode cL_law 839 = .ok (.aload_n 3, 1) := by decide +kernel
theorem dL_law_840 : decode cL_law 840 = .ok (.iconst 0, 1) := by decide +kernel
theorem dL_law_841 : decode cL_law 841 = .ok (.laload, 1) := by decide +kernel
theorem dL_law_842 : decode cL_law 842 = .ok (.lload 6, 2) := by decide +kernel
theorem dL_law_844 : decode cL_law 844 = .ok (.lcmp, 1) := by decide +kernel
theorem dL_law_845 : decode cL_law 845 = .ok (.ifCond .eq 5, 3) := by decide +kernel
theorem dL_law_848 : decode cL_law 848 = .ok (.iconst 0, 1) := by decide +kernel
theorem dL_law_849 : decode cL_law 849 = .ok (.ireturn, 1) := by decide +kernel
theorem dL_law_850 : decode cL_law 850 = .ok (.goto 295, 3) := by decide +kernel
theorem dL_law_853 : decode cL_law 853 = .ok (.aload_n 1, 1) := by decide +kernel
theorem dL_law_854 : decode cL_law 854 = .ok (.aload_n 0, 1) := by decide +kernel
theorem dL_law_855 : decode cL_law 855 = .ok (.iload 4, 2) := by decide +kernel
theorem dL_law_857 : decode cL_law 857 = .ok (.iconst 1, 1) := by decide +kernel
theorem dL_law_858 : decode cL_law 858 = .ok (.iadd, 1) := by decide +kernel
theorem dL_law_859 : decode cL_law 859 = .ok (.iaload, 1) := by decide +kernel
theorem dL_law_860 : decode cL_law 860 = .ok (.invokevirtual 117, 3) := by decide +kernel
theorem dL_law_863 : decode cL_law 863 = .ok (.aload_n 2, 1) := by decide +kernel
theorem dL_law_864 : decode cL_law 864 = .ok (.aload_n 0, 1) := by decide +kernel
theorem dL_law_865 : decode cL_law 865 = .ok (.iload 4, 2) := by decide +kernel
theorem dL_law_867 : decode cL_law 867 = .ok (.iconst 1, 1) := by decide +kernel
theorem dL_law_868 : decode cL_law 868 = .ok (.iadd, 1) := by decide +kernel
theorem dL_law_869 : decode cL_law 869 = .ok (.iaload, 1) := by decide +kernel
theorem dL_law_870 : decode cL_law 870 = .ok (.invokevirtual 120, 3) := by decide +kernel
theorem dL_law_873 : decode cL_law 873 = .ok (.if_icmp .eq 272, 3) := by decide +kernel
theorem dL_law_876 : decode cL_law 876 = .ok (.iconst 0, 1) := by decide +kernel
theorem dL_law_877 : decode cL_law 877 = .ok (.ireturn, 1) := by decide +kernel
theorem dL_law_878 : decode cL_law 878 = .ok (.aload_n 1, 1) := by decide +kernel
theorem dL_law_879 : decode cL_law 879 = .ok (.aload_n 0, 1) := by decide +kernel
theorem dL_law_880 : decode cL_law 880 = .ok (.iload 4, 2) := by decide +kernel
theorem dL_law_882 : decode cL_law 882 = .ok (.iconst 1, 1) := by decide +kernel
theorem dL_law_883 : decode cL_law 883 = .ok (.iadd, 1) := by decide +kernel
theorem dL_law_884 : decode cL_law 884 = .ok (.iaload, 1) := by decide +kernel
theorem dL_law_885 : decode cL_law 885 = .ok (.invokevirtual 121, 3) := by decide +kernel
theorem dL_law_888 : decode cL_law 888 = .ok (.aload_n 2, 1) := by decide +kernel
theorem dL_law_889 : decode cL_law 889 = .ok (.aload_n 0, 1) := by decide +kernel
theorem dL_law_890 : decode cL_law 890 = .ok (.iload 4, 2) := by decide +kernel
theorem dL_law_892 : decode cL_law 892 = .ok (.iconst 1, 1) := by decide +kernel
theorem dL_law_893 : decode cL_law 893 = .ok (.iadd, 1) := by decide +kernel
theorem dL_law_894 : decode cL_law 894 = .ok (.iaload, 1) := by decide +kernel
theorem dL_law_895 : decode cL_law 895 = .ok (.invokevirtual 124, 3) := by decide +kernel
theorem dL_law_898 : decode cL_law 898 = .ok (.if_icmp .eq 247, 3) := by decide +kernel
theorem dL_law_901 : decode cL_law 901 = .ok (.iconst 0, 1) := by decide +kernel
theorem dL_law_902 : decode cL_law 902 = .ok (.ireturn, 1) := by decide +kernel
theorem dL_law_903 : decode cL_law 903 = .ok (.aload_n 1, 1) := by decide +kernel
theorem dL_law_904 : decode cL_law 904 = .ok (.aload_n 0, 1) := by decide +kernel
theorem dL_law_905 : decode cL_law 905 = .ok (.iload 4, 2) := by decide +kernel
theorem dL_law_907 : decode cL_law 907 = .ok (.iconst 1, 1) := by decide +kernel
theorem dL_law_908 : decode cL_law 908 = .ok (.iadd, 1) := by decide +kernel
theorem dL_law_909 : decode cL_law 909 = .ok (.iaload, 1) := by decide +kernel
theorem dL_law_910 : decode cL_law 910 = .ok (.aload_n 3, 1) := by decide +kernel
theorem dL_law_911 : decode cL_law 911 = .ok (.invokestatic 125, 3) := by decide +kernel
theorem dL_law_914 : decode cL_law 914 = .ok (.istore 5, 2) := by decide +kernel
theorem dL_law_916 : decode cL_law 916 = .ok (.aload_n 2, 1) := by decide +kernel
theorem dL_law_917 : decode cL_law 917 = .ok (.aload_n 0, 1) := by decide +kernel
theorem dL_law_918 : decode cL_law 918 = .ok (.iload 4, 2) := by decide +kernel
theorem dL_law_920 : decode cL_law 920 = .ok (.iconst 1, 1) := by decide +kernel
theorem dL_law_921 : decode cL_law 921 = .ok (.iadd, 1) := by decide +kernel
theorem dL_law_922 : decode cL_law 922 = .ok (.iaload, 1) := by decide +kernel
theorem dL_law_923 : decode cL_law 923 = .ok (.invokevirtual 128, 3) := by decide +kernel
theorem dL_law_926 : decode cL_law 926 = .ok (.lstore 6, 2) := by decide +kernel
theorem dL_law_928 : decode cL_law 928 = .ok (.aload_n 2, 1) := by decide +kernel
theorem dL_law_929 : decode cL_law 929 = .ok (.invokevirtual 103, 3) := by decide +kernel
theorem dL_law_932 : decode cL_law 932 = .ok (.iload 5, 2) := by decide +kernel
theorem dL_law_934 : decode cL_law 934 = .ok (.if_icmp .eq 5, 3) := by decide +kernel
theorem dL_law_937 : decode cL_law 937 = .ok (.iconst 0, 1) := by decide +kernel
theorem dL_law_938 : decode cL_law 938 = .ok (.ireturn, 1) := by decide +kernel
theorem dL_law_939 : decode cL_law 939 = .ok (.iload 5, 2) := by decide +kernel
theorem dL_law_941 : decode cL_law 941 = .ok (.ifCond .ne 14, 3) := by decide +kernel
theorem dL_law_944 : decode cL_law 944 = .ok (.aload_n 3, 1) := by decide +kernel
theorem dL_law_945 : decode cL_law 945 = .ok (.iconst 0, 1) := by decide +kernel
theorem dL_law_946 : decode cL_law 946 = .ok (.laload, 1) := by decide +kernel
theorem dL_law_947 : decode cL_law 947 = .ok (.lload 6, 2) := by decide +kernel
theorem dL_law_949 : decode cL_law 949 = .ok (.lcmp, 1) := by decide +kernel
theorem dL_law_950 : decode cL_law 950 = .ok (.ifCond .eq 5, 3) := by decide +kernel
theorem dL_law_953 : decode cL_law 953 = .ok (.iconst 0, 1) := by decide +kernel
theorem dL_law_954 : decode cL_law 954 = .ok (.ireturn, 1) := by decide +kernel
theorem dL_law_955 : decode cL_law 955 = .ok (.goto 190, 3) := by decide +kernel
theorem dL_law_958 : decode cL_law 958 = .ok (.aload_n 1, 1) := by decide +kernel
theorem dL_law_959 : decode cL_law 959 = .ok (.aload_n 0, 1) := by decide +kernel
theorem dL_law_960 : decode cL_law 960 = .ok (.iload 4, 2) := by decide +kernel
theorem dL_law_962 : decode cL_law 962 = .ok (.iconst 1, 1) := by decide +kernel
theorem dL_law_963 : decode cL_law 963 = .ok (.iadd, 1) := by decide +kernel
theorem dL_law_964 : decode cL_law 964 = .ok (.iaload, 1) := by decide +kernel
theorem dL_law_965 : decode cL_law 965 = .ok (.aload_n 0, 1) := by decide +kernel
theorem dL_law_966 : decode cL_law 966 = .ok (.iload 4, 2) := by decide +kernel
theorem dL_law_968 : decode cL_law 968 = .ok (.iconst 2, 1) := by decide +kernel
theorem dL_law_969 : decode cL_law 969 = .ok (.iadd, 1) := by decide +kernel
theorem dL_law_970 : decode cL_law 970 = .ok (.iaload, 1) := by decide +kernel
theorem dL_law_971 : decode cL_law 971 = .ok (.invokevirtual 129, 3) := by decide +kernel
theorem dL_law_974 : decode cL_law 974 = .ok (.aload_n 2, 1) := by decide +kernel
theorem dL_law_975 : decode cL_law 975 = .ok (.aload_n 0, 1) := by decide +kernel
theorem dL_law_976 : decode cL_law 976 = .ok (.iload 4, 2) := by decide +kernel
theorem dL_law_978 : decode cL_law 978 = .ok (.iconst 1, 1) := by decide +kernel
theorem dL_law_979 : decode cL_law 979 = .ok (.iadd, 1) := by decide +kernel
theorem dL_law_980 : decode cL_law 980 = .ok (.iaload, 1) := by decide +kernel
theorem dL_law_981 : decode cL_law 981 = .ok (.aload_n 0, 1) := by decide +kernel
theorem dL_law_982 : decode cL_law 982 = .ok (.iload 4, 2) := by decide +kernel
theorem dL_law_984 : decode cL_law 984 = .ok (.iconst 2, 1) := by decide +kernel
theorem dL_law_985 : decode cL_law 985 = .ok (.iadd, 1) := by decide +kernel
theorem dL_law_986 : decode cL_law 986 = .ok (.iaload, 1) := by decide +kernel
theorem dL_law_987 : decode cL_law 987 = .ok (.invokevirtual 132, 3) := by decide +kernel
theorem dL_law_990 : decode cL_law 990 = .ok (.if_icmp .eq 155, 3) := by decide +kernel
theorem dL_law_993 : decode cL_law 993 = .ok (.iconst 0, 1) := by decide +kernel
theorem dL_law_994 : decode cL_law 994 = .ok (.ireturn, 1) := by decide +kernel
theorem dL_law_995 : decode cL_law 995 = .ok (.aload_n 1, 1) := by decide +kernel
theorem dL_law_996 : decode cL_law 996 = .ok (.aload_n 0, 1) := by decide +kernel
theorem dL_law_997 : decode cL_law 997 = .ok (.iload 4, 2) := by decide +kernel
theorem dL_law_999 : decode cL_law 999 = .ok (.iconst 1, 1) := by decide +kernel
theorem dL_law_1000 : decode cL_law 1000 = .ok (.iadd, 1) := by decide +kernel
theorem dL_law_1001 : decode cL_law 1001 = .ok (.iaload, 1) := by decide +kernel
theorem dL_law_1002 : decode cL_law 1002 = .ok (.invokevirtual 133, 3) := by decide +kernel
theorem dL_law_1005 : decode cL_law 1005 = .ok (.aload_n 2, 1) := by decide +kernel
theorem dL_law_1006 : decode cL_law 1006 = .ok (.aload_n 0, 1) := by decide +kernel
theorem dL_law_1007 : decode cL_law 1007 = .ok (.iload 4, 2) := by decide +kernel
theorem dL_law_1009 : decode cL_law 1009 = .ok (.iconst 1, 1) := by decide +kernel
theorem dL_law_1010 : decode cL_law 1010 = .ok (.iadd, 1) := by decide +kernel
theorem dL_law_1011 : decode cL_law 1011 = .ok (.iaload, 1) := by decide +kernel
theorem dL_law_1012 : decode cL_law 1012 = .ok (.invokevirtual 136, 3) := by decide +kernel
theorem dL_law_1015 : decode cL_law 1015 = .ok (.if_icmp .eq 130, 3) := by decide +kernel
theorem dL_law_1018 : decode cL_law 1018 = .ok (.iconst 0, 1) := by decide +kernel
theorem dL_law_1019 : decode cL_law 1019 = .ok (.ireturn, 1) := by decide +kernel
theorem dL_law_1020 : decode cL_law 1020 = .ok (.aload_n 1, 1) := by decide +kernel
theorem dL_law_1021 : decode cL_law 1021 = .ok (.invokevirtual 137, 3) := by decide +kernel
theorem dL_law_1024 : decode cL_law 1024 = .ok (.aload_n 2, 1) := by decide +kernel
theorem dL_law_1025 : decode cL_law 1025 = .ok (.invokevirtual 140, 3) := by decide +kernel
theorem dL_law_1028 : decode cL_law 1028 = .ok (.if_icmp .eq 117, 3) := by decide +kernel
theorem dL_law_1031 : decode cL_law 1031 = .ok (.iconst 0, 1) := by decide +kernel
theorem dL_law_1032 : decode cL_law 1032 = .ok (.ireturn, 1) := by decide +kernel
theorem dL_law_1033 : decode cL_law 1033 = .ok (.aload_n 1, 1) := by decide +kernel
theorem dL_law_1034 : decode cL_law 1034 = .ok (.aload_n 0, 1) := by decide +kernel
theorem dL_law_1035 : decode cL_law 1035 = .ok (.iload 4, 2) := by decide +kernel
theorem dL_law_1037 : decode cL_law 1037 = .ok (.iconst 1, 1) := by decide +kernel
theorem dL_law_1038 : decode cL_law 1038 = .ok (.iadd, 1) := by decide +kernel
theorem dL_law_1039 : decode cL_law 1039 = .ok (.iaload, 1) := by decide +kernel
theorem dL_law_1040 : decode cL_law 1040 = .ok (.aload_n 0, 1) := by decide +kernel
theorem dL_law_1041 : decode cL_law 1041 = .ok (.iload 4, 2) := by decide +kernel
theorem dL_law_1043 : decode cL_law 1043 = .ok (.iconst 2, 1) := by decide +kernel
theorem dL_law_1044 : decode cL_law 1044 = .ok (.iadd, 1) := by decide +kernel
theorem dL_law_1045 : decode cL_law 1045 = .ok (.iaload, 1) := by decide +kernel
theorem dL_law_1046 : decode cL_law 1046 = .ok (.invokevirtual 141, 3) := by decide +kernel
theorem dL_law_1049 : decode cL_law 1049 = .ok (.aload_n 2, 1) := by decide +kernel
theorem dL_law_1050 : decode cL_law 1050 = .ok (.aload_n 0, 1) := by decide +kernel
theorem dL_law_1051 : decode cL_law 1051 = .ok (.iload 4, 2) := by decide +kernel
theorem dL_law_1053 : decode cL_law 1053 = .ok (.iconst 1, 1) := by decide +kernel
theorem dL_law_1054 : decode cL_law 1054 = .ok (.iadd, 1) := by decide +kernel
theorem dL_law_1055 : decode cL_law 1055 = .ok (.iaload, 1) := by decide +kernel
theorem dL_law_1056 : decode cL_law 1056 = .ok (.aload_n 0, 1) := by decide +kernel
theorem dL_law_1057 : decode cL_law 1057 = .ok (.iload 4, 2) := by decide +kernel
theorem dL_law_1059 : decode cL_law 1059 = .ok (.iconst 2, 1) := by decide +kernel
theorem dL_law_1060 : decode cL_law 1060 = .ok (.iadd, 1) := by decide +kernel
theorem dL_law_1061 : decode cL_law 1061 = .ok (.iaload, 1) := by decide +kernel
theorem dL_law_1062 : decode cL_law 1062 = .ok (.invokevirtual 144, 3) := by decide +kernel
theorem dL_law_1065 : decode cL_law 1065 = .ok (.if_icmp .eq 80, 3) := by decide +kernel
theorem dL_law_1068 : decode cL_law 1068 = .ok (.iconst 0, 1) := by decide +kernel
theorem dL_law_1069 : decode cL_law 1069 = .ok (.ireturn, 1) := by decide +kernel
theorem dL_law_1070 : decode cL_law 1070 = .ok (.aload_n 1, 1) := by decide +kernel
theorem dL_law_1071 : decode cL_law 1071 = .ok (.aload_n 0, 1) := by decide +kernel
theorem dL_law_1072 : decode cL_law 1072 = .ok (.iload 4, 2) := by decide +kernel
theorem dL_law_1074 : decode cL_law 1074 = .ok (.iconst 1, 1) := by decide +kernel
theorem dL_law_1075 : decode cL_law 1075 = .ok (.iadd, 1) := by decide +kernel
theorem dL_law_1076 : decode cL_law 1076 = .ok (.iaload, 1) := by decide +kernel
theorem dL_law_1077 : decode cL_law 1077 = .ok (.invokevirtual 145, 3) := by decide +kernel
theorem dL_law_1080 : decode cL_law 1080 = .ok (.aload_n 2, 1) := by decide +kernel
theorem dL_law_1081 : decode cL_law 1081 = .ok (.aload_n 0, 1) := by decide +kernel
theorem dL_law_1082 : decode cL_law 1082 = .ok (.iload 4, 2) := by decide +kernel
theorem dL_law_1084 : decode cL_law 1084 = .ok (.iconst 1, 1) := by decide +kernel
theorem dL_law_1085 : decode cL_law 1085 = .ok (.iadd, 1) := by decide +kernel
theorem dL_law_1086 : decode cL_law 1086 = .ok (.iaload, 1) := by decide +kernel
theorem dL_law_1087 : decode cL_law 1087 = .ok (.invokevirtual 148, 3) := by decide +kernel
theorem dL_law_1090 : decode cL_law 1090 = .ok (.if_icmp .eq 55, 3) := by decide +kernel
theorem dL_law_1093 : decode cL_law 1093 = .ok (.iconst 0, 1) := by decide +kernel
theorem dL_law_1094 : decode cL_law 1094 = .ok (.ireturn, 1) := by decide +kernel
theorem dL_law_1095 : decode cL_law 1095 = .ok (.aload_n 1, 1) := by decide +kernel
theorem dL_law_1096 : decode cL_law 1096 = .ok (.aload_n 0, 1) := by decide +kernel
theorem dL_law_1097 : decode cL_law 1097 = .ok (.iload 4, 2) := by decide +kernel
theorem dL_law_1099 : decode cL_law 1099 = .ok (.iconst 1, 1) := by decide +kernel
theorem dL_law_1100 : decode cL_law 1100 = .ok (.iadd, 1) := by decide +kernel
theorem dL_law_1101 : decode cL_law 1101 = .ok (.iaload, 1) := by decide +kernel
theorem dL_law_1102 : decode cL_law 1102 = .ok (.invokevirtual 149, 3) := by decide +kernel
theorem dL_law_1105 : decode cL_law 1105 = .ok (.aload_n 2, 1) := by decide +kernel
theorem dL_law_1106 : decode cL_law 1106 = .ok (.aload_n 0, 1) := by decide +kernel
theorem dL_law_1107 : decode cL_law 1107 = .ok (.iload 4, 2) := by decide +kernel
theorem dL_law_1109 : decode cL_law 1109 = .ok (.iconst 1, 1) := by decide +kernel
theorem dL_law_1110 : decode cL_law 1110 = .ok (.iadd, 1) := by decide +kernel
theorem dL_law_1111 : decode cL_law 1111 = .ok (.iaload, 1) := by decide +kernel
theorem dL_law_1112 : decode cL_law 1112 = .ok (.invokevirtual 152, 3) := by decide +kernel
theorem dL_law_1115 : decode cL_law 1115 = .ok (.if_icmp .eq 30, 3) := by decide +kernel
theorem dL_law_1118 : decode cL_law 1118 = .ok (.iconst 0, 1) := by decide +kernel
theorem dL_law_1119 : decode cL_law 1119 = .ok (.ireturn, 1) := by decide +kernel
theorem dL_law_1120 : decode cL_law 1120 = .ok (.aload_n 1, 1) := by decide +kernel
theorem dL_law_1121 : decode cL_law 1121 = .ok (.aload_n 0, 1) := by decide +kernel
theorem dL_law_1122 : decode cL_law 1122 = .ok (.iload 4, 2) := by decide +kernel
theorem dL_law_1124 : decode cL_law 1124 = .ok (.iconst 1, 1) := by decide +kernel
theorem dL_law_1125 : decode cL_law 1125 = .ok (.iadd, 1) := by decide +kernel
theorem dL_law_1126 : decode cL_law 1126 = .ok (.iaload, 1) := by decide +kernel
theorem dL_law_1127 : decode cL_law 1127 = .ok (.invokevirtual 153, 3) := by decide +kernel
theorem dL_law_1130 : decode cL_law 1130 = .ok (.aload_n 2, 1) := by decide +kernel
theorem dL_law_1131 : decode cL_law 1131 = .ok (.aload_n 0, 1) := by decide +kernel
theorem dL_law_1132 : decode cL_law 1132 = .ok (.iload 4, 2) := by decide +kernel
theorem dL_law_1134 : decode cL_law 1134 = .ok (.iconst 1, 1) := by decide +kernel
theorem dL_law_1135 : decode cL_law 1135 = .ok (.iadd, 1) := by decide +kernel
theorem dL_law_1136 : decode cL_law 1136 = .ok (.iaload, 1) := by decide +kernel
theorem dL_law_1137 : decode cL_law 1137 = .ok (.invokevirtual 156, 3) := by decide +kernel
theorem dL_law_1140 : decode cL_law 1140 = .ok (.if_icmp .eq 5, 3) := by decide +kernel
theorem dL_law_1143 : decode cL_law 1143 = .ok (.iconst 0, 1) := by decide +kernel
theorem dL_law_1144 : decode cL_law 1144 = .ok (.ireturn, 1) := by decide +kernel
theorem dL_law_1145 : decode cL_law 1145 = .ok (.iinc 4 4, 3) := by decide +kernel
theorem dL_law_1148 : decode cL_law 1148 = .ok (.goto (-1125), 3) := by decide +kernel
theorem dL_law_1151 : decode cL_law 1151 = .ok (.iconst 1, 1) := by decide +kernel
theorem dL_law_1152 : decode cL_law 1152 = .ok (.ireturn, 1) := by decide +kernel
end
section
/-! numbers: every int of the machine is I a, every long J a, a an Int -/
def I (a : Int) : Int32 := Int32.ofInt a
def J (a : Int) : Int64 := Int64.ofInt a
theorem I_add (a b : Int) : I a + I b = I (a + b) := (Int32.ofInt_add a b).symm
theorem I_sub (a b : Int) : I a - I b = I (a - b) := (Int32.ofInt_sub a b).symm
theorem I_mul (a b : Int) : I a * I b = I (a * b) := (Int32.ofInt_mul a b).symm
theorem I_neg (a : Int) : - I a = I (-a) := (Int32.ofInt_neg a).symm
theorem J_add (a b : Int) : J a + J b = J (a + b) := (Int64.ofInt_add a b).symm
theorem J_sub (a b : Int) : J a - J b = J (a - b) := (Int64.ofInt_sub a b).symm
theorem J_mul (a b : Int) : J a * J b = J (a * b) := (Int64.ofInt_mul a b).symm
theorem J_neg (a : Int) : - J a = J (-a) := (Int64.ofInt_neg a).symm
theorem I_of (x : Int32) : x = I x.toInt := (Int32.ofInt_toInt x).symm
theorem J_of (x : Int64) : x = J x.toInt := (Int64.ofInt_toInt x).symm
theorem I_int {a : Int} (h : -2147483648 ≤ a ∧ a < 2147483648) : (I a).toInt = a := Int32.toInt_ofInt_of_le (by omega) (by omega)
theorem J_int {a : Int} (h : -9223372036854775808 ≤ a ∧ a < 9223372036854775808) : (J a).toInt = a := Int64.toInt_ofInt_of_le (by omega) (by omega)
theorem I_rg (x : Int32) : -2147483648 ≤ x.toInt ∧ x.toInt < 2147483648 := ⟨by have := Int32.le_toInt x; omega, by have := Int32.toInt_lt x; omega⟩
theorem I_lt {a b : Int} (ha : -2147483648 ≤ a ∧ a < 2147483648) (hb : -2147483648 ≤ b ∧ b < 2147483648) : I a < I b ↔ a < b := by rw [Int32.lt_iff_toInt_lt, I_int ha, I_int hb]
theorem I_le {a b : Int} (ha : -2147483648 ≤ a ∧ a < 2147483648) (hb : -2147483648 ≤ b ∧ b < 2147483648) : I a ≤ I b ↔ a ≤ b := by rw [Int32.le_iff_toInt_le, I_int ha, I_int hb]
theorem I_eq {a b : Int} (ha : -2147483648 ≤ a ∧ a < 2147483648) (hb : -2147483648 ≤ b ∧ b < 2147483648) : I a = I b ↔ a = b := by rw [← Int32.toInt_inj, I_int ha, I_int hb]
theorem J_lt {a b : Int} (ha : -9223372036854775808 ≤ a ∧ a < 9223372036854775808) (hb : -9223372036854775808 ≤ b ∧ b < 9223372036854775808) : J a < J b ↔ a < b := by rw [Int64.lt_iff_toInt_lt, J_int ha, J_int hb]
theorem J_le {a b : Int} (ha : -9223372036854775808 ≤ a ∧ a < 9223372036854775808) (hb : -9223372036854775808 ≤ b ∧ b < 9223372036854775808) : J a ≤ J b ↔ a ≤ b := by rw [Int64.le_iff_toInt_le, J_int ha, J_int hb]
theorem J_eq {a b : Int} (ha : -9223372036854775808 ≤ a ∧ a < 9223372036854775808) (hb : -9223372036854775808 ≤ b ∧ b < 9223372036854775808) : J a = J b ↔ a = b := by rw [← Int64.toInt_inj, J_int ha, J_int hb]
theorem I_0 : (0 : Int32) = I 0 := by decide +kernel
theorem J_0 : (0 : Int64) = J 0 := by decide +kernel
theorem I_J {a : Int} (h : -2147483648 ≤ a ∧ a < 2147483648) : (I a).toInt64 = J a := by
  apply Int64.toInt_inj.mp
  rw [Int32.toInt_toInt64, I_int h, J_int (by omega)]
theorem J_I (a : Int) : (J a).toInt32 = I a := Int64.toInt32_ofInt
theorem I_nat {a : Int} (h : 0 ≤ a ∧ a < 2147483648) : (I a).toNatClampNeg = a.toNat := by
  show (I a).toInt.toNat = a.toNat
  rw [I_int (by omega)]
theorem I_in {a : Int} {n : Nat} (h0 : 0 ≤ a) (h : a < n) (hn : n < 2147483648) : vp_in (I a) n := by
  rw [vp_in_iff, I_int (by omega)]
  omega
theorem I_8 {n : Int} (h : -128 ≤ n ∧ n < 128) : (Int8.ofInt n).toInt32 = I n := by
  apply Int32.toInt_inj.mp
  rw [Int8.toInt_toInt32, Int8.toInt_ofInt_of_le (by omega) (by omega), I_int (by omega)]
theorem I_16 {n : Int} (h : -32768 ≤ n ∧ n < 32768) : (Int16.ofInt n).toInt32 = I n := by
  apply Int32.toInt_inj.mp
  rw [Int16.toInt_toInt32, Int16.toInt_ofInt_of_le (by omega) (by omega), I_int (by omega)]
theorem td_abs {a b : Int} (hb : 0 < b) : -(a.tdiv b) ≤ a.natAbs ∧ a.tdiv b ≤ a.natAbs := by
  have h := Int.natAbs_tdiv_le_natAbs a b
  omega
theorem J_div {a b : Int} (ha : -9223372036854775808 < a ∧ a < 9223372036854775808) (hb : 0 < b ∧ b < 9223372036854775808) : J a / J b = J (a.tdiv b) := by
  apply Int64.toInt_inj.mp
  have h := td_abs (a := a) hb.1
  rw [Int64.toInt_div_of_ne_left, J_int (by omega), J_int (by omega), J_int (by omega)]
  intro h2
  have h3 := congrArg Int64.toInt h2
  rw [J_int (by omega)] at h3
  have h4 : Int64.minValue.toInt = -9223372036854775808 := by decide +kernel
  omega
theorem I_div {a b : Int} (ha : -2147483648 < a ∧ a < 2147483648) (hb : 0 < b ∧ b < 2147483648) : I a / I b = I (a.tdiv b) := by
  apply Int32.toInt_inj.mp
  have h := td_abs (a := a) hb.1
  rw [Int32.toInt_div_of_ne_left, I_int (by omega), I_int (by omega), I_int (by omega)]
  intro h2
  have h3 := congrArg Int32.toInt h2
  rw [I_int (by omega)] at h3
  have h4 : Int32.minValue.toInt = -2147483648 := by decide +kernel
  omega
theorem I_ne0 {a : Int} (h : -2147483648 ≤ a ∧ a < 2147483648) (h0 : a ≠ 0) : ¬ I a = 0 := by
  rw [I_0, I_eq h (by omega)]; exact h0
theorem J_ne0 {a : Int} (h : -9223372036854775808 ≤ a ∧ a < 9223372036854775808) (h0 : a ≠ 0) : ¬ J a = 0 := by
  rw [J_0, J_eq h (by omega)]; exact h0
theorem I_nI (n : Nat) : I (n : Int) = nI n := by
  show Int32.ofInt (n : Int) = Int32.ofNat n
  rfl
end
section
def BIG : List Cond := lw_tbl.filter goodWord
theorem bg_of {w : Cond} (i : Nat) (h : lw_tbl[i]? = some w) (g : goodWord w = true) : w ∈ BIG := List.mem_filter.mpr ⟨List.mem_of_getElem? h, g⟩
theorem bg_good {w : Cond} (h : w ∈ BIG) : w ∈ BIG ∧ ((w.onTables && w.keeps) = true ∨ ∃ ty, w = .arrayClass ty) := ⟨h, good_of_word (List.mem_filter.mp h).2⟩
theorem gi_0 {x : Cond} (h : x ∈ BIG) : GoodIn BIG (x :: BIG) := fun w hw => (List.mem_cons.mp hw).elim (fun e => by rw [e]; exact bg_good h) bg_good
theorem gi_V {own C : String} {i : Nat} {y : MethodName} {x : Cond} (h1 : Cond.methodLink own i y ∈ BIG) (h2 : Cond.instanceMethod y ∈ BIG ∧ Cond.selects C y y ∈ BIG ∧ Cond.initialized C ∈ BIG ∧ x ∈ BIG) : GoodIn BIG (wsV own i C y (x :: BIG)) := by
  intro w hw
  simp only [wsV, List.cons_append, List.nil_append, List.mem_cons] at hw
  rcases hw with rfl | rfl | rfl | rfl | rfl | hw
  · exact bg_good h1
  · exact bg_good h2.1
  · exact bg_good h2.2.1
  · exact bg_good h2.2.2.1
  · exact bg_good h2.2.2.2
  · exact bg_good hw
theorem gi_S {own : String} {i : Nat} {y : MethodName} {x : Cond} (h1 : Cond.methodLink own i y ∈ BIG) (h2 : Cond.static y ∈ BIG ∧ Cond.initialized y.cls ∈ BIG ∧ x ∈ BIG) : GoodIn BIG (va_wsS own i y (x :: BIG)) := by
  intro w hw
  simp only [va_wsS, List.cons_append, List.nil_append, List.mem_cons] at hw
  rcases hw with rfl | rfl | rfl | rfl | hw
  · exact bg_good h1
  · exact bg_good h2.1
  · exact bg_good h2.2.1
  · exact bg_good h2.2.2
  · exact bg_good hw
theorem nd_X0_init : yX0_init.cls ≠ "java/lang/invoke/MethodHandle" ∧ yX0_init.cls ≠ "java/lang/invoke/VarHandle" ∧ (parseMethodDescriptor yX0_init.desc).map (fun d => d.parameters.length) = some 2 := by decide +kernel
theorem cy_X0_init : Cond.instanceMethod yX0_init ∈ BIG ∧ Cond.initialized yX0_init.cls ∈ BIG ∧ Cond.code yX0_init cX0_init 3 none ∈ BIG := ⟨bg_of 128 (by decide +kernel) rfl, bg_of 56 (by decide +kernel) rfl, bg_of 129 (by decide +kernel) rfl⟩
theorem nd_X0_outdate : yX0_outdate.cls ≠ "java/lang/invoke/MethodHandle" ∧ yX0_outdate.cls ≠ "java/lang/invoke/VarHandle" ∧ (parseMethodDescriptor yX0_outdate.desc).map (fun d => d.parameters.length) = some 0 := by decide +kernel
theorem cy_X0_outdate : Cond.instanceMethod yX0_outdate ∈ BIG ∧ Cond.selects RX0 yX0_outdate yX0_outdate ∈ BIG ∧ Cond.initialized RX0 ∈ BIG ∧ Cond.code yX0_outdate cX0_outdate 1 none ∈ BIG := ⟨bg_of 216 (by decide +kernel) rfl, bg_of 217 (by decide +kernel) rfl, bg_of 56 (by decide +kernel) rfl, bg_of 218 (by decide +kernel) rfl⟩
theorem nd_X0_refresh : yX0_refresh.cls ≠ "java/lang/invoke/MethodHandle" ∧ yX0_refresh.cls ≠ "java/lang/invoke/VarHandle" ∧ (parseMethodDescriptor yX0_refresh.desc).map (fun d => d.parameters.length) = some 0 := by decide +kernel
theorem cy_X0_refresh : Cond.instanceMethod yX0_refresh ∈ BIG ∧ Cond.selects RX0 yX0_refresh yX0_refresh ∈ BIG ∧ Cond.initialized RX0 ∈ BIG ∧ Cond.code yX0_refresh cX0_refresh 2 none ∈ BIG := ⟨bg_of 538 (by decide +kernel) rfl, bg_of 539 (by decide +kernel) rfl, bg_of 56 (by decide +kernel) rfl, bg_of 540 (by decide +kernel) rfl⟩
theorem nd_X0_second : yX0_second.cls ≠ "java/lang/invoke/MethodHandle" ∧ yX0_second.cls ≠ "java/lang/invoke/VarHandle" ∧ (parseMethodDescriptor yX0_second.desc).map (fun d => d.parameters.length) = some 0 := by decide +kernel
theorem cy_X0_second : Cond.instanceMethod yX0_second ∈ BIG ∧ Cond.selects RX0 yX0_second yX0_second ∈ BIG ∧ Cond.initialized RX0 ∈ BIG ∧ Cond.code yX0_second cX0_second 1 (some .int) ∈ BIG := ⟨bg_of 591 (by decide +kernel) rfl, bg_of 592 (by decide +kernel) rfl, bg_of 56 (by decide +kernel) rfl, bg_of 593 (by decide +kernel) rfl⟩
theorem nd_X0_third : yX0_third.cls ≠ "java/lang/invoke/MethodHandle" ∧ yX0_third.cls ≠ "java/lang/invoke/VarHandle" ∧ (parseMethodDescriptor yX0_third.desc).map (fun d => d.parameters.length) = some 0 := by decide +kernel
theorem cy_X0_third : Cond.instanceMethod yX0_third ∈ BIG ∧ Cond.selects RX0 yX0_third yX0_third ∈ BIG ∧ Cond.initialized RX0 ∈ BIG ∧ Cond.code yX0_third cX0_third 1 (some .int) ∈ BIG := ⟨bg_of 595 (by decide +kernel) rfl, bg_of 596 (by decide +kernel) rfl, bg_of 56 (by decide +kernel) rfl, bg_of 597 (by decide +kernel) rfl⟩
theorem nd_X0_isGood : yX0_isGood.cls ≠ "java/lang/invoke/MethodHandle" ∧ yX0_isGood.cls ≠ "java/lang/invoke/VarHandle" ∧ (parseMethodDescriptor yX0_isGood.desc).map (fun d => d.parameters.length) = some 0 := by decide +kernel
theorem cy_X0_isGood : Cond.instanceMethod yX0_isGood ∈ BIG ∧ Cond.selects RX0 yX0_isGood yX0_isGood ∈ BIG ∧ Cond.initialized RX0 ∈ BIG ∧ Cond.code yX0_isGood cX0_isGood 1 (some .boolean) ∈ BIG := ⟨bg_of 599 (by decide +kernel) rfl, bg_of 600 (by decide +kernel) rfl, bg_of 56 (by decide +kernel) rfl, bg_of 601 (by decide +kernel) rfl⟩
theorem nd_X0_lawOf : yX0_lawOf.cls ≠ "java/lang/invoke/MethodHandle" ∧ yX0_lawOf.cls ≠ "java/lang/invoke/VarHandle" ∧ (parseMethodDescriptor yX0_lawOf.desc).map (fun d => d.parameters.length) = some 1 := by decide +kernel
theorem cy_X0_lawOf : Cond.instanceMethod yX0_lawOf ∈ BIG ∧ Cond.selects RX0 yX0_lawOf yX0_lawOf ∈ BIG ∧ Cond.initialized RX0 ∈ BIG ∧ Cond.code yX0_lawOf cX0_lawOf 3 (some .int) ∈ BIG := ⟨bg_of 587 (by decide +kernel) rfl, bg_of 588 (by decide +kernel) rfl, bg_of 56 (by decide +kernel) rfl, bg_of 589 (by decide +kernel) rfl⟩
theorem nd_X0_findBent : yX0_findBent.cls ≠ "java/lang/invoke/MethodHandle" ∧ yX0_findBent.cls ≠ "java/lang/invoke/VarHandle" ∧ (parseMethodDescriptor yX0_findBent.desc).map (fun d => d.parameters.length) = some 0 := by decide +kernel
theorem cy_X0_findBent : Cond.instanceMethod yX0_findBent ∈ BIG ∧ Cond.selects RX0 yX0_findBent yX0_findBent ∈ BIG ∧ Cond.initialized RX0 ∈ BIG ∧ Cond.code yX0_findBent cX0_findBent 2 none ∈ BIG := ⟨bg_of 543 (by decide +kernel) rfl, bg_of 8 (by decide +kernel) rfl, bg_of 56 (by decide +kernel) rfl, bg_of 544 (by decide +kernel) rfl⟩
theorem nd_X0_measureLink : yX0_measureLink.cls ≠ "java/lang/invoke/MethodHandle" ∧ yX0_measureLink.cls ≠ "java/lang/invoke/VarHandle" ∧ (parseMethodDescriptor yX0_measureLink.desc).map (fun d => d.parameters.length) = some 1 := by decide +kernel
theorem cy_X0_measureLink : Cond.instanceMethod yX0_measureLink ∈ BIG ∧ Cond.selects RX0 yX0_measureLink yX0_measureLink ∈ BIG ∧ Cond.initialized RX0 ∈ BIG ∧ Cond.code yX0_measureLink cX0_measureLink 8 none ∈ BIG := ⟨bg_of 554 (by decide +kernel) rfl, bg_of 9 (by decide +kernel) rfl, bg_of 56 (by decide +kernel) rfl, bg_of 555 (by decide +kernel) rfl⟩
theorem nd_X0_measurePair : yX0_measurePair.cls ≠ "java/lang/invoke/MethodHandle" ∧ yX0_measurePair.cls ≠ "java/lang/invoke/VarHandle" ∧ (parseMethodDescriptor yX0_measurePair.desc).map (fun d => d.parameters.length) = some 3 := by decide +kernel
theorem cy_X0_measurePair : Cond.instanceMethod yX0_measurePair ∈ BIG ∧ Cond.selects RX0 yX0_measurePair yX0_measurePair ∈ BIG ∧ Cond.initialized RX0 ∈ BIG ∧ Cond.code yX0_measurePair cX0_measurePair 12 none ∈ BIG := ⟨bg_of 558 (by decide +kernel) rfl, bg_of 10 (by decide +kernel) rfl, bg_of 56 (by decide +kernel) rfl, bg_of 559 (by decide +kernel) rfl⟩
theorem nd_X0_lawIn : yX0_lawIn.cls ≠ "java/lang/invoke/MethodHandle" ∧ yX0_lawIn.cls ≠ "java/lang/invoke/VarHandle" ∧ (parseMethodDescriptor yX0_lawIn.desc).map (fun d => d.parameters.length) = some 2 := by decide +kernel
theorem cy_X0_lawIn : Cond.instanceMethod yX0_lawIn ∈ BIG ∧ Cond.selects RX0 yX0_lawIn yX0_lawIn ∈ BIG ∧ Cond.initialized RX0 ∈ BIG ∧ Cond.code yX0_lawIn cX0_lawIn 3 (some .int) ∈ BIG := ⟨bg_of 580 (by decide +kernel) rfl, bg_of 13 (by decide +kernel) rfl, bg_of 56 (by decide +kernel) rfl, bg_of 581 (by decide +kernel) rfl⟩
theorem nd_X0_compareAll : yX0_compareAll.cls ≠ "java/lang/invoke/MethodHandle" ∧ yX0_compareAll.cls ≠ "java/lang/invoke/VarHandle" ∧ (parseMethodDescriptor yX0_compareAll.desc).map (fun d => d.parameters.length) = some 0 := by decide +kernel
theorem cy_X0_compareAll : Cond.instanceMethod yX0_compareAll ∈ BIG ∧ Cond.selects RX0 yX0_compareAll yX0_compareAll ∈ BIG ∧ Cond.initialized RX0 ∈ BIG ∧ Cond.code yX0_compareAll cX0_compareAll 2 none ∈ BIG := ⟨bg_of 572 (by decide +kernel) rfl, bg_of 11 (by decide +kernel) rfl, bg_of 56 (by decide +kernel) rfl, bg_of 573 (by decide +kernel) rfl⟩
theorem nd_X0_compare : yX0_compare.cls ≠ "java/lang/invoke/MethodHandle" ∧ yX0_compare.cls ≠ "java/lang/invoke/VarHandle" ∧ (parseMethodDescriptor yX0_compare.desc).map (fun d => d.parameters.length) = some 1 := by decide +kernel
theorem cy_X0_compare : Cond.instanceMethod yX0_compare ∈ BIG ∧ Cond.selects RX0 yX0_compare yX0_compare ∈ BIG ∧ Cond.initialized RX0 ∈ BIG ∧ Cond.code yX0_compare cX0_compare 9 none ∈ BIG := ⟨bg_of 576 (by decide +kernel) rfl, bg_of 12 (by decide +kernel) rfl, bg_of 56 (by decide +kernel) rfl, bg_of 577 (by decide +kernel) rfl⟩
theorem nd_X0_isBetter : yX0_isBetter.cls ≠ "java/lang/invoke/MethodHandle" ∧ yX0_isBetter.cls ≠ "java/lang/invoke/VarHandle" ∧ (parseMethodDescriptor yX0_isBetter.desc).map (fun d => d.parameters.length) = some 3 := by decide +kernel
theorem cy_X0_isBetter : Cond.instanceMethod yX0_isBetter ∈ BIG ∧ Cond.selects RX0 yX0_isBetter yX0_isBetter ∈ BIG ∧ Cond.initialized RX0 ∈ BIG ∧ Cond.code yX0_isBetter cX0_isBetter 4 (some .boolean) ∈ BIG := ⟨bg_of 584 (by decide +kernel) rfl, bg_of 14 (by decide +kernel) rfl, bg_of 56 (by decide +kernel) rfl, bg_of 585 (by decide +kernel) rfl⟩
theorem nd_X1_init : yX1_init.cls ≠ "java/lang/invoke/MethodHandle" ∧ yX1_init.cls ≠ "java/lang/invoke/VarHandle" ∧ (parseMethodDescriptor yX1_init.desc).map (fun d => d.parameters.length) = some 0 := by decide +kernel
theorem cy_X1_init : Cond.instanceMethod yX1_init ∈ BIG ∧ Cond.initialized yX1_init.cls ∈ BIG ∧ Cond.code yX1_init cX1_init 1 none ∈ BIG := ⟨bg_of 90 (by decide +kernel) rfl, bg_of 54 (by decide +kernel) rfl, bg_of 91 (by decide +kernel) rfl⟩
theorem nd_X1_size : yX1_size.cls ≠ "java/lang/invoke/MethodHandle" ∧ yX1_size.cls ≠ "java/lang/invoke/VarHandle" ∧ (parseMethodDescriptor yX1_size.desc).map (fun d => d.parameters.length) = some 0 := by decide +kernel
theorem cy_X1_size : Cond.instanceMethod yX1_size ∈ BIG ∧ Cond.selects RX1 yX1_size yX1_size ∈ BIG ∧ Cond.initialized RX1 ∈ BIG ∧ Cond.code yX1_size cX1_size 1 (some .int) ∈ BIG := ⟨bg_of 331 (by decide +kernel) rfl, bg_of 332 (by decide +kernel) rfl, bg_of 54 (by decide +kernel) rfl, bg_of 333 (by decide +kernel) rfl⟩
theorem nd_X1_forget : yX1_forget.cls ≠ "java/lang/invoke/MethodHandle" ∧ yX1_forget.cls ≠ "java/lang/invoke/VarHandle" ∧ (parseMethodDescriptor yX1_forget.desc).map (fun d => d.parameters.length) = some 0 := by decide +kernel
theorem cy_X1_forget : Cond.instanceMethod yX1_forget ∈ BIG ∧ Cond.selects RX1 yX1_forget yX1_forget ∈ BIG ∧ Cond.initialized RX1 ∈ BIG ∧ Cond.code yX1_forget cX1_forget 1 none ∈ BIG := ⟨bg_of 204 (by decide +kernel) rfl, bg_of 205 (by decide +kernel) rfl, bg_of 54 (by decide +kernel) rfl, bg_of 206 (by decide +kernel) rfl⟩
theorem nd_X1_keep : yX1_keep.cls ≠ "java/lang/invoke/MethodHandle" ∧ yX1_keep.cls ≠ "java/lang/invoke/VarHandle" ∧ (parseMethodDescriptor yX1_keep.desc).map (fun d => d.parameters.length) = some 1 := by decide +kernel
theorem cy_X1_keep : Cond.instanceMethod yX1_keep ∈ BIG ∧ Cond.selects RX1 yX1_keep yX1_keep ∈ BIG ∧ Cond.initialized RX1 ∈ BIG ∧ Cond.code yX1_keep cX1_keep 2 none ∈ BIG := ⟨bg_of 239 (by decide +kernel) rfl, bg_of 240 (by decide +kernel) rfl, bg_of 54 (by decide +kernel) rfl, bg_of 241 (by decide +kernel) rfl⟩
theorem nd_X1_restore : yX1_restore.cls ≠ "java/lang/invoke/MethodHandle" ∧ yX1_restore.cls ≠ "java/lang/invoke/VarHandle" ∧ (parseMethodDescriptor yX1_restore.desc).map (fun d => d.parameters.length) = some 1 := by decide +kernel
theorem cy_X1_restore : Cond.instanceMethod yX1_restore ∈ BIG ∧ Cond.selects RX1 yX1_restore yX1_restore ∈ BIG ∧ Cond.initialized RX1 ∈ BIG ∧ Cond.code yX1_restore cX1_restore 2 none ∈ BIG := ⟨bg_of 335 (by decide +kernel) rfl, bg_of 336 (by decide +kernel) rfl, bg_of 54 (by decide +kernel) rfl, bg_of 337 (by decide +kernel) rfl⟩
theorem nd_X2_init : yX2_init.cls ≠ "java/lang/invoke/MethodHandle" ∧ yX2_init.cls ≠ "java/lang/invoke/VarHandle" ∧ (parseMethodDescriptor yX2_init.desc).map (fun d => d.parameters.length) = some 0 := by decide +kernel
theorem cy_X2_init : Cond.instanceMethod yX2_init ∈ BIG ∧ Cond.initialized yX2_init.cls ∈ BIG ∧ Cond.code yX2_init cX2_init 1 none ∈ BIG := ⟨bg_of 74 (by decide +kernel) rfl, bg_of 52 (by decide +kernel) rfl, bg_of 75 (by decide +kernel) rfl⟩
theorem nd_X2_placeOf : yX2_placeOf.cls ≠ "java/lang/invoke/MethodHandle" ∧ yX2_placeOf.cls ≠ "java/lang/invoke/VarHandle" ∧ (parseMethodDescriptor yX2_placeOf.desc).map (fun d => d.parameters.length) = some 2 := by decide +kernel
theorem cy_X2_placeOf : Cond.static yX2_placeOf ∈ BIG ∧ Cond.initialized yX2_placeOf.cls ∈ BIG ∧ Cond.code yX2_placeOf cX2_placeOf 2 (some .int) ∈ BIG := ⟨bg_of 250 (by decide +kernel) rfl, bg_of 52 (by decide +kernel) rfl, bg_of 251 (by decide +kernel) rfl⟩
theorem nd_X2_placeOfMark : yX2_placeOfMark.cls ≠ "java/lang/invoke/MethodHandle" ∧ yX2_placeOfMark.cls ≠ "java/lang/invoke/VarHandle" ∧ (parseMethodDescriptor yX2_placeOfMark.desc).map (fun d => d.parameters.length) = some 2 := by decide +kernel
theorem cy_X2_placeOfMark : Cond.static yX2_placeOfMark ∈ BIG ∧ Cond.initialized yX2_placeOfMark.cls ∈ BIG ∧ Cond.code yX2_placeOfMark cX2_placeOfMark 2 (some .int) ∈ BIG := ⟨bg_of 311 (by decide +kernel) rfl, bg_of 52 (by decide +kernel) rfl, bg_of 312 (by decide +kernel) rfl⟩
theorem nd_X2_get : yX2_get.cls ≠ "java/lang/invoke/MethodHandle" ∧ yX2_get.cls ≠ "java/lang/invoke/VarHandle" ∧ (parseMethodDescriptor yX2_get.desc).map (fun d => d.parameters.length) = some 1 := by decide +kernel
theorem cy_X2_get : Cond.instanceMethod yX2_get ∈ BIG ∧ Cond.selects RX2 yX2_get yX2_get ∈ BIG ∧ Cond.initialized RX2 ∈ BIG ∧ Cond.code yX2_get cX2_get 2 (some .int) ∈ BIG := ⟨bg_of 200 (by decide +kernel) rfl, bg_of 201 (by decide +kernel) rfl, bg_of 52 (by decide +kernel) rfl, bg_of 202 (by decide +kernel) rfl⟩
theorem nd_X2_put : yX2_put.cls ≠ "java/lang/invoke/MethodHandle" ∧ yX2_put.cls ≠ "java/lang/invoke/VarHandle" ∧ (parseMethodDescriptor yX2_put.desc).map (fun d => d.parameters.length) = some 2 := by decide +kernel
theorem cy_X2_put : Cond.instanceMethod yX2_put ∈ BIG ∧ Cond.selects RX2 yX2_put yX2_put ∈ BIG ∧ Cond.initialized RX2 ∈ BIG ∧ Cond.code yX2_put cX2_put 3 none ∈ BIG := ⟨bg_of 220 (by decide +kernel) rfl, bg_of 221 (by decide +kernel) rfl, bg_of 52 (by decide +kernel) rfl, bg_of 222 (by decide +kernel) rfl⟩
theorem nd_X2_exchange : yX2_exchange.cls ≠ "java/lang/invoke/MethodHandle" ∧ yX2_exchange.cls ≠ "java/lang/invoke/VarHandle" ∧ (parseMethodDescriptor yX2_exchange.desc).map (fun d => d.parameters.length) = some 2 := by decide +kernel
theorem cy_X2_exchange : Cond.instanceMethod yX2_exchange ∈ BIG ∧ Cond.selects RX2 yX2_exchange yX2_exchange ∈ BIG ∧ Cond.initialized RX2 ∈ BIG ∧ Cond.code yX2_exchange cX2_exchange 4 (some .int) ∈ BIG := ⟨bg_of 262 (by decide +kernel) rfl, bg_of 263 (by decide +kernel) rfl, bg_of 52 (by decide +kernel) rfl, bg_of 264 (by decide +kernel) rfl⟩
theorem nd_X2_hasStep : yX2_hasStep.cls ≠ "java/lang/invoke/MethodHandle" ∧ yX2_hasStep.cls ≠ "java/lang/invoke/VarHandle" ∧ (parseMethodDescriptor yX2_hasStep.desc).map (fun d => d.parameters.length) = some 1 := by decide +kernel
theorem cy_X2_hasStep : Cond.instanceMethod yX2_hasStep ∈ BIG ∧ Cond.selects RX2 yX2_hasStep yX2_hasStep ∈ BIG ∧ Cond.initialized RX2 ∈ BIG ∧ Cond.code yX2_hasStep cX2_hasStep 2 (some .boolean) ∈ BIG := ⟨bg_of 307 (by decide +kernel) rfl, bg_of 308 (by decide +kernel) rfl, bg_of 52 (by decide +kernel) rfl, bg_of 309 (by decide +kernel) rfl⟩
theorem nd_X2_hasSegment : yX2_hasSegment.cls ≠ "java/lang/invoke/MethodHandle" ∧ yX2_hasSegment.cls ≠ "java/lang/invoke/VarHandle" ∧ (parseMethodDescriptor yX2_hasSegment.desc).map (fun d => d.parameters.length) = some 1 := by decide +kernel
theorem cy_X2_hasSegment : Cond.instanceMethod yX2_hasSegment ∈ BIG ∧ Cond.selects RX2 yX2_hasSegment yX2_hasSegment ∈ BIG ∧ Cond.initialized RX2 ∈ BIG ∧ Cond.code yX2_hasSegment cX2_hasSegment 2 (some .boolean) ∈ BIG := ⟨bg_of 257 (by decide +kernel) rfl, bg_of 258 (by decide +kernel) rfl, bg_of 52 (by decide +kernel) rfl, bg_of 259 (by decide +kernel) rfl⟩
theorem nd_X2_hasMark : yX2_hasMark.cls ≠ "java/lang/invoke/MethodHandle" ∧ yX2_hasMark.cls ≠ "java/lang/invoke/VarHandle" ∧ (parseMethodDescriptor yX2_hasMark.desc).map (fun d => d.parameters.length) = some 1 := by decide +kernel
theorem cy_X2_hasMark : Cond.instanceMethod yX2_hasMark ∈ BIG ∧ Cond.selects RX2 yX2_hasMark yX2_hasMark ∈ BIG ∧ Cond.initialized RX2 ∈ BIG ∧ Cond.code yX2_hasMark cX2_hasMark 2 (some .boolean) ∈ BIG := ⟨bg_of 318 (by decide +kernel) rfl, bg_of 319 (by decide +kernel) rfl, bg_of 52 (by decide +kernel) rfl, bg_of 320 (by decide +kernel) rfl⟩
theorem nd_X2_removeMark : yX2_removeMark.cls ≠ "java/lang/invoke/MethodHandle" ∧ yX2_removeMark.cls ≠ "java/lang/invoke/VarHandle" ∧ (parseMethodDescriptor yX2_removeMark.desc).map (fun d => d.parameters.length) = some 1 := by decide +kernel
theorem cy_X2_removeMark : Cond.instanceMethod yX2_removeMark ∈ BIG ∧ Cond.selects RX2 yX2_removeMark yX2_removeMark ∈ BIG ∧ Cond.initialized RX2 ∈ BIG ∧ Cond.code yX2_removeMark cX2_removeMark 4 none ∈ BIG := ⟨bg_of 322 (by decide +kernel) rfl, bg_of 323 (by decide +kernel) rfl, bg_of 52 (by decide +kernel) rfl, bg_of 324 (by decide +kernel) rfl⟩
theorem nd_X2_origin : yX2_origin.cls ≠ "java/lang/invoke/MethodHandle" ∧ yX2_origin.cls ≠ "java/lang/invoke/VarHandle" ∧ (parseMethodDescriptor yX2_origin.desc).map (fun d => d.parameters.length) = some 1 := by decide +kernel
theorem cy_X2_origin : Cond.instanceMethod yX2_origin ∈ BIG ∧ Cond.selects RX2 yX2_origin yX2_origin ∈ BIG ∧ Cond.initialized RX2 ∈ BIG ∧ Cond.code yX2_origin cX2_origin 2 (some .int) ∈ BIG := ⟨bg_of 347 (by decide +kernel) rfl, bg_of 348 (by decide +kernel) rfl, bg_of 52 (by decide +kernel) rfl, bg_of 349 (by decide +kernel) rfl⟩
theorem nd_X2_longAheadOf : yX2_longAheadOf.cls ≠ "java/lang/invoke/MethodHandle" ∧ yX2_longAheadOf.cls ≠ "java/lang/invoke/VarHandle" ∧ (parseMethodDescriptor yX2_longAheadOf.desc).map (fun d => d.parameters.length) = some 1 := by decide +kernel
theorem cy_X2_longAheadOf : Cond.instanceMethod yX2_longAheadOf ∈ BIG ∧ Cond.selects RX2 yX2_longAheadOf yX2_longAheadOf ∈ BIG ∧ Cond.initialized RX2 ∈ BIG ∧ Cond.code yX2_longAheadOf cX2_longAheadOf 4 (some .int) ∈ BIG := ⟨bg_of 352 (by decide +kernel) rfl, bg_of 353 (by decide +kernel) rfl, bg_of 52 (by decide +kernel) rfl, bg_of 354 (by decide +kernel) rfl⟩
theorem nd_X2_dwells : yX2_dwells.cls ≠ "java/lang/invoke/MethodHandle" ∧ yX2_dwells.cls ≠ "java/lang/invoke/VarHandle" ∧ (parseMethodDescriptor yX2_dwells.desc).map (fun d => d.parameters.length) = some 1 := by decide +kernel
theorem cy_X2_dwells : Cond.instanceMethod yX2_dwells ∈ BIG ∧ Cond.selects RX2 yX2_dwells yX2_dwells ∈ BIG ∧ Cond.initialized RX2 ∈ BIG ∧ Cond.code yX2_dwells cX2_dwells 2 (some .boolean) ∈ BIG := ⟨bg_of 356 (by decide +kernel) rfl, bg_of 357 (by decide +kernel) rfl, bg_of 52 (by decide +kernel) rfl, bg_of 358 (by decide +kernel) rfl⟩
theorem nd_X2_countMoving : yX2_countMoving.cls ≠ "java/lang/invoke/MethodHandle" ∧ yX2_countMoving.cls ≠ "java/lang/invoke/VarHandle" ∧ (parseMethodDescriptor yX2_countMoving.desc).map (fun d => d.parameters.length) = some 0 := by decide +kernel
theorem cy_X2_countMoving : Cond.instanceMethod yX2_countMoving ∈ BIG ∧ Cond.selects RX2 yX2_countMoving yX2_countMoving ∈ BIG ∧ Cond.initialized RX2 ∈ BIG ∧ Cond.code yX2_countMoving cX2_countMoving 3 (some .int) ∈ BIG := ⟨bg_of 533 (by decide +kernel) rfl, bg_of 534 (by decide +kernel) rfl, bg_of 52 (by decide +kernel) rfl, bg_of 535 (by decide +kernel) rfl⟩
theorem nd_X2_isWhole : yX2_isWhole.cls ≠ "java/lang/invoke/MethodHandle" ∧ yX2_isWhole.cls ≠ "java/lang/invoke/VarHandle" ∧ (parseMethodDescriptor yX2_isWhole.desc).map (fun d => d.parameters.length) = some 0 := by decide +kernel
theorem cy_X2_isWhole : Cond.instanceMethod yX2_isWhole ∈ BIG ∧ Cond.selects RX2 yX2_isWhole yX2_isWhole ∈ BIG ∧ Cond.initialized RX2 ∈ BIG ∧ Cond.code yX2_isWhole cX2_isWhole 2 (some .boolean) ∈ BIG := ⟨bg_of 369 (by decide +kernel) rfl, bg_of 370 (by decide +kernel) rfl, bg_of 52 (by decide +kernel) rfl, bg_of 371 (by decide +kernel) rfl⟩
theorem nd_X2_copyTo : yX2_copyTo.cls ≠ "java/lang/invoke/MethodHandle" ∧ yX2_copyTo.cls ≠ "java/lang/invoke/VarHandle" ∧ (parseMethodDescriptor yX2_copyTo.desc).map (fun d => d.parameters.length) = some 2 := by decide +kernel
theorem cy_X2_copyTo : Cond.instanceMethod yX2_copyTo ∈ BIG ∧ Cond.selects RX2 yX2_copyTo yX2_copyTo ∈ BIG ∧ Cond.initialized RX2 ∈ BIG ∧ Cond.code yX2_copyTo cX2_copyTo 3 none ∈ BIG := ⟨bg_of 243 (by decide +kernel) rfl, bg_of 244 (by decide +kernel) rfl, bg_of 52 (by decide +kernel) rfl, bg_of 245 (by decide +kernel) rfl⟩
theorem nd_X2_copyFrom : yX2_copyFrom.cls ≠ "java/lang/invoke/MethodHandle" ∧ yX2_copyFrom.cls ≠ "java/lang/invoke/VarHandle" ∧ (parseMethodDescriptor yX2_copyFrom.desc).map (fun d => d.parameters.length) = some 2 := by decide +kernel
theorem cy_X2_copyFrom : Cond.instanceMethod yX2_copyFrom ∈ BIG ∧ Cond.selects RX2 yX2_copyFrom yX2_copyFrom ∈ BIG ∧ Cond.initialized RX2 ∈ BIG ∧ Cond.code yX2_copyFrom cX2_copyFrom 3 none ∈ BIG := ⟨bg_of 339 (by decide +kernel) rfl, bg_of 340 (by decide +kernel) rfl, bg_of 52 (by decide +kernel) rfl, bg_of 341 (by decide +kernel) rfl⟩
theorem nd_X3_init : yX3_init.cls ≠ "java/lang/invoke/MethodHandle" ∧ yX3_init.cls ≠ "java/lang/invoke/VarHandle" ∧ (parseMethodDescriptor yX3_init.desc).map (fun d => d.parameters.length) = some 1 := by decide +kernel
theorem cy_X3_init : Cond.instanceMethod yX3_init ∈ BIG ∧ Cond.initialized yX3_init.cls ∈ BIG ∧ Cond.code yX3_init cX3_init 2 none ∈ BIG := ⟨bg_of 106 (by decide +kernel) rfl, bg_of 55 (by decide +kernel) rfl, bg_of 107 (by decide +kernel) rfl⟩
theorem nd_X3_outdate : yX3_outdate.cls ≠ "java/lang/invoke/MethodHandle" ∧ yX3_outdate.cls ≠ "java/lang/invoke/VarHandle" ∧ (parseMethodDescriptor yX3_outdate.desc).map (fun d => d.parameters.length) = some 0 := by decide +kernel
theorem cy_X3_outdate : Cond.instanceMethod yX3_outdate ∈ BIG ∧ Cond.selects RX3 yX3_outdate yX3_outdate ∈ BIG ∧ Cond.initialized RX3 ∈ BIG ∧ Cond.code yX3_outdate cX3_outdate 1 none ∈ BIG := ⟨bg_of 212 (by decide +kernel) rfl, bg_of 213 (by decide +kernel) rfl, bg_of 55 (by decide +kernel) rfl, bg_of 214 (by decide +kernel) rfl⟩
theorem nd_X3_refresh : yX3_refresh.cls ≠ "java/lang/invoke/MethodHandle" ∧ yX3_refresh.cls ≠ "java/lang/invoke/VarHandle" ∧ (parseMethodDescriptor yX3_refresh.desc).map (fun d => d.parameters.length) = some 0 := by decide +kernel
theorem cy_X3_refresh : Cond.instanceMethod yX3_refresh ∈ BIG ∧ Cond.selects RX3 yX3_refresh yX3_refresh ∈ BIG ∧ Cond.initialized RX3 ∈ BIG ∧ Cond.code yX3_refresh cX3_refresh 2 none ∈ BIG := ⟨bg_of 374 (by decide +kernel) rfl, bg_of 375 (by decide +kernel) rfl, bg_of 55 (by decide +kernel) rfl, bg_of 376 (by decide +kernel) rfl⟩
theorem nd_X3_at : yX3_at.cls ≠ "java/lang/invoke/MethodHandle" ∧ yX3_at.cls ≠ "java/lang/invoke/VarHandle" ∧ (parseMethodDescriptor yX3_at.desc).map (fun d => d.parameters.length) = some 2 := by decide +kernel
theorem cy_X3_at : Cond.instanceMethod yX3_at ∈ BIG ∧ Cond.selects RX3 yX3_at yX3_at ∈ BIG ∧ Cond.initialized RX3 ∈ BIG ∧ Cond.code yX3_at cX3_at 4 (some .long) ∈ BIG := ⟨bg_of 412 (by decide +kernel) rfl, bg_of 413 (by decide +kernel) rfl, bg_of 55 (by decide +kernel) rfl, bg_of 414 (by decide +kernel) rfl⟩
theorem nd_X3_put : yX3_put.cls ≠ "java/lang/invoke/MethodHandle" ∧ yX3_put.cls ≠ "java/lang/invoke/VarHandle" ∧ (parseMethodDescriptor yX3_put.desc).map (fun d => d.parameters.length) = some 3 := by decide +kernel
theorem cy_X3_put : Cond.instanceMethod yX3_put ∈ BIG ∧ Cond.selects RX3 yX3_put yX3_put ∈ BIG ∧ Cond.initialized RX3 ∈ BIG ∧ Cond.code yX3_put cX3_put 5 none ∈ BIG := ⟨bg_of 405 (by decide +kernel) rfl, bg_of 4 (by decide +kernel) rfl, bg_of 55 (by decide +kernel) rfl, bg_of 406 (by decide +kernel) rfl⟩
theorem nd_X3_draw : yX3_draw.cls ≠ "java/lang/invoke/MethodHandle" ∧ yX3_draw.cls ≠ "java/lang/invoke/VarHandle" ∧ (parseMethodDescriptor yX3_draw.desc).map (fun d => d.parameters.length) = some 0 := by decide +kernel
theorem cy_X3_draw : Cond.instanceMethod yX3_draw ∈ BIG ∧ Cond.selects RX3 yX3_draw yX3_draw ∈ BIG ∧ Cond.initialized RX3 ∈ BIG ∧ Cond.code yX3_draw cX3_draw 2 none ∈ BIG := ⟨bg_of 378 (by decide +kernel) rfl, bg_of 379 (by decide +kernel) rfl, bg_of 55 (by decide +kernel) rfl, bg_of 380 (by decide +kernel) rfl⟩
theorem nd_X3_drawBy : yX3_drawBy.cls ≠ "java/lang/invoke/MethodHandle" ∧ yX3_drawBy.cls ≠ "java/lang/invoke/VarHandle" ∧ (parseMethodDescriptor yX3_drawBy.desc).map (fun d => d.parameters.length) = some 2 := by decide +kernel
theorem cy_X3_drawBy : Cond.instanceMethod yX3_drawBy ∈ BIG ∧ Cond.selects RX3 yX3_drawBy yX3_drawBy ∈ BIG ∧ Cond.initialized RX3 ∈ BIG ∧ Cond.code yX3_drawBy cX3_drawBy 8 none ∈ BIG := ⟨bg_of 384 (by decide +kernel) rfl, bg_of 385 (by decide +kernel) rfl, bg_of 55 (by decide +kernel) rfl, bg_of 386 (by decide +kernel) rfl⟩
theorem nd_X3_riseBy : yX3_riseBy.cls ≠ "java/lang/invoke/MethodHandle" ∧ yX3_riseBy.cls ≠ "java/lang/invoke/VarHandle" ∧ (parseMethodDescriptor yX3_riseBy.desc).map (fun d => d.parameters.length) = some 4 := by decide +kernel
theorem cy_X3_riseBy : Cond.static yX3_riseBy ∈ BIG ∧ Cond.initialized yX3_riseBy.cls ∈ BIG ∧ Cond.code yX3_riseBy cX3_riseBy 11 (some .long) ∈ BIG := ⟨bg_of 390 (by decide +kernel) rfl, bg_of 55 (by decide +kernel) rfl, bg_of 391 (by decide +kernel) rfl⟩
theorem nd_X3_measure : yX3_measure.cls ≠ "java/lang/invoke/MethodHandle" ∧ yX3_measure.cls ≠ "java/lang/invoke/VarHandle" ∧ (parseMethodDescriptor yX3_measure.desc).map (fun d => d.parameters.length) = some 1 := by decide +kernel
theorem cy_X3_measure : Cond.instanceMethod yX3_measure ∈ BIG ∧ Cond.selects RX3 yX3_measure yX3_measure ∈ BIG ∧ Cond.initialized RX3 ∈ BIG ∧ Cond.code yX3_measure cX3_measure 18 none ∈ BIG := ⟨bg_of 408 (by decide +kernel) rfl, bg_of 409 (by decide +kernel) rfl, bg_of 55 (by decide +kernel) rfl, bg_of 410 (by decide +kernel) rfl⟩
theorem nd_X3_measureRoller : yX3_measureRoller.cls ≠ "java/lang/invoke/MethodHandle" ∧ yX3_measureRoller.cls ≠ "java/lang/invoke/VarHandle" ∧ (parseMethodDescriptor yX3_measureRoller.desc).map (fun d => d.parameters.length) = some 3 := by decide +kernel
theorem cy_X3_measureRoller : Cond.instanceMethod yX3_measureRoller ∈ BIG ∧ Cond.selects RX3 yX3_measureRoller yX3_measureRoller ∈ BIG ∧ Cond.initialized RX3 ∈ BIG ∧ Cond.code yX3_measureRoller cX3_measureRoller 11 none ∈ BIG := ⟨bg_of 421 (by decide +kernel) rfl, bg_of 5 (by decide +kernel) rfl, bg_of 55 (by decide +kernel) rfl, bg_of 422 (by decide +kernel) rfl⟩
theorem nd_X3_bend : yX3_bend.cls ≠ "java/lang/invoke/MethodHandle" ∧ yX3_bend.cls ≠ "java/lang/invoke/VarHandle" ∧ (parseMethodDescriptor yX3_bend.desc).map (fun d => d.parameters.length) = some 3 := by decide +kernel
theorem cy_X3_bend : Cond.static yX3_bend ∈ BIG ∧ Cond.initialized yX3_bend.cls ∈ BIG ∧ Cond.code yX3_bend cX3_bend 6 (some .long) ∈ BIG := ⟨bg_of 424 (by decide +kernel) rfl, bg_of 55 (by decide +kernel) rfl, bg_of 425 (by decide +kernel) rfl⟩
theorem nd_X3_undercutOf : yX3_undercutOf.cls ≠ "java/lang/invoke/MethodHandle" ∧ yX3_undercutOf.cls ≠ "java/lang/invoke/VarHandle" ∧ (parseMethodDescriptor yX3_undercutOf.desc).map (fun d => d.parameters.length) = some 3 := by decide +kernel
theorem cy_X3_undercutOf : Cond.static yX3_undercutOf ∈ BIG ∧ Cond.initialized yX3_undercutOf.cls ∈ BIG ∧ Cond.code yX3_undercutOf cX3_undercutOf 8 (some .int) ∈ BIG := ⟨bg_of 427 (by decide +kernel) rfl, bg_of 55 (by decide +kernel) rfl, bg_of 428 (by decide +kernel) rfl⟩
theorem nd_X3_rest : yX3_rest.cls ≠ "java/lang/invoke/MethodHandle" ∧ yX3_rest.cls ≠ "java/lang/invoke/VarHandle" ∧ (parseMethodDescriptor yX3_rest.desc).map (fun d => d.parameters.length) = some 1 := by decide +kernel
theorem cy_X3_rest : Cond.instanceMethod yX3_rest ∈ BIG ∧ Cond.selects RX3 yX3_rest yX3_rest ∈ BIG ∧ Cond.initialized RX3 ∈ BIG ∧ Cond.code yX3_rest cX3_rest 2 (some .long) ∈ BIG := ⟨bg_of 437 (by decide +kernel) rfl, bg_of 6 (by decide +kernel) rfl, bg_of 55 (by decide +kernel) rfl, bg_of 438 (by decide +kernel) rfl⟩
theorem nd_X3_greatestSize : yX3_greatestSize.cls ≠ "java/lang/invoke/MethodHandle" ∧ yX3_greatestSize.cls ≠ "java/lang/invoke/VarHandle" ∧ (parseMethodDescriptor yX3_greatestSize.desc).map (fun d => d.parameters.length) = some 1 := by decide +kernel
theorem cy_X3_greatestSize : Cond.instanceMethod yX3_greatestSize ∈ BIG ∧ Cond.selects RX3 yX3_greatestSize yX3_greatestSize ∈ BIG ∧ Cond.initialized RX3 ∈ BIG ∧ Cond.code yX3_greatestSize cX3_greatestSize 5 (some .int) ∈ BIG := ⟨bg_of 448 (by decide +kernel) rfl, bg_of 449 (by decide +kernel) rfl, bg_of 55 (by decide +kernel) rfl, bg_of 450 (by decide +kernel) rfl⟩
theorem nd_X3_firstOfSize : yX3_firstOfSize.cls ≠ "java/lang/invoke/MethodHandle" ∧ yX3_firstOfSize.cls ≠ "java/lang/invoke/VarHandle" ∧ (parseMethodDescriptor yX3_firstOfSize.desc).map (fun d => d.parameters.length) = some 2 := by decide +kernel
theorem cy_X3_firstOfSize : Cond.instanceMethod yX3_firstOfSize ∈ BIG ∧ Cond.selects RX3 yX3_firstOfSize yX3_firstOfSize ∈ BIG ∧ Cond.initialized RX3 ∈ BIG ∧ Cond.code yX3_firstOfSize cX3_firstOfSize 4 (some .int) ∈ BIG := ⟨bg_of 455 (by decide +kernel) rfl, bg_of 456 (by decide +kernel) rfl, bg_of 55 (by decide +kernel) rfl, bg_of 457 (by decide +kernel) rfl⟩
theorem nd_X3_timesOfSize : yX3_timesOfSize.cls ≠ "java/lang/invoke/MethodHandle" ∧ yX3_timesOfSize.cls ≠ "java/lang/invoke/VarHandle" ∧ (parseMethodDescriptor yX3_timesOfSize.desc).map (fun d => d.parameters.length) = some 2 := by decide +kernel
theorem cy_X3_timesOfSize : Cond.instanceMethod yX3_timesOfSize ∈ BIG ∧ Cond.selects RX3 yX3_timesOfSize yX3_timesOfSize ∈ BIG ∧ Cond.initialized RX3 ∈ BIG ∧ Cond.code yX3_timesOfSize cX3_timesOfSize 5 (some .int) ∈ BIG := ⟨bg_of 459 (by decide +kernel) rfl, bg_of 460 (by decide +kernel) rfl, bg_of 55 (by decide +kernel) rfl, bg_of 461 (by decide +kernel) rfl⟩
theorem nd_X3_evenness : yX3_evenness.cls ≠ "java/lang/invoke/MethodHandle" ∧ yX3_evenness.cls ≠ "java/lang/invoke/VarHandle" ∧ (parseMethodDescriptor yX3_evenness.desc).map (fun d => d.parameters.length) = some 1 := by decide +kernel
theorem cy_X3_evenness : Cond.instanceMethod yX3_evenness ∈ BIG ∧ Cond.selects RX3 yX3_evenness yX3_evenness ∈ BIG ∧ Cond.initialized RX3 ∈ BIG ∧ Cond.code yX3_evenness cX3_evenness 4 (some .int) ∈ BIG := ⟨bg_of 467 (by decide +kernel) rfl, bg_of 468 (by decide +kernel) rfl, bg_of 55 (by decide +kernel) rfl, bg_of 469 (by decide +kernel) rfl⟩
theorem nd_X3_isBad : yX3_isBad.cls ≠ "java/lang/invoke/MethodHandle" ∧ yX3_isBad.cls ≠ "java/lang/invoke/VarHandle" ∧ (parseMethodDescriptor yX3_isBad.desc).map (fun d => d.parameters.length) = some 2 := by decide +kernel
theorem cy_X3_isBad : Cond.instanceMethod yX3_isBad ∈ BIG ∧ Cond.selects RX3 yX3_isBad yX3_isBad ∈ BIG ∧ Cond.initialized RX3 ∈ BIG ∧ Cond.code yX3_isBad cX3_isBad 3 (some .boolean) ∈ BIG := ⟨bg_of 488 (by decide +kernel) rfl, bg_of 7 (by decide +kernel) rfl, bg_of 55 (by decide +kernel) rfl, bg_of 489 (by decide +kernel) rfl⟩
theorem nd_X3_countBad : yX3_countBad.cls ≠ "java/lang/invoke/MethodHandle" ∧ yX3_countBad.cls ≠ "java/lang/invoke/VarHandle" ∧ (parseMethodDescriptor yX3_countBad.desc).map (fun d => d.parameters.length) = some 1 := by decide +kernel
theorem cy_X3_countBad : Cond.instanceMethod yX3_countBad ∈ BIG ∧ Cond.selects RX3 yX3_countBad yX3_countBad ∈ BIG ∧ Cond.initialized RX3 ∈ BIG ∧ Cond.code yX3_countBad cX3_countBad 4 (some .int) ∈ BIG := ⟨bg_of 483 (by decide +kernel) rfl, bg_of 484 (by decide +kernel) rfl, bg_of 55 (by decide +kernel) rfl, bg_of 485 (by decide +kernel) rfl⟩
theorem nd_X3_findBad : yX3_findBad.cls ≠ "java/lang/invoke/MethodHandle" ∧ yX3_findBad.cls ≠ "java/lang/invoke/VarHandle" ∧ (parseMethodDescriptor yX3_findBad.desc).map (fun d => d.parameters.length) = some 2 := by decide +kernel
theorem cy_X3_findBad : Cond.instanceMethod yX3_findBad ∈ BIG ∧ Cond.selects RX3 yX3_findBad yX3_findBad ∈ BIG ∧ Cond.initialized RX3 ∈ BIG ∧ Cond.code yX3_findBad cX3_findBad 5 (some .int) ∈ BIG := ⟨bg_of 491 (by decide +kernel) rfl, bg_of 492 (by decide +kernel) rfl, bg_of 55 (by decide +kernel) rfl, bg_of 493 (by decide +kernel) rfl⟩
theorem nd_X3_firstGreatest : yX3_firstGreatest.cls ≠ "java/lang/invoke/MethodHandle" ∧ yX3_firstGreatest.cls ≠ "java/lang/invoke/VarHandle" ∧ (parseMethodDescriptor yX3_firstGreatest.desc).map (fun d => d.parameters.length) = some 1 := by decide +kernel
theorem cy_X3_firstGreatest : Cond.instanceMethod yX3_firstGreatest ∈ BIG ∧ Cond.selects RX3 yX3_firstGreatest yX3_firstGreatest ∈ BIG ∧ Cond.initialized RX3 ∈ BIG ∧ Cond.code yX3_firstGreatest cX3_firstGreatest 4 (some .int) ∈ BIG := ⟨bg_of 499 (by decide +kernel) rfl, bg_of 500 (by decide +kernel) rfl, bg_of 55 (by decide +kernel) rfl, bg_of 501 (by decide +kernel) rfl⟩
theorem nd_X3_firstLeast : yX3_firstLeast.cls ≠ "java/lang/invoke/MethodHandle" ∧ yX3_firstLeast.cls ≠ "java/lang/invoke/VarHandle" ∧ (parseMethodDescriptor yX3_firstLeast.desc).map (fun d => d.parameters.length) = some 1 := by decide +kernel
theorem cy_X3_firstLeast : Cond.instanceMethod yX3_firstLeast ∈ BIG ∧ Cond.selects RX3 yX3_firstLeast yX3_firstLeast ∈ BIG ∧ Cond.initialized RX3 ∈ BIG ∧ Cond.code yX3_firstLeast cX3_firstLeast 4 (some .int) ∈ BIG := ⟨bg_of 503 (by decide +kernel) rfl, bg_of 504 (by decide +kernel) rfl, bg_of 55 (by decide +kernel) rfl, bg_of 505 (by decide +kernel) rfl⟩
theorem nd_X3_liftTogether : yX3_liftTogether.cls ≠ "java/lang/invoke/MethodHandle" ∧ yX3_liftTogether.cls ≠ "java/lang/invoke/VarHandle" ∧ (parseMethodDescriptor yX3_liftTogether.desc).map (fun d => d.parameters.length) = some 0 := by decide +kernel
theorem cy_X3_liftTogether : Cond.instanceMethod yX3_liftTogether ∈ BIG ∧ Cond.selects RX3 yX3_liftTogether yX3_liftTogether ∈ BIG ∧ Cond.initialized RX3 ∈ BIG ∧ Cond.code yX3_liftTogether cX3_liftTogether 3 (some .int) ∈ BIG := ⟨bg_of 507 (by decide +kernel) rfl, bg_of 508 (by decide +kernel) rfl, bg_of 55 (by decide +kernel) rfl, bg_of 509 (by decide +kernel) rfl⟩
theorem nd_X3_missOf : yX3_missOf.cls ≠ "java/lang/invoke/MethodHandle" ∧ yX3_missOf.cls ≠ "java/lang/invoke/VarHandle" ∧ (parseMethodDescriptor yX3_missOf.desc).map (fun d => d.parameters.length) = some 1 := by decide +kernel
theorem cy_X3_missOf : Cond.instanceMethod yX3_missOf ∈ BIG ∧ Cond.selects RX3 yX3_missOf yX3_missOf ∈ BIG ∧ Cond.initialized RX3 ∈ BIG ∧ Cond.code yX3_missOf cX3_missOf 4 (some .int) ∈ BIG := ⟨bg_of 519 (by decide +kernel) rfl, bg_of 520 (by decide +kernel) rfl, bg_of 55 (by decide +kernel) rfl, bg_of 521 (by decide +kernel) rfl⟩
theorem nd_X3_metBits : yX3_metBits.cls ≠ "java/lang/invoke/MethodHandle" ∧ yX3_metBits.cls ≠ "java/lang/invoke/VarHandle" ∧ (parseMethodDescriptor yX3_metBits.desc).map (fun d => d.parameters.length) = some 0 := by decide +kernel
theorem cy_X3_metBits : Cond.instanceMethod yX3_metBits ∈ BIG ∧ Cond.selects RX3 yX3_metBits yX3_metBits ∈ BIG ∧ Cond.initialized RX3 ∈ BIG ∧ Cond.code yX3_metBits cX3_metBits 3 (some .int) ∈ BIG := ⟨bg_of 515 (by decide +kernel) rfl, bg_of 516 (by decide +kernel) rfl, bg_of 55 (by decide +kernel) rfl, bg_of 517 (by decide +kernel) rfl⟩
theorem nd_X3_isGoodAt : yX3_isGoodAt.cls ≠ "java/lang/invoke/MethodHandle" ∧ yX3_isGoodAt.cls ≠ "java/lang/invoke/VarHandle" ∧ (parseMethodDescriptor yX3_isGoodAt.desc).map (fun d => d.parameters.length) = some 1 := by decide +kernel
theorem cy_X3_isGoodAt : Cond.instanceMethod yX3_isGoodAt ∈ BIG ∧ Cond.selects RX3 yX3_isGoodAt yX3_isGoodAt ∈ BIG ∧ Cond.initialized RX3 ∈ BIG ∧ Cond.code yX3_isGoodAt cX3_isGoodAt 3 (some .boolean) ∈ BIG := ⟨bg_of 565 (by decide +kernel) rfl, bg_of 566 (by decide +kernel) rfl, bg_of 55 (by decide +kernel) rfl, bg_of 567 (by decide +kernel) rfl⟩
theorem nd_X3_isGood : yX3_isGood.cls ≠ "java/lang/invoke/MethodHandle" ∧ yX3_isGood.cls ≠ "java/lang/invoke/VarHandle" ∧ (parseMethodDescriptor yX3_isGood.desc).map (fun d => d.parameters.length) = some 0 := by decide +kernel
theorem cy_X3_isGood : Cond.instanceMethod yX3_isGood ∈ BIG ∧ Cond.selects RX3 yX3_isGood yX3_isGood ∈ BIG ∧ Cond.initialized RX3 ∈ BIG ∧ Cond.code yX3_isGood cX3_isGood 2 (some .boolean) ∈ BIG := ⟨bg_of 646 (by decide +kernel) rfl, bg_of 647 (by decide +kernel) rfl, bg_of 55 (by decide +kernel) rfl, bg_of 648 (by decide +kernel) rfl⟩
theorem nd_X3_greatestRoller : yX3_greatestRoller.cls ≠ "java/lang/invoke/MethodHandle" ∧ yX3_greatestRoller.cls ≠ "java/lang/invoke/VarHandle" ∧ (parseMethodDescriptor yX3_greatestRoller.desc).map (fun d => d.parameters.length) = some 0 := by decide +kernel
theorem cy_X3_greatestRoller : Cond.instanceMethod yX3_greatestRoller ∈ BIG ∧ Cond.selects RX3 yX3_greatestRoller yX3_greatestRoller ∈ BIG ∧ Cond.initialized RX3 ∈ BIG ∧ Cond.code yX3_greatestRoller cX3_greatestRoller 3 (some .int) ∈ BIG := ⟨bg_of 607 (by decide +kernel) rfl, bg_of 608 (by decide +kernel) rfl, bg_of 55 (by decide +kernel) rfl, bg_of 609 (by decide +kernel) rfl⟩
theorem nd_X3_isCalm : yX3_isCalm.cls ≠ "java/lang/invoke/MethodHandle" ∧ yX3_isCalm.cls ≠ "java/lang/invoke/VarHandle" ∧ (parseMethodDescriptor yX3_isCalm.desc).map (fun d => d.parameters.length) = some 1 := by decide +kernel
theorem cy_X3_isCalm : Cond.instanceMethod yX3_isCalm ∈ BIG ∧ Cond.selects RX3 yX3_isCalm yX3_isCalm ∈ BIG ∧ Cond.initialized RX3 ∈ BIG ∧ Cond.code yX3_isCalm cX3_isCalm 4 (some .boolean) ∈ BIG := ⟨bg_of 615 (by decide +kernel) rfl, bg_of 15 (by decide +kernel) rfl, bg_of 55 (by decide +kernel) rfl, bg_of 616 (by decide +kernel) rfl⟩
theorem nd_X3_lowerToClear : yX3_lowerToClear.cls ≠ "java/lang/invoke/MethodHandle" ∧ yX3_lowerToClear.cls ≠ "java/lang/invoke/VarHandle" ∧ (parseMethodDescriptor yX3_lowerToClear.desc).map (fun d => d.parameters.length) = some 2 := by decide +kernel
theorem cy_X3_lowerToClear : Cond.instanceMethod yX3_lowerToClear ∈ BIG ∧ Cond.selects RX3 yX3_lowerToClear yX3_lowerToClear ∈ BIG ∧ Cond.initialized RX3 ∈ BIG ∧ Cond.code yX3_lowerToClear cX3_lowerToClear 4 (some .int) ∈ BIG := ⟨bg_of 619 (by decide +kernel) rfl, bg_of 16 (by decide +kernel) rfl, bg_of 55 (by decide +kernel) rfl, bg_of 620 (by decide +kernel) rfl⟩
theorem nd_X3_clearUpTo : yX3_clearUpTo.cls ≠ "java/lang/invoke/MethodHandle" ∧ yX3_clearUpTo.cls ≠ "java/lang/invoke/VarHandle" ∧ (parseMethodDescriptor yX3_clearUpTo.desc).map (fun d => d.parameters.length) = some 2 := by decide +kernel
theorem cy_X3_clearUpTo : Cond.instanceMethod yX3_clearUpTo ∈ BIG ∧ Cond.selects RX3 yX3_clearUpTo yX3_clearUpTo ∈ BIG ∧ Cond.initialized RX3 ∈ BIG ∧ Cond.code yX3_clearUpTo cX3_clearUpTo 4 (some .int) ∈ BIG := ⟨bg_of 627 (by decide +kernel) rfl, bg_of 18 (by decide +kernel) rfl, bg_of 55 (by decide +kernel) rfl, bg_of 628 (by decide +kernel) rfl⟩
theorem nd_X3_undercutBy : yX3_undercutBy.cls ≠ "java/lang/invoke/MethodHandle" ∧ yX3_undercutBy.cls ≠ "java/lang/invoke/VarHandle" ∧ (parseMethodDescriptor yX3_undercutBy.desc).map (fun d => d.parameters.length) = some 2 := by decide +kernel
theorem cy_X3_undercutBy : Cond.instanceMethod yX3_undercutBy ∈ BIG ∧ Cond.selects RX3 yX3_undercutBy yX3_undercutBy ∈ BIG ∧ Cond.initialized RX3 ∈ BIG ∧ Cond.code yX3_undercutBy cX3_undercutBy 7 (some .int) ∈ BIG := ⟨bg_of 623 (by decide +kernel) rfl, bg_of 17 (by decide +kernel) rfl, bg_of 55 (by decide +kernel) rfl, bg_of 624 (by decide +kernel) rfl⟩
theorem nd_X3_leastBase : yX3_leastBase.cls ≠ "java/lang/invoke/MethodHandle" ∧ yX3_leastBase.cls ≠ "java/lang/invoke/VarHandle" ∧ (parseMethodDescriptor yX3_leastBase.desc).map (fun d => d.parameters.length) = some 0 := by decide +kernel
theorem cy_X3_leastBase : Cond.instanceMethod yX3_leastBase ∈ BIG ∧ Cond.selects RX3 yX3_leastBase yX3_leastBase ∈ BIG ∧ Cond.initialized RX3 ∈ BIG ∧ Cond.code yX3_leastBase cX3_leastBase 8 (some .int) ∈ BIG := ⟨bg_of 630 (by decide +kernel) rfl, bg_of 631 (by decide +kernel) rfl, bg_of 55 (by decide +kernel) rfl, bg_of 632 (by decide +kernel) rfl⟩
theorem nd_X3_greatestSpeed : yX3_greatestSpeed.cls ≠ "java/lang/invoke/MethodHandle" ∧ yX3_greatestSpeed.cls ≠ "java/lang/invoke/VarHandle" ∧ (parseMethodDescriptor yX3_greatestSpeed.desc).map (fun d => d.parameters.length) = some 0 := by decide +kernel
theorem cy_X3_greatestSpeed : Cond.instanceMethod yX3_greatestSpeed ∈ BIG ∧ Cond.selects RX3 yX3_greatestSpeed yX3_greatestSpeed ∈ BIG ∧ Cond.initialized RX3 ∈ BIG ∧ Cond.code yX3_greatestSpeed cX3_greatestSpeed 7 (some .int) ∈ BIG := ⟨bg_of 635 (by decide +kernel) rfl, bg_of 636 (by decide +kernel) rfl, bg_of 55 (by decide +kernel) rfl, bg_of 637 (by decide +kernel) rfl⟩
theorem nd_X4_init : yX4_init.cls ≠ "java/lang/invoke/MethodHandle" ∧ yX4_init.cls ≠ "java/lang/invoke/VarHandle" ∧ (parseMethodDescriptor yX4_init.desc).map (fun d => d.parameters.length) = some 0 := by decide +kernel
theorem cy_X4_init : Cond.instanceMethod yX4_init ∈ BIG ∧ Cond.initialized yX4_init.cls ∈ BIG ∧ Cond.code yX4_init cX4_init 2 none ∈ BIG := ⟨bg_of 66 (by decide +kernel) rfl, bg_of 51 (by decide +kernel) rfl, bg_of 67 (by decide +kernel) rfl⟩
theorem nd_X4_steps : yX4_steps.cls ≠ "java/lang/invoke/MethodHandle" ∧ yX4_steps.cls ≠ "java/lang/invoke/VarHandle" ∧ (parseMethodDescriptor yX4_steps.desc).map (fun d => d.parameters.length) = some 1 := by decide +kernel
theorem cy_X4_steps : Cond.instanceMethod yX4_steps ∈ BIG ∧ Cond.selects RX4 yX4_steps yX4_steps ∈ BIG ∧ Cond.initialized RX4 ∈ BIG ∧ Cond.code yX4_steps cX4_steps 3 (some .int) ∈ BIG := ⟨bg_of 186 (by decide +kernel) rfl, bg_of 187 (by decide +kernel) rfl, bg_of 51 (by decide +kernel) rfl, bg_of 188 (by decide +kernel) rfl⟩
theorem nd_X4_segment : yX4_segment.cls ≠ "java/lang/invoke/MethodHandle" ∧ yX4_segment.cls ≠ "java/lang/invoke/VarHandle" ∧ (parseMethodDescriptor yX4_segment.desc).map (fun d => d.parameters.length) = some 3 := by decide +kernel
theorem cy_X4_segment : Cond.instanceMethod yX4_segment ∈ BIG ∧ Cond.selects RX4 yX4_segment yX4_segment ∈ BIG ∧ Cond.initialized RX4 ∈ BIG ∧ Cond.code yX4_segment cX4_segment 5 (some .int) ∈ BIG := ⟨bg_of 224 (by decide +kernel) rfl, bg_of 225 (by decide +kernel) rfl, bg_of 51 (by decide +kernel) rfl, bg_of 226 (by decide +kernel) rfl⟩
theorem nd_X4_alter : yX4_alter.cls ≠ "java/lang/invoke/MethodHandle" ∧ yX4_alter.cls ≠ "java/lang/invoke/VarHandle" ∧ (parseMethodDescriptor yX4_alter.desc).map (fun d => d.parameters.length) = some 3 := by decide +kernel
theorem cy_X4_alter : Cond.instanceMethod yX4_alter ∈ BIG ∧ Cond.selects RX4 yX4_alter yX4_alter ∈ BIG ∧ Cond.initialized RX4 ∈ BIG ∧ Cond.code yX4_alter cX4_alter 4 (some .int) ∈ BIG := ⟨bg_of 253 (by decide +kernel) rfl, bg_of 254 (by decide +kernel) rfl, bg_of 51 (by decide +kernel) rfl, bg_of 255 (by decide +kernel) rfl⟩
theorem nd_X4_drop : yX4_drop.cls ≠ "java/lang/invoke/MethodHandle" ∧ yX4_drop.cls ≠ "java/lang/invoke/VarHandle" ∧ (parseMethodDescriptor yX4_drop.desc).map (fun d => d.parameters.length) = some 0 := by decide +kernel
theorem cy_X4_drop : Cond.instanceMethod yX4_drop ∈ BIG ∧ Cond.selects RX4 yX4_drop yX4_drop ∈ BIG ∧ Cond.initialized RX4 ∈ BIG ∧ Cond.code yX4_drop cX4_drop 2 (some .int) ∈ BIG := ⟨bg_of 267 (by decide +kernel) rfl, bg_of 268 (by decide +kernel) rfl, bg_of 51 (by decide +kernel) rfl, bg_of 269 (by decide +kernel) rfl⟩
theorem nd_X4_start : yX4_start.cls ≠ "java/lang/invoke/MethodHandle" ∧ yX4_start.cls ≠ "java/lang/invoke/VarHandle" ∧ (parseMethodDescriptor yX4_start.desc).map (fun d => d.parameters.length) = some 1 := by decide +kernel
theorem cy_X4_start : Cond.instanceMethod yX4_start ∈ BIG ∧ Cond.selects RX4 yX4_start yX4_start ∈ BIG ∧ Cond.initialized RX4 ∈ BIG ∧ Cond.code yX4_start cX4_start 2 (some .int) ∈ BIG := ⟨bg_of 271 (by decide +kernel) rfl, bg_of 272 (by decide +kernel) rfl, bg_of 51 (by decide +kernel) rfl, bg_of 273 (by decide +kernel) rfl⟩
theorem nd_X4_base : yX4_base.cls ≠ "java/lang/invoke/MethodHandle" ∧ yX4_base.cls ≠ "java/lang/invoke/VarHandle" ∧ (parseMethodDescriptor yX4_base.desc).map (fun d => d.parameters.length) = some 1 := by decide +kernel
theorem cy_X4_base : Cond.instanceMethod yX4_base ∈ BIG ∧ Cond.selects RX4 yX4_base yX4_base ∈ BIG ∧ Cond.initialized RX4 ∈ BIG ∧ Cond.code yX4_base cX4_base 2 (some .int) ∈ BIG := ⟨bg_of 279 (by decide +kernel) rfl, bg_of 280 (by decide +kernel) rfl, bg_of 51 (by decide +kernel) rfl, bg_of 281 (by decide +kernel) rfl⟩
theorem nd_X4_roller : yX4_roller.cls ≠ "java/lang/invoke/MethodHandle" ∧ yX4_roller.cls ≠ "java/lang/invoke/VarHandle" ∧ (parseMethodDescriptor yX4_roller.desc).map (fun d => d.parameters.length) = some 1 := by decide +kernel
theorem cy_X4_roller : Cond.instanceMethod yX4_roller ∈ BIG ∧ Cond.selects RX4 yX4_roller yX4_roller ∈ BIG ∧ Cond.initialized RX4 ∈ BIG ∧ Cond.code yX4_roller cX4_roller 2 (some .int) ∈ BIG := ⟨bg_of 283 (by decide +kernel) rfl, bg_of 284 (by decide +kernel) rfl, bg_of 51 (by decide +kernel) rfl, bg_of 285 (by decide +kernel) rfl⟩
theorem nd_X4_spring : yX4_spring.cls ≠ "java/lang/invoke/MethodHandle" ∧ yX4_spring.cls ≠ "java/lang/invoke/VarHandle" ∧ (parseMethodDescriptor yX4_spring.desc).map (fun d => d.parameters.length) = some 3 := by decide +kernel
theorem cy_X4_spring : Cond.instanceMethod yX4_spring ∈ BIG ∧ Cond.selects RX4 yX4_spring yX4_spring ∈ BIG ∧ Cond.initialized RX4 ∈ BIG ∧ Cond.code yX4_spring cX4_spring 4 (some .boolean) ∈ BIG := ⟨bg_of 287 (by decide +kernel) rfl, bg_of 288 (by decide +kernel) rfl, bg_of 51 (by decide +kernel) rfl, bg_of 289 (by decide +kernel) rfl⟩
theorem nd_X4_speed : yX4_speed.cls ≠ "java/lang/invoke/MethodHandle" ∧ yX4_speed.cls ≠ "java/lang/invoke/VarHandle" ∧ (parseMethodDescriptor yX4_speed.desc).map (fun d => d.parameters.length) = some 1 := by decide +kernel
theorem cy_X4_speed : Cond.instanceMethod yX4_speed ∈ BIG ∧ Cond.selects RX4 yX4_speed yX4_speed ∈ BIG ∧ Cond.initialized RX4 ∈ BIG ∧ Cond.code yX4_speed cX4_speed 2 (some .int) ∈ BIG := ⟨bg_of 291 (by decide +kernel) rfl, bg_of 292 (by decide +kernel) rfl, bg_of 51 (by decide +kernel) rfl, bg_of 293 (by decide +kernel) rfl⟩
theorem nd_X4_steepest : yX4_steepest.cls ≠ "java/lang/invoke/MethodHandle" ∧ yX4_steepest.cls ≠ "java/lang/invoke/VarHandle" ∧ (parseMethodDescriptor yX4_steepest.desc).map (fun d => d.parameters.length) = some 1 := by decide +kernel
theorem cy_X4_steepest : Cond.instanceMethod yX4_steepest ∈ BIG ∧ Cond.selects RX4 yX4_steepest yX4_steepest ∈ BIG ∧ Cond.initialized RX4 ∈ BIG ∧ Cond.code yX4_steepest cX4_steepest 2 (some .int) ∈ BIG := ⟨bg_of 295 (by decide +kernel) rfl, bg_of 296 (by decide +kernel) rfl, bg_of 51 (by decide +kernel) rfl, bg_of 297 (by decide +kernel) rfl⟩
theorem nd_X4_slack : yX4_slack.cls ≠ "java/lang/invoke/MethodHandle" ∧ yX4_slack.cls ≠ "java/lang/invoke/VarHandle" ∧ (parseMethodDescriptor yX4_slack.desc).map (fun d => d.parameters.length) = some 1 := by decide +kernel
theorem cy_X4_slack : Cond.instanceMethod yX4_slack ∈ BIG ∧ Cond.selects RX4 yX4_slack yX4_slack ∈ BIG ∧ Cond.initialized RX4 ∈ BIG ∧ Cond.code yX4_slack cX4_slack 2 (some .int) ∈ BIG := ⟨bg_of 299 (by decide +kernel) rfl, bg_of 300 (by decide +kernel) rfl, bg_of 51 (by decide +kernel) rfl, bg_of 301 (by decide +kernel) rfl⟩
theorem nd_X4_mark : yX4_mark.cls ≠ "java/lang/invoke/MethodHandle" ∧ yX4_mark.cls ≠ "java/lang/invoke/VarHandle" ∧ (parseMethodDescriptor yX4_mark.desc).map (fun d => d.parameters.length) = some 3 := by decide +kernel
theorem cy_X4_mark : Cond.instanceMethod yX4_mark ∈ BIG ∧ Cond.selects RX4 yX4_mark yX4_mark ∈ BIG ∧ Cond.initialized RX4 ∈ BIG ∧ Cond.code yX4_mark cX4_mark 5 (some .int) ∈ BIG := ⟨bg_of 303 (by decide +kernel) rfl, bg_of 304 (by decide +kernel) rfl, bg_of 51 (by decide +kernel) rfl, bg_of 305 (by decide +kernel) rfl⟩
theorem nd_X4_unmark : yX4_unmark.cls ≠ "java/lang/invoke/MethodHandle" ∧ yX4_unmark.cls ≠ "java/lang/invoke/VarHandle" ∧ (parseMethodDescriptor yX4_unmark.desc).map (fun d => d.parameters.length) = some 1 := by decide +kernel
theorem cy_X4_unmark : Cond.instanceMethod yX4_unmark ∈ BIG ∧ Cond.selects RX4 yX4_unmark yX4_unmark ∈ BIG ∧ Cond.initialized RX4 ∈ BIG ∧ Cond.code yX4_unmark cX4_unmark 2 (some .boolean) ∈ BIG := ⟨bg_of 314 (by decide +kernel) rfl, bg_of 315 (by decide +kernel) rfl, bg_of 51 (by decide +kernel) rfl, bg_of 316 (by decide +kernel) rfl⟩
theorem nd_X4_back : yX4_back.cls ≠ "java/lang/invoke/MethodHandle" ∧ yX4_back.cls ≠ "java/lang/invoke/VarHandle" ∧ (parseMethodDescriptor yX4_back.desc).map (fun d => d.parameters.length) = some 0 := by decide +kernel
theorem cy_X4_back : Cond.instanceMethod yX4_back ∈ BIG ∧ Cond.selects RX4 yX4_back yX4_back ∈ BIG ∧ Cond.initialized RX4 ∈ BIG ∧ Cond.code yX4_back cX4_back 1 (some .boolean) ∈ BIG := ⟨bg_of 327 (by decide +kernel) rfl, bg_of 328 (by decide +kernel) rfl, bg_of 51 (by decide +kernel) rfl, bg_of 329 (by decide +kernel) rfl⟩
theorem nd_X4_of : yX4_of.cls ≠ "java/lang/invoke/MethodHandle" ∧ yX4_of.cls ≠ "java/lang/invoke/VarHandle" ∧ (parseMethodDescriptor yX4_of.desc).map (fun d => d.parameters.length) = some 2 := by decide +kernel
theorem cy_X4_of : Cond.instanceMethod yX4_of ∈ BIG ∧ Cond.selects RX4 yX4_of yX4_of ∈ BIG ∧ Cond.initialized RX4 ∈ BIG ∧ Cond.code yX4_of cX4_of 3 (some .int) ∈ BIG := ⟨bg_of 343 (by decide +kernel) rfl, bg_of 344 (by decide +kernel) rfl, bg_of 51 (by decide +kernel) rfl, bg_of 345 (by decide +kernel) rfl⟩
theorem nd_X4_lift : yX4_lift.cls ≠ "java/lang/invoke/MethodHandle" ∧ yX4_lift.cls ≠ "java/lang/invoke/VarHandle" ∧ (parseMethodDescriptor yX4_lift.desc).map (fun d => d.parameters.length) = some 1 := by decide +kernel
theorem cy_X4_lift : Cond.instanceMethod yX4_lift ∈ BIG ∧ Cond.selects RX4 yX4_lift yX4_lift ∈ BIG ∧ Cond.initialized RX4 ∈ BIG ∧ Cond.code yX4_lift cX4_lift 2 (some .int) ∈ BIG := ⟨bg_of 361 (by decide +kernel) rfl, bg_of 362 (by decide +kernel) rfl, bg_of 51 (by decide +kernel) rfl, bg_of 363 (by decide +kernel) rfl⟩
theorem nd_X4_diff : yX4_diff.cls ≠ "java/lang/invoke/MethodHandle" ∧ yX4_diff.cls ≠ "java/lang/invoke/VarHandle" ∧ (parseMethodDescriptor yX4_diff.desc).map (fun d => d.parameters.length) = some 2 := by decide +kernel
theorem cy_X4_diff : Cond.instanceMethod yX4_diff ∈ BIG ∧ Cond.selects RX4 yX4_diff yX4_diff ∈ BIG ∧ Cond.initialized RX4 ∈ BIG ∧ Cond.code yX4_diff cX4_diff 3 (some .int) ∈ BIG := ⟨bg_of 655 (by decide +kernel) rfl, bg_of 656 (by decide +kernel) rfl, bg_of 51 (by decide +kernel) rfl, bg_of 657 (by decide +kernel) rfl⟩
theorem nd_X4_most : yX4_most.cls ≠ "java/lang/invoke/MethodHandle" ∧ yX4_most.cls ≠ "java/lang/invoke/VarHandle" ∧ (parseMethodDescriptor yX4_most.desc).map (fun d => d.parameters.length) = some 2 := by decide +kernel
theorem cy_X4_most : Cond.instanceMethod yX4_most ∈ BIG ∧ Cond.selects RX4 yX4_most yX4_most ∈ BIG ∧ Cond.initialized RX4 ∈ BIG ∧ Cond.code yX4_most cX4_most 3 (some .int) ∈ BIG := ⟨bg_of 441 (by decide +kernel) rfl, bg_of 442 (by decide +kernel) rfl, bg_of 51 (by decide +kernel) rfl, bg_of 443 (by decide +kernel) rfl⟩
theorem nd_X4_border : yX4_border.cls ≠ "java/lang/invoke/MethodHandle" ∧ yX4_border.cls ≠ "java/lang/invoke/VarHandle" ∧ (parseMethodDescriptor yX4_border.desc).map (fun d => d.parameters.length) = some 1 := by decide +kernel
theorem cy_X4_border : Cond.instanceMethod yX4_border ∈ BIG ∧ Cond.selects RX4 yX4_border yX4_border ∈ BIG ∧ Cond.initialized RX4 ∈ BIG ∧ Cond.code yX4_border cX4_border 2 (some .int) ∈ BIG := ⟨bg_of 463 (by decide +kernel) rfl, bg_of 464 (by decide +kernel) rfl, bg_of 51 (by decide +kernel) rfl, bg_of 465 (by decide +kernel) rfl⟩
theorem nd_X4_shape : yX4_shape.cls ≠ "java/lang/invoke/MethodHandle" ∧ yX4_shape.cls ≠ "java/lang/invoke/VarHandle" ∧ (parseMethodDescriptor yX4_shape.desc).map (fun d => d.parameters.length) = some 2 := by decide +kernel
theorem cy_X4_shape : Cond.instanceMethod yX4_shape ∈ BIG ∧ Cond.selects RX4 yX4_shape yX4_shape ∈ BIG ∧ Cond.initialized RX4 ∈ BIG ∧ Cond.code yX4_shape cX4_shape 3 (some .long) ∈ BIG := ⟨bg_of 723 (by decide +kernel) rfl, bg_of 724 (by decide +kernel) rfl, bg_of 51 (by decide +kernel) rfl, bg_of 725 (by decide +kernel) rfl⟩
theorem nd_X4_undercut : yX4_undercut.cls ≠ "java/lang/invoke/MethodHandle" ∧ yX4_undercut.cls ≠ "java/lang/invoke/VarHandle" ∧ (parseMethodDescriptor yX4_undercut.desc).map (fun d => d.parameters.length) = some 1 := by decide +kernel
theorem cy_X4_undercut : Cond.instanceMethod yX4_undercut ∈ BIG ∧ Cond.selects RX4 yX4_undercut yX4_undercut ∈ BIG ∧ Cond.initialized RX4 ∈ BIG ∧ Cond.code yX4_undercut cX4_undercut 2 (some .int) ∈ BIG := ⟨bg_of 471 (by decide +kernel) rfl, bg_of 472 (by decide +kernel) rfl, bg_of 51 (by decide +kernel) rfl, bg_of 473 (by decide +kernel) rfl⟩
theorem nd_X4_press : yX4_press.cls ≠ "java/lang/invoke/MethodHandle" ∧ yX4_press.cls ≠ "java/lang/invoke/VarHandle" ∧ (parseMethodDescriptor yX4_press.desc).map (fun d => d.parameters.length) = some 1 := by decide +kernel
theorem cy_X4_press : Cond.instanceMethod yX4_press ∈ BIG ∧ Cond.selects RX4 yX4_press yX4_press ∈ BIG ∧ Cond.initialized RX4 ∈ BIG ∧ Cond.code yX4_press cX4_press 2 (some .int) ∈ BIG := ⟨bg_of 475 (by decide +kernel) rfl, bg_of 476 (by decide +kernel) rfl, bg_of 51 (by decide +kernel) rfl, bg_of 477 (by decide +kernel) rfl⟩
theorem nd_X4_force : yX4_force.cls ≠ "java/lang/invoke/MethodHandle" ∧ yX4_force.cls ≠ "java/lang/invoke/VarHandle" ∧ (parseMethodDescriptor yX4_force.desc).map (fun d => d.parameters.length) = some 1 := by decide +kernel
theorem cy_X4_force : Cond.instanceMethod yX4_force ∈ BIG ∧ Cond.selects RX4 yX4_force yX4_force ∈ BIG ∧ Cond.initialized RX4 ∈ BIG ∧ Cond.code yX4_force cX4_force 2 (some .long) ∈ BIG := ⟨bg_of 730 (by decide +kernel) rfl, bg_of 731 (by decide +kernel) rfl, bg_of 51 (by decide +kernel) rfl, bg_of 732 (by decide +kernel) rfl⟩
theorem nd_X4_bad : yX4_bad.cls ≠ "java/lang/invoke/MethodHandle" ∧ yX4_bad.cls ≠ "java/lang/invoke/VarHandle" ∧ (parseMethodDescriptor yX4_bad.desc).map (fun d => d.parameters.length) = some 2 := by decide +kernel
theorem cy_X4_bad : Cond.instanceMethod yX4_bad ∈ BIG ∧ Cond.selects RX4 yX4_bad yX4_bad ∈ BIG ∧ Cond.initialized RX4 ∈ BIG ∧ Cond.code yX4_bad cX4_bad 3 (some .int) ∈ BIG := ⟨bg_of 479 (by decide +kernel) rfl, bg_of 480 (by decide +kernel) rfl, bg_of 51 (by decide +kernel) rfl, bg_of 481 (by decide +kernel) rfl⟩
theorem nd_X4_top : yX4_top.cls ≠ "java/lang/invoke/MethodHandle" ∧ yX4_top.cls ≠ "java/lang/invoke/VarHandle" ∧ (parseMethodDescriptor yX4_top.desc).map (fun d => d.parameters.length) = some 1 := by decide +kernel
theorem cy_X4_top : Cond.instanceMethod yX4_top ∈ BIG ∧ Cond.selects RX4 yX4_top yX4_top ∈ BIG ∧ Cond.initialized RX4 ∈ BIG ∧ Cond.code yX4_top cX4_top 2 (some .int) ∈ BIG := ⟨bg_of 495 (by decide +kernel) rfl, bg_of 496 (by decide +kernel) rfl, bg_of 51 (by decide +kernel) rfl, bg_of 497 (by decide +kernel) rfl⟩
theorem nd_X4_met : yX4_met.cls ≠ "java/lang/invoke/MethodHandle" ∧ yX4_met.cls ≠ "java/lang/invoke/VarHandle" ∧ (parseMethodDescriptor yX4_met.desc).map (fun d => d.parameters.length) = some 0 := by decide +kernel
theorem cy_X4_met : Cond.instanceMethod yX4_met ∈ BIG ∧ Cond.selects RX4 yX4_met yX4_met ∈ BIG ∧ Cond.initialized RX4 ∈ BIG ∧ Cond.code yX4_met cX4_met 1 (some .int) ∈ BIG := ⟨bg_of 511 (by decide +kernel) rfl, bg_of 512 (by decide +kernel) rfl, bg_of 51 (by decide +kernel) rfl, bg_of 513 (by decide +kernel) rfl⟩
theorem nd_X4_marked : yX4_marked.cls ≠ "java/lang/invoke/MethodHandle" ∧ yX4_marked.cls ≠ "java/lang/invoke/VarHandle" ∧ (parseMethodDescriptor yX4_marked.desc).map (fun d => d.parameters.length) = some 2 := by decide +kernel
theorem cy_X4_marked : Cond.instanceMethod yX4_marked ∈ BIG ∧ Cond.selects RX4 yX4_marked yX4_marked ∈ BIG ∧ Cond.initialized RX4 ∈ BIG ∧ Cond.code yX4_marked cX4_marked 3 (some .int) ∈ BIG := ⟨bg_of 524 (by decide +kernel) rfl, bg_of 525 (by decide +kernel) rfl, bg_of 51 (by decide +kernel) rfl, bg_of 526 (by decide +kernel) rfl⟩
theorem nd_X4_best : yX4_best.cls ≠ "java/lang/invoke/MethodHandle" ∧ yX4_best.cls ≠ "java/lang/invoke/VarHandle" ∧ (parseMethodDescriptor yX4_best.desc).map (fun d => d.parameters.length) = some 1 := by decide +kernel
theorem cy_X4_best : Cond.instanceMethod yX4_best ∈ BIG ∧ Cond.selects RX4 yX4_best yX4_best ∈ BIG ∧ Cond.initialized RX4 ∈ BIG ∧ Cond.code yX4_best cX4_best 2 (some .int) ∈ BIG := ⟨bg_of 529 (by decide +kernel) rfl, bg_of 530 (by decide +kernel) rfl, bg_of 51 (by decide +kernel) rfl, bg_of 531 (by decide +kernel) rfl⟩
theorem nd_X4_limit : yX4_limit.cls ≠ "java/lang/invoke/MethodHandle" ∧ yX4_limit.cls ≠ "java/lang/invoke/VarHandle" ∧ (parseMethodDescriptor yX4_limit.desc).map (fun d => d.parameters.length) = some 1 := by decide +kernel
theorem cy_X4_limit : Cond.instanceMethod yX4_limit ∈ BIG ∧ Cond.selects RX4 yX4_limit yX4_limit ∈ BIG ∧ Cond.initialized RX4 ∈ BIG ∧ Cond.code yX4_limit cX4_limit 2 (some .int) ∈ BIG := ⟨bg_of 603 (by decide +kernel) rfl, bg_of 604 (by decide +kernel) rfl, bg_of 51 (by decide +kernel) rfl, bg_of 605 (by decide +kernel) rfl⟩
theorem nd_X4_count : yX4_count.cls ≠ "java/lang/invoke/MethodHandle" ∧ yX4_count.cls ≠ "java/lang/invoke/VarHandle" ∧ (parseMethodDescriptor yX4_count.desc).map (fun d => d.parameters.length) = some 1 := by decide +kernel
theorem cy_X4_count : Cond.instanceMethod yX4_count ∈ BIG ∧ Cond.selects RX4 yX4_count yX4_count ∈ BIG ∧ Cond.initialized RX4 ∈ BIG ∧ Cond.code yX4_count cX4_count 2 (some .int) ∈ BIG := ⟨bg_of 642 (by decide +kernel) rfl, bg_of 643 (by decide +kernel) rfl, bg_of 51 (by decide +kernel) rfl, bg_of 644 (by decide +kernel) rfl⟩
theorem nd_X4_change : yX4_change.cls ≠ "java/lang/invoke/MethodHandle" ∧ yX4_change.cls ≠ "java/lang/invoke/VarHandle" ∧ (parseMethodDescriptor yX4_change.desc).map (fun d => d.parameters.length) = some 2 := by decide +kernel
theorem cy_X4_change : Cond.instanceMethod yX4_change ∈ BIG ∧ Cond.selects RX4 yX4_change yX4_change ∈ BIG ∧ Cond.initialized RX4 ∈ BIG ∧ Cond.code yX4_change cX4_change 3 (some .int) ∈ BIG := ⟨bg_of 276 (by decide +kernel) rfl, bg_of 2 (by decide +kernel) rfl, bg_of 51 (by decide +kernel) rfl, bg_of 277 (by decide +kernel) rfl⟩
theorem nd_X4_remember : yX4_remember.cls ≠ "java/lang/invoke/MethodHandle" ∧ yX4_remember.cls ≠ "java/lang/invoke/VarHandle" ∧ (parseMethodDescriptor yX4_remember.desc).map (fun d => d.parameters.length) = some 0 := by decide +kernel
theorem cy_X4_remember : Cond.instanceMethod yX4_remember ∈ BIG ∧ Cond.selects RX4 yX4_remember yX4_remember ∈ BIG ∧ Cond.initialized RX4 ∈ BIG ∧ Cond.code yX4_remember cX4_remember 1 none ∈ BIG := ⟨bg_of 236 (by decide +kernel) rfl, bg_of 1 (by decide +kernel) rfl, bg_of 51 (by decide +kernel) rfl, bg_of 237 (by decide +kernel) rfl⟩
theorem nd_X4_outdate : yX4_outdate.cls ≠ "java/lang/invoke/MethodHandle" ∧ yX4_outdate.cls ≠ "java/lang/invoke/VarHandle" ∧ (parseMethodDescriptor yX4_outdate.desc).map (fun d => d.parameters.length) = some 0 := by decide +kernel
theorem cy_X4_outdate : Cond.instanceMethod yX4_outdate ∈ BIG ∧ Cond.selects RX4 yX4_outdate yX4_outdate ∈ BIG ∧ Cond.initialized RX4 ∈ BIG ∧ Cond.code yX4_outdate cX4_outdate 1 none ∈ BIG := ⟨bg_of 209 (by decide +kernel) rfl, bg_of 0 (by decide +kernel) rfl, bg_of 51 (by decide +kernel) rfl, bg_of 210 (by decide +kernel) rfl⟩
theorem nd_X4_isDrawn : yX4_isDrawn.cls ≠ "java/lang/invoke/MethodHandle" ∧ yX4_isDrawn.cls ≠ "java/lang/invoke/VarHandle" ∧ (parseMethodDescriptor yX4_isDrawn.desc).map (fun d => d.parameters.length) = some 0 := by decide +kernel
theorem cy_X4_isDrawn : Cond.instanceMethod yX4_isDrawn ∈ BIG ∧ Cond.selects RX4 yX4_isDrawn yX4_isDrawn ∈ BIG ∧ Cond.initialized RX4 ∈ BIG ∧ Cond.code yX4_isDrawn cX4_isDrawn 1 (some .boolean) ∈ BIG := ⟨bg_of 366 (by decide +kernel) rfl, bg_of 3 (by decide +kernel) rfl, bg_of 51 (by decide +kernel) rfl, bg_of 367 (by decide +kernel) rfl⟩
theorem nd_X4_isDifference : yX4_isDifference.cls ≠ "java/lang/invoke/MethodHandle" ∧ yX4_isDifference.cls ≠ "java/lang/invoke/VarHandle" ∧ (parseMethodDescriptor yX4_isDifference.desc).map (fun d => d.parameters.length) = some 1 := by decide +kernel
theorem cy_X4_isDifference : Cond.static yX4_isDifference ∈ BIG ∧ Cond.initialized yX4_isDifference.cls ∈ BIG ∧ Cond.code yX4_isDifference cX4_isDifference 1 (some .boolean) ∈ BIG := ⟨bg_of 445 (by decide +kernel) rfl, bg_of 51 (by decide +kernel) rfl, bg_of 446 (by decide +kernel) rfl⟩
theorem nd_X4_fits : yX4_fits.cls ≠ "java/lang/invoke/MethodHandle" ∧ yX4_fits.cls ≠ "java/lang/invoke/VarHandle" ∧ (parseMethodDescriptor yX4_fits.desc).map (fun d => d.parameters.length) = some 2 := by decide +kernel
theorem cy_X4_fits : Cond.static yX4_fits ∈ BIG ∧ Cond.initialized yX4_fits.cls ∈ BIG ∧ Cond.code yX4_fits cX4_fits 2 (some .boolean) ∈ BIG := ⟨bg_of 190 (by decide +kernel) rfl, bg_of 51 (by decide +kernel) rfl, bg_of 191 (by decide +kernel) rfl⟩
theorem nd_X4_fitsPart : yX4_fitsPart.cls ≠ "java/lang/invoke/MethodHandle" ∧ yX4_fitsPart.cls ≠ "java/lang/invoke/VarHandle" ∧ (parseMethodDescriptor yX4_fitsPart.desc).map (fun d => d.parameters.length) = some 2 := by decide +kernel
theorem cy_X4_fitsPart : Cond.static yX4_fitsPart ∈ BIG ∧ Cond.initialized yX4_fitsPart.cls ∈ BIG ∧ Cond.code yX4_fitsPart cX4_fitsPart 2 (some .boolean) ∈ BIG := ⟨bg_of 228 (by decide +kernel) rfl, bg_of 51 (by decide +kernel) rfl, bg_of 229 (by decide +kernel) rfl⟩
theorem nd_X4_lies : yX4_lies.cls ≠ "java/lang/invoke/MethodHandle" ∧ yX4_lies.cls ≠ "java/lang/invoke/VarHandle" ∧ (parseMethodDescriptor yX4_lies.desc).map (fun d => d.parameters.length) = some 4 := by decide +kernel
theorem cy_X4_lies : Cond.static yX4_lies ∈ BIG ∧ Cond.initialized yX4_lies.cls ∈ BIG ∧ Cond.code yX4_lies cX4_lies 4 (some .boolean) ∈ BIG := ⟨bg_of 197 (by decide +kernel) rfl, bg_of 51 (by decide +kernel) rfl, bg_of 198 (by decide +kernel) rfl⟩
theorem nd_X5_thrown : yX5_thrown.cls ≠ "java/lang/invoke/MethodHandle" ∧ yX5_thrown.cls ≠ "java/lang/invoke/VarHandle" ∧ (parseMethodDescriptor yX5_thrown.desc).map (fun d => d.parameters.length) = some 0 := by decide +kernel
theorem cy_X5_thrown : Cond.instanceMethod yX5_thrown ∈ BIG ∧ Cond.selects RX5 yX5_thrown yX5_thrown ∈ BIG ∧ Cond.initialized RX5 ∈ BIG ∧ Cond.code yX5_thrown cX5_thrown 1 (some .int) ∈ BIG := ⟨bg_of 734 (by decide +kernel) rfl, bg_of 735 (by decide +kernel) rfl, bg_of 57 (by decide +kernel) rfl, bg_of 736 (by decide +kernel) rfl⟩
theorem nd_X5_within : yX5_within.cls ≠ "java/lang/invoke/MethodHandle" ∧ yX5_within.cls ≠ "java/lang/invoke/VarHandle" ∧ (parseMethodDescriptor yX5_within.desc).map (fun d => d.parameters.length) = some 3 := by decide +kernel
theorem cy_X5_within : Cond.static yX5_within ∈ BIG ∧ Cond.initialized yX5_within.cls ∈ BIG ∧ Cond.code yX5_within cX5_within 6 (some .boolean) ∈ BIG := ⟨bg_of 784 (by decide +kernel) rfl, bg_of 57 (by decide +kernel) rfl, bg_of 785 (by decide +kernel) rfl⟩
theorem nd_X5_init : yX5_init.cls ≠ "java/lang/invoke/MethodHandle" ∧ yX5_init.cls ≠ "java/lang/invoke/VarHandle" ∧ (parseMethodDescriptor yX5_init.desc).map (fun d => d.parameters.length) = some 0 := by decide +kernel
theorem cy_X5_init : Cond.instanceMethod yX5_init ∈ BIG ∧ Cond.initialized yX5_init.cls ∈ BIG ∧ Cond.code yX5_init cX5_init 1 none ∈ BIG := ⟨bg_of 740 (by decide +kernel) rfl, bg_of 57 (by decide +kernel) rfl, bg_of 741 (by decide +kernel) rfl⟩
theorem nd_X5_keeps : yX5_keeps.cls ≠ "java/lang/invoke/MethodHandle" ∧ yX5_keeps.cls ≠ "java/lang/invoke/VarHandle" ∧ (parseMethodDescriptor yX5_keeps.desc).map (fun d => d.parameters.length) = some 0 := by decide +kernel
theorem cy_X5_keeps : Cond.instanceMethod yX5_keeps ∈ BIG ∧ Cond.selects RX5 yX5_keeps yX5_keeps ∈ BIG ∧ Cond.initialized RX5 ∈ BIG ∧ Cond.code yX5_keeps cX5_keeps 2 none ∈ BIG := ⟨bg_of 795 (by decide +kernel) rfl, bg_of 20 (by decide +kernel) rfl, bg_of 57 (by decide +kernel) rfl, bg_of 796 (by decide +kernel) rfl⟩
theorem nd_X5_steps : yX5_steps.cls ≠ "java/lang/invoke/MethodHandle" ∧ yX5_steps.cls ≠ "java/lang/invoke/VarHandle" ∧ (parseMethodDescriptor yX5_steps.desc).map (fun d => d.parameters.length) = some 1 := by decide +kernel
theorem cy_X5_steps : Cond.instanceMethod yX5_steps ∈ BIG ∧ Cond.selects RX5 yX5_steps yX5_steps ∈ BIG ∧ Cond.initialized RX5 ∈ BIG ∧ Cond.code yX5_steps cX5_steps 3 (some .int) ∈ BIG := ⟨bg_of 778 (by decide +kernel) rfl, bg_of 779 (by decide +kernel) rfl, bg_of 57 (by decide +kernel) rfl, bg_of 780 (by decide +kernel) rfl⟩
theorem nd_X5_isSegment : yX5_isSegment.cls ≠ "java/lang/invoke/MethodHandle" ∧ yX5_isSegment.cls ≠ "java/lang/invoke/VarHandle" ∧ (parseMethodDescriptor yX5_isSegment.desc).map (fun d => d.parameters.length) = some 1 := by decide +kernel
theorem cy_X5_isSegment : Cond.instanceMethod yX5_isSegment ∈ BIG ∧ Cond.selects RX5 yX5_isSegment yX5_isSegment ∈ BIG ∧ Cond.initialized RX5 ∈ BIG ∧ Cond.code yX5_isSegment cX5_isSegment 2 (some .boolean) ∈ BIG := ⟨bg_of 803 (by decide +kernel) rfl, bg_of 21 (by decide +kernel) rfl, bg_of 57 (by decide +kernel) rfl, bg_of 804 (by decide +kernel) rfl⟩
theorem nd_X5_isMark : yX5_isMark.cls ≠ "java/lang/invoke/MethodHandle" ∧ yX5_isMark.cls ≠ "java/lang/invoke/VarHandle" ∧ (parseMethodDescriptor yX5_isMark.desc).map (fun d => d.parameters.length) = some 1 := by decide +kernel
theorem cy_X5_isMark : Cond.instanceMethod yX5_isMark ∈ BIG ∧ Cond.selects RX5 yX5_isMark yX5_isMark ∈ BIG ∧ Cond.initialized RX5 ∈ BIG ∧ Cond.code yX5_isMark cX5_isMark 2 (some .boolean) ∈ BIG := ⟨bg_of 859 (by decide +kernel) rfl, bg_of 24 (by decide +kernel) rfl, bg_of 57 (by decide +kernel) rfl, bg_of 860 (by decide +kernel) rfl⟩
theorem nd_X5_isStep : yX5_isStep.cls ≠ "java/lang/invoke/MethodHandle" ∧ yX5_isStep.cls ≠ "java/lang/invoke/VarHandle" ∧ (parseMethodDescriptor yX5_isStep.desc).map (fun d => d.parameters.length) = some 1 := by decide +kernel
theorem cy_X5_isStep : Cond.instanceMethod yX5_isStep ∈ BIG ∧ Cond.selects RX5 yX5_isStep yX5_isStep ∈ BIG ∧ Cond.initialized RX5 ∈ BIG ∧ Cond.code yX5_isStep cX5_isStep 2 (some .boolean) ∈ BIG := ⟨bg_of 851 (by decide +kernel) rfl, bg_of 23 (by decide +kernel) rfl, bg_of 57 (by decide +kernel) rfl, bg_of 852 (by decide +kernel) rfl⟩
theorem nd_X5_segment : yX5_segment.cls ≠ "java/lang/invoke/MethodHandle" ∧ yX5_segment.cls ≠ "java/lang/invoke/VarHandle" ∧ (parseMethodDescriptor yX5_segment.desc).map (fun d => d.parameters.length) = some 3 := by decide +kernel
theorem cy_X5_segment : Cond.instanceMethod yX5_segment ∈ BIG ∧ Cond.selects RX5 yX5_segment yX5_segment ∈ BIG ∧ Cond.initialized RX5 ∈ BIG ∧ Cond.code yX5_segment cX5_segment 5 (some .int) ∈ BIG := ⟨bg_of 787 (by decide +kernel) rfl, bg_of 788 (by decide +kernel) rfl, bg_of 57 (by decide +kernel) rfl, bg_of 789 (by decide +kernel) rfl⟩
theorem nd_X5_tells : yX5_tells.cls ≠ "java/lang/invoke/MethodHandle" ∧ yX5_tells.cls ≠ "java/lang/invoke/VarHandle" ∧ (parseMethodDescriptor yX5_tells.desc).map (fun d => d.parameters.length) = some 3 := by decide +kernel
theorem cy_X5_tells : Cond.instanceMethod yX5_tells ∈ BIG ∧ Cond.selects RX5 yX5_tells yX5_tells ∈ BIG ∧ Cond.initialized RX5 ∈ BIG ∧ Cond.code yX5_tells cX5_tells 5 (some .int) ∈ BIG := ⟨bg_of 807 (by decide +kernel) rfl, bg_of 22 (by decide +kernel) rfl, bg_of 57 (by decide +kernel) rfl, bg_of 808 (by decide +kernel) rfl⟩
theorem nd_X5_alter : yX5_alter.cls ≠ "java/lang/invoke/MethodHandle" ∧ yX5_alter.cls ≠ "java/lang/invoke/VarHandle" ∧ (parseMethodDescriptor yX5_alter.desc).map (fun d => d.parameters.length) = some 3 := by decide +kernel
theorem cy_X5_alter : Cond.instanceMethod yX5_alter ∈ BIG ∧ Cond.selects RX5 yX5_alter yX5_alter ∈ BIG ∧ Cond.initialized RX5 ∈ BIG ∧ Cond.code yX5_alter cX5_alter 5 (some .int) ∈ BIG := ⟨bg_of 798 (by decide +kernel) rfl, bg_of 799 (by decide +kernel) rfl, bg_of 57 (by decide +kernel) rfl, bg_of 800 (by decide +kernel) rfl⟩
theorem nd_X5_drop : yX5_drop.cls ≠ "java/lang/invoke/MethodHandle" ∧ yX5_drop.cls ≠ "java/lang/invoke/VarHandle" ∧ (parseMethodDescriptor yX5_drop.desc).map (fun d => d.parameters.length) = some 0 := by decide +kernel
theorem cy_X5_drop : Cond.instanceMethod yX5_drop ∈ BIG ∧ Cond.selects RX5 yX5_drop yX5_drop ∈ BIG ∧ Cond.initialized RX5 ∈ BIG ∧ Cond.code yX5_drop cX5_drop 1 (some .int) ∈ BIG := ⟨bg_of 810 (by decide +kernel) rfl, bg_of 811 (by decide +kernel) rfl, bg_of 57 (by decide +kernel) rfl, bg_of 812 (by decide +kernel) rfl⟩
theorem nd_X5_start : yX5_start.cls ≠ "java/lang/invoke/MethodHandle" ∧ yX5_start.cls ≠ "java/lang/invoke/VarHandle" ∧ (parseMethodDescriptor yX5_start.desc).map (fun d => d.parameters.length) = some 1 := by decide +kernel
theorem cy_X5_start : Cond.instanceMethod yX5_start ∈ BIG ∧ Cond.selects RX5 yX5_start yX5_start ∈ BIG ∧ Cond.initialized RX5 ∈ BIG ∧ Cond.code yX5_start cX5_start 2 (some .int) ∈ BIG := ⟨bg_of 814 (by decide +kernel) rfl, bg_of 815 (by decide +kernel) rfl, bg_of 57 (by decide +kernel) rfl, bg_of 816 (by decide +kernel) rfl⟩
theorem nd_X5_base : yX5_base.cls ≠ "java/lang/invoke/MethodHandle" ∧ yX5_base.cls ≠ "java/lang/invoke/VarHandle" ∧ (parseMethodDescriptor yX5_base.desc).map (fun d => d.parameters.length) = some 1 := by decide +kernel
theorem cy_X5_base : Cond.instanceMethod yX5_base ∈ BIG ∧ Cond.selects RX5 yX5_base yX5_base ∈ BIG ∧ Cond.initialized RX5 ∈ BIG ∧ Cond.code yX5_base cX5_base 2 (some .int) ∈ BIG := ⟨bg_of 818 (by decide +kernel) rfl, bg_of 819 (by decide +kernel) rfl, bg_of 57 (by decide +kernel) rfl, bg_of 820 (by decide +kernel) rfl⟩
theorem nd_X5_roller : yX5_roller.cls ≠ "java/lang/invoke/MethodHandle" ∧ yX5_roller.cls ≠ "java/lang/invoke/VarHandle" ∧ (parseMethodDescriptor yX5_roller.desc).map (fun d => d.parameters.length) = some 1 := by decide +kernel
theorem cy_X5_roller : Cond.instanceMethod yX5_roller ∈ BIG ∧ Cond.selects RX5 yX5_roller yX5_roller ∈ BIG ∧ Cond.initialized RX5 ∈ BIG ∧ Cond.code yX5_roller cX5_roller 2 (some .int) ∈ BIG := ⟨bg_of 824 (by decide +kernel) rfl, bg_of 825 (by decide +kernel) rfl, bg_of 57 (by decide +kernel) rfl, bg_of 826 (by decide +kernel) rfl⟩
theorem nd_X5_spring : yX5_spring.cls ≠ "java/lang/invoke/MethodHandle" ∧ yX5_spring.cls ≠ "java/lang/invoke/VarHandle" ∧ (parseMethodDescriptor yX5_spring.desc).map (fun d => d.parameters.length) = some 3 := by decide +kernel
theorem cy_X5_spring : Cond.instanceMethod yX5_spring ∈ BIG ∧ Cond.selects RX5 yX5_spring yX5_spring ∈ BIG ∧ Cond.initialized RX5 ∈ BIG ∧ Cond.code yX5_spring cX5_spring 4 (some .boolean) ∈ BIG := ⟨bg_of 828 (by decide +kernel) rfl, bg_of 829 (by decide +kernel) rfl, bg_of 57 (by decide +kernel) rfl, bg_of 830 (by decide +kernel) rfl⟩
theorem nd_X5_speed : yX5_speed.cls ≠ "java/lang/invoke/MethodHandle" ∧ yX5_speed.cls ≠ "java/lang/invoke/VarHandle" ∧ (parseMethodDescriptor yX5_speed.desc).map (fun d => d.parameters.length) = some 1 := by decide +kernel
theorem cy_X5_speed : Cond.instanceMethod yX5_speed ∈ BIG ∧ Cond.selects RX5 yX5_speed yX5_speed ∈ BIG ∧ Cond.initialized RX5 ∈ BIG ∧ Cond.code yX5_speed cX5_speed 2 (some .int) ∈ BIG := ⟨bg_of 833 (by decide +kernel) rfl, bg_of 834 (by decide +kernel) rfl, bg_of 57 (by decide +kernel) rfl, bg_of 835 (by decide +kernel) rfl⟩
theorem nd_X5_steepest : yX5_steepest.cls ≠ "java/lang/invoke/MethodHandle" ∧ yX5_steepest.cls ≠ "java/lang/invoke/VarHandle" ∧ (parseMethodDescriptor yX5_steepest.desc).map (fun d => d.parameters.length) = some 1 := by decide +kernel
theorem cy_X5_steepest : Cond.instanceMethod yX5_steepest ∈ BIG ∧ Cond.selects RX5 yX5_steepest yX5_steepest ∈ BIG ∧ Cond.initialized RX5 ∈ BIG ∧ Cond.code yX5_steepest cX5_steepest 2 (some .int) ∈ BIG := ⟨bg_of 837 (by decide +kernel) rfl, bg_of 838 (by decide +kernel) rfl, bg_of 57 (by decide +kernel) rfl, bg_of 839 (by decide +kernel) rfl⟩
theorem nd_X5_slack : yX5_slack.cls ≠ "java/lang/invoke/MethodHandle" ∧ yX5_slack.cls ≠ "java/lang/invoke/VarHandle" ∧ (parseMethodDescriptor yX5_slack.desc).map (fun d => d.parameters.length) = some 1 := by decide +kernel
theorem cy_X5_slack : Cond.instanceMethod yX5_slack ∈ BIG ∧ Cond.selects RX5 yX5_slack yX5_slack ∈ BIG ∧ Cond.initialized RX5 ∈ BIG ∧ Cond.code yX5_slack cX5_slack 2 (some .int) ∈ BIG := ⟨bg_of 841 (by decide +kernel) rfl, bg_of 842 (by decide +kernel) rfl, bg_of 57 (by decide +kernel) rfl, bg_of 843 (by decide +kernel) rfl⟩
theorem nd_X5_mark : yX5_mark.cls ≠ "java/lang/invoke/MethodHandle" ∧ yX5_mark.cls ≠ "java/lang/invoke/VarHandle" ∧ (parseMethodDescriptor yX5_mark.desc).map (fun d => d.parameters.length) = some 3 := by decide +kernel
theorem cy_X5_mark : Cond.instanceMethod yX5_mark ∈ BIG ∧ Cond.selects RX5 yX5_mark yX5_mark ∈ BIG ∧ Cond.initialized RX5 ∈ BIG ∧ Cond.code yX5_mark cX5_mark 5 (some .int) ∈ BIG := ⟨bg_of 846 (by decide +kernel) rfl, bg_of 847 (by decide +kernel) rfl, bg_of 57 (by decide +kernel) rfl, bg_of 848 (by decide +kernel) rfl⟩
theorem nd_X5_unmark : yX5_unmark.cls ≠ "java/lang/invoke/MethodHandle" ∧ yX5_unmark.cls ≠ "java/lang/invoke/VarHandle" ∧ (parseMethodDescriptor yX5_unmark.desc).map (fun d => d.parameters.length) = some 1 := by decide +kernel
theorem cy_X5_unmark : Cond.instanceMethod yX5_unmark ∈ BIG ∧ Cond.selects RX5 yX5_unmark yX5_unmark ∈ BIG ∧ Cond.initialized RX5 ∈ BIG ∧ Cond.code yX5_unmark cX5_unmark 3 (some .boolean) ∈ BIG := ⟨bg_of 854 (by decide +kernel) rfl, bg_of 855 (by decide +kernel) rfl, bg_of 57 (by decide +kernel) rfl, bg_of 856 (by decide +kernel) rfl⟩
theorem nd_X5_back : yX5_back.cls ≠ "java/lang/invoke/MethodHandle" ∧ yX5_back.cls ≠ "java/lang/invoke/VarHandle" ∧ (parseMethodDescriptor yX5_back.desc).map (fun d => d.parameters.length) = some 0 := by decide +kernel
theorem cy_X5_back : Cond.instanceMethod yX5_back ∈ BIG ∧ Cond.selects RX5 yX5_back yX5_back ∈ BIG ∧ Cond.initialized RX5 ∈ BIG ∧ Cond.code yX5_back cX5_back 2 (some .boolean) ∈ BIG := ⟨bg_of 862 (by decide +kernel) rfl, bg_of 863 (by decide +kernel) rfl, bg_of 57 (by decide +kernel) rfl, bg_of 864 (by decide +kernel) rfl⟩
theorem nd_X5_comesFrom : yX5_comesFrom.cls ≠ "java/lang/invoke/MethodHandle" ∧ yX5_comesFrom.cls ≠ "java/lang/invoke/VarHandle" ∧ (parseMethodDescriptor yX5_comesFrom.desc).map (fun d => d.parameters.length) = some 1 := by decide +kernel
theorem cy_X5_comesFrom : Cond.instanceMethod yX5_comesFrom ∈ BIG ∧ Cond.selects RX5 yX5_comesFrom yX5_comesFrom ∈ BIG ∧ Cond.initialized RX5 ∈ BIG ∧ Cond.code yX5_comesFrom cX5_comesFrom 2 (some .int) ∈ BIG := ⟨bg_of 871 (by decide +kernel) rfl, bg_of 25 (by decide +kernel) rfl, bg_of 57 (by decide +kernel) rfl, bg_of 872 (by decide +kernel) rfl⟩
theorem nd_X5_begins : yX5_begins.cls ≠ "java/lang/invoke/MethodHandle" ∧ yX5_begins.cls ≠ "java/lang/invoke/VarHandle" ∧ (parseMethodDescriptor yX5_begins.desc).map (fun d => d.parameters.length) = some 1 := by decide +kernel
theorem cy_X5_begins : Cond.instanceMethod yX5_begins ∈ BIG ∧ Cond.selects RX5 yX5_begins yX5_begins ∈ BIG ∧ Cond.initialized RX5 ∈ BIG ∧ Cond.code yX5_begins cX5_begins 4 (some .int) ∈ BIG := ⟨bg_of 875 (by decide +kernel) rfl, bg_of 26 (by decide +kernel) rfl, bg_of 57 (by decide +kernel) rfl, bg_of 876 (by decide +kernel) rfl⟩
theorem nd_X5_isDwell : yX5_isDwell.cls ≠ "java/lang/invoke/MethodHandle" ∧ yX5_isDwell.cls ≠ "java/lang/invoke/VarHandle" ∧ (parseMethodDescriptor yX5_isDwell.desc).map (fun d => d.parameters.length) = some 1 := by decide +kernel
theorem cy_X5_isDwell : Cond.instanceMethod yX5_isDwell ∈ BIG ∧ Cond.selects RX5 yX5_isDwell yX5_isDwell ∈ BIG ∧ Cond.initialized RX5 ∈ BIG ∧ Cond.code yX5_isDwell cX5_isDwell 2 (some .boolean) ∈ BIG := ⟨bg_of 879 (by decide +kernel) rfl, bg_of 27 (by decide +kernel) rfl, bg_of 57 (by decide +kernel) rfl, bg_of 880 (by decide +kernel) rfl⟩
theorem nd_X5_isWhole : yX5_isWhole.cls ≠ "java/lang/invoke/MethodHandle" ∧ yX5_isWhole.cls ≠ "java/lang/invoke/VarHandle" ∧ (parseMethodDescriptor yX5_isWhole.desc).map (fun d => d.parameters.length) = some 0 := by decide +kernel
theorem cy_X5_isWhole : Cond.instanceMethod yX5_isWhole ∈ BIG ∧ Cond.selects RX5 yX5_isWhole yX5_isWhole ∈ BIG ∧ Cond.initialized RX5 ∈ BIG ∧ Cond.code yX5_isWhole cX5_isWhole 2 (some .boolean) ∈ BIG := ⟨bg_of 891 (by decide +kernel) rfl, bg_of 29 (by decide +kernel) rfl, bg_of 57 (by decide +kernel) rfl, bg_of 892 (by decide +kernel) rfl⟩
theorem nd_X5_of : yX5_of.cls ≠ "java/lang/invoke/MethodHandle" ∧ yX5_of.cls ≠ "java/lang/invoke/VarHandle" ∧ (parseMethodDescriptor yX5_of.desc).map (fun d => d.parameters.length) = some 2 := by decide +kernel
theorem cy_X5_of : Cond.instanceMethod yX5_of ∈ BIG ∧ Cond.selects RX5 yX5_of yX5_of ∈ BIG ∧ Cond.initialized RX5 ∈ BIG ∧ Cond.code yX5_of cX5_of 3 (some .int) ∈ BIG := ⟨bg_of 866 (by decide +kernel) rfl, bg_of 867 (by decide +kernel) rfl, bg_of 57 (by decide +kernel) rfl, bg_of 868 (by decide +kernel) rfl⟩
theorem nd_X5_power : yX5_power.cls ≠ "java/lang/invoke/MethodHandle" ∧ yX5_power.cls ≠ "java/lang/invoke/VarHandle" ∧ (parseMethodDescriptor yX5_power.desc).map (fun d => d.parameters.length) = some 2 := by decide +kernel
theorem cy_X5_power : Cond.static yX5_power ∈ BIG ∧ Cond.initialized yX5_power.cls ∈ BIG ∧ Cond.code yX5_power cX5_power 6 (some .long) ∈ BIG := ⟨bg_of 901 (by decide +kernel) rfl, bg_of 57 (by decide +kernel) rfl, bg_of 902 (by decide +kernel) rfl⟩
theorem nd_X5_above : yX5_above.cls ≠ "java/lang/invoke/MethodHandle" ∧ yX5_above.cls ≠ "java/lang/invoke/VarHandle" ∧ (parseMethodDescriptor yX5_above.desc).map (fun d => d.parameters.length) = some 3 := by decide +kernel
theorem cy_X5_above : Cond.static yX5_above ∈ BIG ∧ Cond.initialized yX5_above.cls ∈ BIG ∧ Cond.code yX5_above cX5_above 5 (some .long) ∈ BIG := ⟨bg_of 905 (by decide +kernel) rfl, bg_of 57 (by decide +kernel) rfl, bg_of 906 (by decide +kernel) rfl⟩
theorem nd_X5_below : yX5_below.cls ≠ "java/lang/invoke/MethodHandle" ∧ yX5_below.cls ≠ "java/lang/invoke/VarHandle" ∧ (parseMethodDescriptor yX5_below.desc).map (fun d => d.parameters.length) = some 2 := by decide +kernel
theorem cy_X5_below : Cond.static yX5_below ∈ BIG ∧ Cond.initialized yX5_below.cls ∈ BIG ∧ Cond.code yX5_below cX5_below 3 (some .long) ∈ BIG := ⟨bg_of 898 (by decide +kernel) rfl, bg_of 57 (by decide +kernel) rfl, bg_of 899 (by decide +kernel) rfl⟩
theorem nd_X5_cut : yX5_cut.cls ≠ "java/lang/invoke/MethodHandle" ∧ yX5_cut.cls ≠ "java/lang/invoke/VarHandle" ∧ (parseMethodDescriptor yX5_cut.desc).map (fun d => d.parameters.length) = some 2 := by decide +kernel
theorem cy_X5_cut : Cond.static yX5_cut ∈ BIG ∧ Cond.initialized yX5_cut.cls ∈ BIG ∧ Cond.code yX5_cut cX5_cut 6 (some .long) ∈ BIG := ⟨bg_of 914 (by decide +kernel) rfl, bg_of 57 (by decide +kernel) rfl, bg_of 915 (by decide +kernel) rfl⟩
theorem nd_X5_lays : yX5_lays.cls ≠ "java/lang/invoke/MethodHandle" ∧ yX5_lays.cls ≠ "java/lang/invoke/VarHandle" ∧ (parseMethodDescriptor yX5_lays.desc).map (fun d => d.parameters.length) = some 0 := by decide +kernel
theorem cy_X5_lays : Cond.instanceMethod yX5_lays ∈ BIG ∧ Cond.selects RX5 yX5_lays yX5_lays ∈ BIG ∧ Cond.initialized RX5 ∈ BIG ∧ Cond.code yX5_lays cX5_lays 10 none ∈ BIG := ⟨bg_of 895 (by decide +kernel) rfl, bg_of 30 (by decide +kernel) rfl, bg_of 57 (by decide +kernel) rfl, bg_of 896 (by decide +kernel) rfl⟩
theorem nd_X5_isLaid : yX5_isLaid.cls ≠ "java/lang/invoke/MethodHandle" ∧ yX5_isLaid.cls ≠ "java/lang/invoke/VarHandle" ∧ (parseMethodDescriptor yX5_isLaid.desc).map (fun d => d.parameters.length) = some 0 := by decide +kernel
theorem cy_X5_isLaid : Cond.instanceMethod yX5_isLaid ∈ BIG ∧ Cond.selects RX5 yX5_isLaid yX5_isLaid ∈ BIG ∧ Cond.initialized RX5 ∈ BIG ∧ Cond.code yX5_isLaid cX5_isLaid 2 (some .boolean) ∈ BIG := ⟨bg_of 887 (by decide +kernel) rfl, bg_of 28 (by decide +kernel) rfl, bg_of 57 (by decide +kernel) rfl, bg_of 888 (by decide +kernel) rfl⟩
theorem nd_X5_liftAt : yX5_liftAt.cls ≠ "java/lang/invoke/MethodHandle" ∧ yX5_liftAt.cls ≠ "java/lang/invoke/VarHandle" ∧ (parseMethodDescriptor yX5_liftAt.desc).map (fun d => d.parameters.length) = some 1 := by decide +kernel
theorem cy_X5_liftAt : Cond.instanceMethod yX5_liftAt ∈ BIG ∧ Cond.selects RX5 yX5_liftAt yX5_liftAt ∈ BIG ∧ Cond.initialized RX5 ∈ BIG ∧ Cond.code yX5_liftAt cX5_liftAt 2 (some .int) ∈ BIG := ⟨bg_of 926 (by decide +kernel) rfl, bg_of 32 (by decide +kernel) rfl, bg_of 57 (by decide +kernel) rfl, bg_of 927 (by decide +kernel) rfl⟩
theorem nd_X5_diffAt : yX5_diffAt.cls ≠ "java/lang/invoke/MethodHandle" ∧ yX5_diffAt.cls ≠ "java/lang/invoke/VarHandle" ∧ (parseMethodDescriptor yX5_diffAt.desc).map (fun d => d.parameters.length) = some 2 := by decide +kernel
theorem cy_X5_diffAt : Cond.instanceMethod yX5_diffAt ∈ BIG ∧ Cond.selects RX5 yX5_diffAt yX5_diffAt ∈ BIG ∧ Cond.initialized RX5 ∈ BIG ∧ Cond.code yX5_diffAt cX5_diffAt 3 (some .int) ∈ BIG := ⟨bg_of 922 (by decide +kernel) rfl, bg_of 31 (by decide +kernel) rfl, bg_of 57 (by decide +kernel) rfl, bg_of 923 (by decide +kernel) rfl⟩
theorem nd_X5_size : yX5_size.cls ≠ "java/lang/invoke/MethodHandle" ∧ yX5_size.cls ≠ "java/lang/invoke/VarHandle" ∧ (parseMethodDescriptor yX5_size.desc).map (fun d => d.parameters.length) = some 1 := by decide +kernel
theorem cy_X5_size : Cond.static yX5_size ∈ BIG ∧ Cond.initialized yX5_size.cls ∈ BIG ∧ Cond.code yX5_size cX5_size 1 (some .int) ∈ BIG := ⟨bg_of 937 (by decide +kernel) rfl, bg_of 57 (by decide +kernel) rfl, bg_of 938 (by decide +kernel) rfl⟩
theorem nd_X5_lift : yX5_lift.cls ≠ "java/lang/invoke/MethodHandle" ∧ yX5_lift.cls ≠ "java/lang/invoke/VarHandle" ∧ (parseMethodDescriptor yX5_lift.desc).map (fun d => d.parameters.length) = some 1 := by decide +kernel
theorem cy_X5_lift : Cond.instanceMethod yX5_lift ∈ BIG ∧ Cond.selects RX5 yX5_lift yX5_lift ∈ BIG ∧ Cond.initialized RX5 ∈ BIG ∧ Cond.code yX5_lift cX5_lift 2 (some .int) ∈ BIG := ⟨bg_of 882 (by decide +kernel) rfl, bg_of 883 (by decide +kernel) rfl, bg_of 57 (by decide +kernel) rfl, bg_of 884 (by decide +kernel) rfl⟩
theorem nd_X5_diff : yX5_diff.cls ≠ "java/lang/invoke/MethodHandle" ∧ yX5_diff.cls ≠ "java/lang/invoke/VarHandle" ∧ (parseMethodDescriptor yX5_diff.desc).map (fun d => d.parameters.length) = some 2 := by decide +kernel
theorem cy_X5_diff : Cond.instanceMethod yX5_diff ∈ BIG ∧ Cond.selects RX5 yX5_diff yX5_diff ∈ BIG ∧ Cond.initialized RX5 ∈ BIG ∧ Cond.code yX5_diff cX5_diff 3 (some .int) ∈ BIG := ⟨bg_of 917 (by decide +kernel) rfl, bg_of 918 (by decide +kernel) rfl, bg_of 57 (by decide +kernel) rfl, bg_of 919 (by decide +kernel) rfl⟩
theorem nd_X5_greatest : yX5_greatest.cls ≠ "java/lang/invoke/MethodHandle" ∧ yX5_greatest.cls ≠ "java/lang/invoke/VarHandle" ∧ (parseMethodDescriptor yX5_greatest.desc).map (fun d => d.parameters.length) = some 1 := by decide +kernel
theorem cy_X5_greatest : Cond.instanceMethod yX5_greatest ∈ BIG ∧ Cond.selects RX5 yX5_greatest yX5_greatest ∈ BIG ∧ Cond.initialized RX5 ∈ BIG ∧ Cond.code yX5_greatest cX5_greatest 5 (some .int) ∈ BIG := ⟨bg_of 934 (by decide +kernel) rfl, bg_of 33 (by decide +kernel) rfl, bg_of 57 (by decide +kernel) rfl, bg_of 935 (by decide +kernel) rfl⟩
theorem nd_X5_most : yX5_most.cls ≠ "java/lang/invoke/MethodHandle" ∧ yX5_most.cls ≠ "java/lang/invoke/VarHandle" ∧ (parseMethodDescriptor yX5_most.desc).map (fun d => d.parameters.length) = some 2 := by decide +kernel
theorem cy_X5_most : Cond.instanceMethod yX5_most ∈ BIG ∧ Cond.selects RX5 yX5_most yX5_most ∈ BIG ∧ Cond.initialized RX5 ∈ BIG ∧ Cond.code yX5_most cX5_most 7 (some .int) ∈ BIG := ⟨bg_of 929 (by decide +kernel) rfl, bg_of 930 (by decide +kernel) rfl, bg_of 57 (by decide +kernel) rfl, bg_of 931 (by decide +kernel) rfl⟩
theorem nd_X5_border : yX5_border.cls ≠ "java/lang/invoke/MethodHandle" ∧ yX5_border.cls ≠ "java/lang/invoke/VarHandle" ∧ (parseMethodDescriptor yX5_border.desc).map (fun d => d.parameters.length) = some 1 := by decide +kernel
theorem cy_X5_border : Cond.instanceMethod yX5_border ∈ BIG ∧ Cond.selects RX5 yX5_border yX5_border ∈ BIG ∧ Cond.initialized RX5 ∈ BIG ∧ Cond.code yX5_border cX5_border 4 (some .int) ∈ BIG := ⟨bg_of 940 (by decide +kernel) rfl, bg_of 941 (by decide +kernel) rfl, bg_of 57 (by decide +kernel) rfl, bg_of 942 (by decide +kernel) rfl⟩
theorem nd_X5_farOf : yX5_farOf.cls ≠ "java/lang/invoke/MethodHandle" ∧ yX5_farOf.cls ≠ "java/lang/invoke/VarHandle" ∧ (parseMethodDescriptor yX5_farOf.desc).map (fun d => d.parameters.length) = some 1 := by decide +kernel
theorem cy_X5_farOf : Cond.instanceMethod yX5_farOf ∈ BIG ∧ Cond.selects RX5 yX5_farOf yX5_farOf ∈ BIG ∧ Cond.initialized RX5 ∈ BIG ∧ Cond.code yX5_farOf cX5_farOf 2 (some .long) ∈ BIG := ⟨bg_of 949 (by decide +kernel) rfl, bg_of 34 (by decide +kernel) rfl, bg_of 57 (by decide +kernel) rfl, bg_of 950 (by decide +kernel) rfl⟩
theorem nd_X5_quick : yX5_quick.cls ≠ "java/lang/invoke/MethodHandle" ∧ yX5_quick.cls ≠ "java/lang/invoke/VarHandle" ∧ (parseMethodDescriptor yX5_quick.desc).map (fun d => d.parameters.length) = some 1 := by decide +kernel
theorem cy_X5_quick : Cond.instanceMethod yX5_quick ∈ BIG ∧ Cond.selects RX5 yX5_quick yX5_quick ∈ BIG ∧ Cond.initialized RX5 ∈ BIG ∧ Cond.code yX5_quick cX5_quick 2 (some .long) ∈ BIG := ⟨bg_of 953 (by decide +kernel) rfl, bg_of 35 (by decide +kernel) rfl, bg_of 57 (by decide +kernel) rfl, bg_of 954 (by decide +kernel) rfl⟩
theorem nd_X5_bent : yX5_bent.cls ≠ "java/lang/invoke/MethodHandle" ∧ yX5_bent.cls ≠ "java/lang/invoke/VarHandle" ∧ (parseMethodDescriptor yX5_bent.desc).map (fun d => d.parameters.length) = some 1 := by decide +kernel
theorem cy_X5_bent : Cond.instanceMethod yX5_bent ∈ BIG ∧ Cond.selects RX5 yX5_bent yX5_bent ∈ BIG ∧ Cond.initialized RX5 ∈ BIG ∧ Cond.code yX5_bent cX5_bent 2 (some .long) ∈ BIG := ⟨bg_of 959 (by decide +kernel) rfl, bg_of 36 (by decide +kernel) rfl, bg_of 57 (by decide +kernel) rfl, bg_of 960 (by decide +kernel) rfl⟩
theorem nd_X5_bend : yX5_bend.cls ≠ "java/lang/invoke/MethodHandle" ∧ yX5_bend.cls ≠ "java/lang/invoke/VarHandle" ∧ (parseMethodDescriptor yX5_bend.desc).map (fun d => d.parameters.length) = some 1 := by decide +kernel
theorem cy_X5_bend : Cond.instanceMethod yX5_bend ∈ BIG ∧ Cond.selects RX5 yX5_bend yX5_bend ∈ BIG ∧ Cond.initialized RX5 ∈ BIG ∧ Cond.code yX5_bend cX5_bend 2 (some .long) ∈ BIG := ⟨bg_of 965 (by decide +kernel) rfl, bg_of 37 (by decide +kernel) rfl, bg_of 57 (by decide +kernel) rfl, bg_of 966 (by decide +kernel) rfl⟩
theorem nd_X5_shape : yX5_shape.cls ≠ "java/lang/invoke/MethodHandle" ∧ yX5_shape.cls ≠ "java/lang/invoke/VarHandle" ∧ (parseMethodDescriptor yX5_shape.desc).map (fun d => d.parameters.length) = some 2 := by decide +kernel
theorem cy_X5_shape : Cond.instanceMethod yX5_shape ∈ BIG ∧ Cond.selects RX5 yX5_shape yX5_shape ∈ BIG ∧ Cond.initialized RX5 ∈ BIG ∧ Cond.code yX5_shape cX5_shape 3 (some .long) ∈ BIG := ⟨bg_of 944 (by decide +kernel) rfl, bg_of 945 (by decide +kernel) rfl, bg_of 57 (by decide +kernel) rfl, bg_of 946 (by decide +kernel) rfl⟩
theorem nd_X5_product : yX5_product.cls ≠ "java/lang/invoke/MethodHandle" ∧ yX5_product.cls ≠ "java/lang/invoke/VarHandle" ∧ (parseMethodDescriptor yX5_product.desc).map (fun d => d.parameters.length) = some 2 := by decide +kernel
theorem cy_X5_product : Cond.static yX5_product ∈ BIG ∧ Cond.initialized yX5_product.cls ∈ BIG ∧ Cond.code yX5_product cX5_product 4 (some .long) ∈ BIG := ⟨bg_of 976 (by decide +kernel) rfl, bg_of 57 (by decide +kernel) rfl, bg_of 977 (by decide +kernel) rfl⟩
theorem nd_X5_undercutAt : yX5_undercutAt.cls ≠ "java/lang/invoke/MethodHandle" ∧ yX5_undercutAt.cls ≠ "java/lang/invoke/VarHandle" ∧ (parseMethodDescriptor yX5_undercutAt.desc).map (fun d => d.parameters.length) = some 1 := by decide +kernel
theorem cy_X5_undercutAt : Cond.instanceMethod yX5_undercutAt ∈ BIG ∧ Cond.selects RX5 yX5_undercutAt yX5_undercutAt ∈ BIG ∧ Cond.initialized RX5 ∈ BIG ∧ Cond.code yX5_undercutAt cX5_undercutAt 12 (some .int) ∈ BIG := ⟨bg_of 973 (by decide +kernel) rfl, bg_of 38 (by decide +kernel) rfl, bg_of 57 (by decide +kernel) rfl, bg_of 974 (by decide +kernel) rfl⟩
theorem nd_X5_pressAt : yX5_pressAt.cls ≠ "java/lang/invoke/MethodHandle" ∧ yX5_pressAt.cls ≠ "java/lang/invoke/VarHandle" ∧ (parseMethodDescriptor yX5_pressAt.desc).map (fun d => d.parameters.length) = some 1 := by decide +kernel
theorem cy_X5_pressAt : Cond.instanceMethod yX5_pressAt ∈ BIG ∧ Cond.selects RX5 yX5_pressAt yX5_pressAt ∈ BIG ∧ Cond.initialized RX5 ∈ BIG ∧ Cond.code yX5_pressAt cX5_pressAt 4 (some .int) ∈ BIG := ⟨bg_of 986 (by decide +kernel) rfl, bg_of 39 (by decide +kernel) rfl, bg_of 57 (by decide +kernel) rfl, bg_of 987 (by decide +kernel) rfl⟩
theorem nd_X5_forceAt : yX5_forceAt.cls ≠ "java/lang/invoke/MethodHandle" ∧ yX5_forceAt.cls ≠ "java/lang/invoke/VarHandle" ∧ (parseMethodDescriptor yX5_forceAt.desc).map (fun d => d.parameters.length) = some 1 := by decide +kernel
theorem cy_X5_forceAt : Cond.instanceMethod yX5_forceAt ∈ BIG ∧ Cond.selects RX5 yX5_forceAt yX5_forceAt ∈ BIG ∧ Cond.initialized RX5 ∈ BIG ∧ Cond.code yX5_forceAt cX5_forceAt 4 (some .long) ∈ BIG := ⟨bg_of 995 (by decide +kernel) rfl, bg_of 40 (by decide +kernel) rfl, bg_of 57 (by decide +kernel) rfl, bg_of 996 (by decide +kernel) rfl⟩
theorem nd_X5_undercut : yX5_undercut.cls ≠ "java/lang/invoke/MethodHandle" ∧ yX5_undercut.cls ≠ "java/lang/invoke/VarHandle" ∧ (parseMethodDescriptor yX5_undercut.desc).map (fun d => d.parameters.length) = some 1 := by decide +kernel
theorem cy_X5_undercut : Cond.instanceMethod yX5_undercut ∈ BIG ∧ Cond.selects RX5 yX5_undercut yX5_undercut ∈ BIG ∧ Cond.initialized RX5 ∈ BIG ∧ Cond.code yX5_undercut cX5_undercut 2 (some .int) ∈ BIG := ⟨bg_of 968 (by decide +kernel) rfl, bg_of 969 (by decide +kernel) rfl, bg_of 57 (by decide +kernel) rfl, bg_of 970 (by decide +kernel) rfl⟩
theorem nd_X5_press : yX5_press.cls ≠ "java/lang/invoke/MethodHandle" ∧ yX5_press.cls ≠ "java/lang/invoke/VarHandle" ∧ (parseMethodDescriptor yX5_press.desc).map (fun d => d.parameters.length) = some 1 := by decide +kernel
theorem cy_X5_press : Cond.instanceMethod yX5_press ∈ BIG ∧ Cond.selects RX5 yX5_press yX5_press ∈ BIG ∧ Cond.initialized RX5 ∈ BIG ∧ Cond.code yX5_press cX5_press 2 (some .int) ∈ BIG := ⟨bg_of 981 (by decide +kernel) rfl, bg_of 982 (by decide +kernel) rfl, bg_of 57 (by decide +kernel) rfl, bg_of 983 (by decide +kernel) rfl⟩
theorem nd_X5_force : yX5_force.cls ≠ "java/lang/invoke/MethodHandle" ∧ yX5_force.cls ≠ "java/lang/invoke/VarHandle" ∧ (parseMethodDescriptor yX5_force.desc).map (fun d => d.parameters.length) = some 1 := by decide +kernel
theorem cy_X5_force : Cond.instanceMethod yX5_force ∈ BIG ∧ Cond.selects RX5 yX5_force yX5_force ∈ BIG ∧ Cond.initialized RX5 ∈ BIG ∧ Cond.code yX5_force cX5_force 2 (some .long) ∈ BIG := ⟨bg_of 990 (by decide +kernel) rfl, bg_of 991 (by decide +kernel) rfl, bg_of 57 (by decide +kernel) rfl, bg_of 992 (by decide +kernel) rfl⟩
theorem nd_X5_isBad : yX5_isBad.cls ≠ "java/lang/invoke/MethodHandle" ∧ yX5_isBad.cls ≠ "java/lang/invoke/VarHandle" ∧ (parseMethodDescriptor yX5_isBad.desc).map (fun d => d.parameters.length) = some 2 := by decide +kernel
theorem cy_X5_isBad : Cond.instanceMethod yX5_isBad ∈ BIG ∧ Cond.selects RX5 yX5_isBad yX5_isBad ∈ BIG ∧ Cond.initialized RX5 ∈ BIG ∧ Cond.code yX5_isBad cX5_isBad 3 (some .boolean) ∈ BIG := ⟨bg_of 1003 (by decide +kernel) rfl, bg_of 41 (by decide +kernel) rfl, bg_of 57 (by decide +kernel) rfl, bg_of 1004 (by decide +kernel) rfl⟩
theorem nd_X5_bad : yX5_bad.cls ≠ "java/lang/invoke/MethodHandle" ∧ yX5_bad.cls ≠ "java/lang/invoke/VarHandle" ∧ (parseMethodDescriptor yX5_bad.desc).map (fun d => d.parameters.length) = some 2 := by decide +kernel
theorem cy_X5_bad : Cond.instanceMethod yX5_bad ∈ BIG ∧ Cond.selects RX5 yX5_bad yX5_bad ∈ BIG ∧ Cond.initialized RX5 ∈ BIG ∧ Cond.code yX5_bad cX5_bad 5 (some .int) ∈ BIG := ⟨bg_of 998 (by decide +kernel) rfl, bg_of 999 (by decide +kernel) rfl, bg_of 57 (by decide +kernel) rfl, bg_of 1000 (by decide +kernel) rfl⟩
theorem nd_X5_top : yX5_top.cls ≠ "java/lang/invoke/MethodHandle" ∧ yX5_top.cls ≠ "java/lang/invoke/VarHandle" ∧ (parseMethodDescriptor yX5_top.desc).map (fun d => d.parameters.length) = some 1 := by decide +kernel
theorem cy_X5_top : Cond.instanceMethod yX5_top ∈ BIG ∧ Cond.selects RX5 yX5_top yX5_top ∈ BIG ∧ Cond.initialized RX5 ∈ BIG ∧ Cond.code yX5_top cX5_top 7 (some .int) ∈ BIG := ⟨bg_of 1006 (by decide +kernel) rfl, bg_of 1007 (by decide +kernel) rfl, bg_of 57 (by decide +kernel) rfl, bg_of 1008 (by decide +kernel) rfl⟩
theorem nd_X5_offAt : yX5_offAt.cls ≠ "java/lang/invoke/MethodHandle" ∧ yX5_offAt.cls ≠ "java/lang/invoke/VarHandle" ∧ (parseMethodDescriptor yX5_offAt.desc).map (fun d => d.parameters.length) = some 1 := by decide +kernel
theorem cy_X5_offAt : Cond.instanceMethod yX5_offAt ∈ BIG ∧ Cond.selects RX5 yX5_offAt yX5_offAt ∈ BIG ∧ Cond.initialized RX5 ∈ BIG ∧ Cond.code yX5_offAt cX5_offAt 2 (some .int) ∈ BIG := ⟨bg_of 1020 (by decide +kernel) rfl, bg_of 43 (by decide +kernel) rfl, bg_of 57 (by decide +kernel) rfl, bg_of 1021 (by decide +kernel) rfl⟩
theorem nd_X5_metNow : yX5_metNow.cls ≠ "java/lang/invoke/MethodHandle" ∧ yX5_metNow.cls ≠ "java/lang/invoke/VarHandle" ∧ (parseMethodDescriptor yX5_metNow.desc).map (fun d => d.parameters.length) = some 0 := by decide +kernel
theorem cy_X5_metNow : Cond.instanceMethod yX5_metNow ∈ BIG ∧ Cond.selects RX5 yX5_metNow yX5_metNow ∈ BIG ∧ Cond.initialized RX5 ∈ BIG ∧ Cond.code yX5_metNow cX5_metNow 3 (some .int) ∈ BIG := ⟨bg_of 1016 (by decide +kernel) rfl, bg_of 42 (by decide +kernel) rfl, bg_of 57 (by decide +kernel) rfl, bg_of 1017 (by decide +kernel) rfl⟩
theorem nd_X5_met : yX5_met.cls ≠ "java/lang/invoke/MethodHandle" ∧ yX5_met.cls ≠ "java/lang/invoke/VarHandle" ∧ (parseMethodDescriptor yX5_met.desc).map (fun d => d.parameters.length) = some 0 := by decide +kernel
theorem cy_X5_met : Cond.instanceMethod yX5_met ∈ BIG ∧ Cond.selects RX5 yX5_met yX5_met ∈ BIG ∧ Cond.initialized RX5 ∈ BIG ∧ Cond.code yX5_met cX5_met 1 (some .int) ∈ BIG := ⟨bg_of 1011 (by decide +kernel) rfl, bg_of 1012 (by decide +kernel) rfl, bg_of 57 (by decide +kernel) rfl, bg_of 1013 (by decide +kernel) rfl⟩
theorem nd_X5_marked : yX5_marked.cls ≠ "java/lang/invoke/MethodHandle" ∧ yX5_marked.cls ≠ "java/lang/invoke/VarHandle" ∧ (parseMethodDescriptor yX5_marked.desc).map (fun d => d.parameters.length) = some 2 := by decide +kernel
theorem cy_X5_marked : Cond.instanceMethod yX5_marked ∈ BIG ∧ Cond.selects RX5 yX5_marked yX5_marked ∈ BIG ∧ Cond.initialized RX5 ∈ BIG ∧ Cond.code yX5_marked cX5_marked 3 (some .int) ∈ BIG := ⟨bg_of 1023 (by decide +kernel) rfl, bg_of 1024 (by decide +kernel) rfl, bg_of 57 (by decide +kernel) rfl, bg_of 1025 (by decide +kernel) rfl⟩
theorem nd_X5_isGood : yX5_isGood.cls ≠ "java/lang/invoke/MethodHandle" ∧ yX5_isGood.cls ≠ "java/lang/invoke/VarHandle" ∧ (parseMethodDescriptor yX5_isGood.desc).map (fun d => d.parameters.length) = some 0 := by decide +kernel
theorem cy_X5_isGood : Cond.instanceMethod yX5_isGood ∈ BIG ∧ Cond.selects RX5 yX5_isGood yX5_isGood ∈ BIG ∧ Cond.initialized RX5 ∈ BIG ∧ Cond.code yX5_isGood cX5_isGood 3 (some .boolean) ∈ BIG := ⟨bg_of 1045 (by decide +kernel) rfl, bg_of 47 (by decide +kernel) rfl, bg_of 57 (by decide +kernel) rfl, bg_of 1046 (by decide +kernel) rfl⟩
theorem nd_X5_turned : yX5_turned.cls ≠ "java/lang/invoke/MethodHandle" ∧ yX5_turned.cls ≠ "java/lang/invoke/VarHandle" ∧ (parseMethodDescriptor yX5_turned.desc).map (fun d => d.parameters.length) = some 0 := by decide +kernel
theorem cy_X5_turned : Cond.instanceMethod yX5_turned ∈ BIG ∧ Cond.selects RX5 yX5_turned yX5_turned ∈ BIG ∧ Cond.initialized RX5 ∈ BIG ∧ Cond.code yX5_turned cX5_turned 3 (some .int) ∈ BIG := ⟨bg_of 1033 (by decide +kernel) rfl, bg_of 44 (by decide +kernel) rfl, bg_of 57 (by decide +kernel) rfl, bg_of 1034 (by decide +kernel) rfl⟩
theorem nd_X5_gives : yX5_gives.cls ≠ "java/lang/invoke/MethodHandle" ∧ yX5_gives.cls ≠ "java/lang/invoke/VarHandle" ∧ (parseMethodDescriptor yX5_gives.desc).map (fun d => d.parameters.length) = some 2 := by decide +kernel
theorem cy_X5_gives : Cond.instanceMethod yX5_gives ∈ BIG ∧ Cond.selects RX5 yX5_gives yX5_gives ∈ BIG ∧ Cond.initialized RX5 ∈ BIG ∧ Cond.code yX5_gives cX5_gives 5 none ∈ BIG := ⟨bg_of 1041 (by decide +kernel) rfl, bg_of 46 (by decide +kernel) rfl, bg_of 57 (by decide +kernel) rfl, bg_of 1042 (by decide +kernel) rfl⟩
theorem nd_X5_takesWay : yX5_takesWay.cls ≠ "java/lang/invoke/MethodHandle" ∧ yX5_takesWay.cls ≠ "java/lang/invoke/VarHandle" ∧ (parseMethodDescriptor yX5_takesWay.desc).map (fun d => d.parameters.length) = some 0 := by decide +kernel
theorem cy_X5_takesWay : Cond.instanceMethod yX5_takesWay ∈ BIG ∧ Cond.selects RX5 yX5_takesWay yX5_takesWay ∈ BIG ∧ Cond.initialized RX5 ∈ BIG ∧ Cond.code yX5_takesWay cX5_takesWay 2 none ∈ BIG := ⟨bg_of 1049 (by decide +kernel) rfl, bg_of 48 (by decide +kernel) rfl, bg_of 57 (by decide +kernel) rfl, bg_of 1050 (by decide +kernel) rfl⟩
theorem nd_X5_laysBest : yX5_laysBest.cls ≠ "java/lang/invoke/MethodHandle" ∧ yX5_laysBest.cls ≠ "java/lang/invoke/VarHandle" ∧ (parseMethodDescriptor yX5_laysBest.desc).map (fun d => d.parameters.length) = some 1 := by decide +kernel
theorem cy_X5_laysBest : Cond.instanceMethod yX5_laysBest ∈ BIG ∧ Cond.selects RX5 yX5_laysBest yX5_laysBest ∈ BIG ∧ Cond.initialized RX5 ∈ BIG ∧ Cond.code yX5_laysBest cX5_laysBest 7 none ∈ BIG := ⟨bg_of 1037 (by decide +kernel) rfl, bg_of 45 (by decide +kernel) rfl, bg_of 57 (by decide +kernel) rfl, bg_of 1038 (by decide +kernel) rfl⟩
theorem nd_X5_best : yX5_best.cls ≠ "java/lang/invoke/MethodHandle" ∧ yX5_best.cls ≠ "java/lang/invoke/VarHandle" ∧ (parseMethodDescriptor yX5_best.desc).map (fun d => d.parameters.length) = some 1 := by decide +kernel
theorem cy_X5_best : Cond.instanceMethod yX5_best ∈ BIG ∧ Cond.selects RX5 yX5_best yX5_best ∈ BIG ∧ Cond.initialized RX5 ∈ BIG ∧ Cond.code yX5_best cX5_best 2 (some .int) ∈ BIG := ⟨bg_of 1027 (by decide +kernel) rfl, bg_of 1028 (by decide +kernel) rfl, bg_of 57 (by decide +kernel) rfl, bg_of 1029 (by decide +kernel) rfl⟩
theorem nd_X5_isFree : yX5_isFree.cls ≠ "java/lang/invoke/MethodHandle" ∧ yX5_isFree.cls ≠ "java/lang/invoke/VarHandle" ∧ (parseMethodDescriptor yX5_isFree.desc).map (fun d => d.parameters.length) = some 3 := by decide +kernel
theorem cy_X5_isFree : Cond.instanceMethod yX5_isFree ∈ BIG ∧ Cond.selects RX5 yX5_isFree yX5_isFree ∈ BIG ∧ Cond.initialized RX5 ∈ BIG ∧ Cond.code yX5_isFree cX5_isFree 7 (some .boolean) ∈ BIG := ⟨bg_of 1057 (by decide +kernel) rfl, bg_of 49 (by decide +kernel) rfl, bg_of 57 (by decide +kernel) rfl, bg_of 1058 (by decide +kernel) rfl⟩
theorem nd_X5_limit : yX5_limit.cls ≠ "java/lang/invoke/MethodHandle" ∧ yX5_limit.cls ≠ "java/lang/invoke/VarHandle" ∧ (parseMethodDescriptor yX5_limit.desc).map (fun d => d.parameters.length) = some 1 := by decide +kernel
theorem cy_X5_limit : Cond.instanceMethod yX5_limit ∈ BIG ∧ Cond.selects RX5 yX5_limit yX5_limit ∈ BIG ∧ Cond.initialized RX5 ∈ BIG ∧ Cond.code yX5_limit cX5_limit 3 (some .int) ∈ BIG := ⟨bg_of 1052 (by decide +kernel) rfl, bg_of 1053 (by decide +kernel) rfl, bg_of 57 (by decide +kernel) rfl, bg_of 1054 (by decide +kernel) rfl⟩
theorem nd_X5_count : yX5_count.cls ≠ "java/lang/invoke/MethodHandle" ∧ yX5_count.cls ≠ "java/lang/invoke/VarHandle" ∧ (parseMethodDescriptor yX5_count.desc).map (fun d => d.parameters.length) = some 1 := by decide +kernel
theorem cy_X5_count : Cond.instanceMethod yX5_count ∈ BIG ∧ Cond.selects RX5 yX5_count yX5_count ∈ BIG ∧ Cond.initialized RX5 ∈ BIG ∧ Cond.code yX5_count cX5_count 2 (some .int) ∈ BIG := ⟨bg_of 1060 (by decide +kernel) rfl, bg_of 1061 (by decide +kernel) rfl, bg_of 57 (by decide +kernel) rfl, bg_of 1062 (by decide +kernel) rfl⟩
theorem nd_J9_floorDiv_f86c9 : yJ9_floorDiv_f86c9.cls ≠ "java/lang/invoke/MethodHandle" ∧ yJ9_floorDiv_f86c9.cls ≠ "java/lang/invoke/VarHandle" ∧ (parseMethodDescriptor yJ9_floorDiv_f86c9.desc).map (fun d => d.parameters.length) = some 2 := by decide +kernel
theorem cy_J9_floorDiv_f86c9 : Cond.static yJ9_floorDiv_f86c9 ∈ BIG ∧ Cond.initialized yJ9_floorDiv_f86c9.cls ∈ BIG ∧ Cond.code yJ9_floorDiv_f86c9 cJ9_floorDiv_f86c9 6 (some .long) ∈ BIG := ⟨bg_of 401 (by decide +kernel) rfl, bg_of 58 (by decide +kernel) rfl, bg_of 402 (by decide +kernel) rfl⟩
theorem nd_J9_abs_067f4 : yJ9_abs_067f4.cls ≠ "java/lang/invoke/MethodHandle" ∧ yJ9_abs_067f4.cls ≠ "java/lang/invoke/VarHandle" ∧ (parseMethodDescriptor yJ9_abs_067f4.desc).map (fun d => d.parameters.length) = some 1 := by decide +kernel
theorem cy_J9_abs_067f4 : Cond.static yJ9_abs_067f4 ∈ BIG ∧ Cond.initialized yJ9_abs_067f4.cls ∈ BIG ∧ Cond.code yJ9_abs_067f4 cJ9_abs_067f4 2 (some .long) ∈ BIG := ⟨bg_of 433 (by decide +kernel) rfl, bg_of 58 (by decide +kernel) rfl, bg_of 434 (by decide +kernel) rfl⟩
theorem nd_J9_max_7cf53 : yJ9_max_7cf53.cls ≠ "java/lang/invoke/MethodHandle" ∧ yJ9_max_7cf53.cls ≠ "java/lang/invoke/VarHandle" ∧ (parseMethodDescriptor yJ9_max_7cf53.desc).map (fun d => d.parameters.length) = some 2 := by decide +kernel
theorem cy_J9_max_7cf53 : Cond.static yJ9_max_7cf53 ∈ BIG ∧ Cond.initialized yJ9_max_7cf53.cls ∈ BIG ∧ Cond.code yJ9_max_7cf53 cJ9_max_7cf53 2 (some .int) ∈ BIG := ⟨bg_of 549 (by decide +kernel) rfl, bg_of 58 (by decide +kernel) rfl, bg_of 550 (by decide +kernel) rfl⟩
theorem nd_J9_max_f86c9 : yJ9_max_f86c9.cls ≠ "java/lang/invoke/MethodHandle" ∧ yJ9_max_f86c9.cls ≠ "java/lang/invoke/VarHandle" ∧ (parseMethodDescriptor yJ9_max_f86c9.desc).map (fun d => d.parameters.length) = some 2 := by decide +kernel
theorem cy_J9_max_f86c9 : Cond.static yJ9_max_f86c9 ∈ BIG ∧ Cond.initialized yJ9_max_f86c9.cls ∈ BIG ∧ Cond.code yJ9_max_f86c9 cJ9_max_f86c9 4 (some .long) ∈ BIG := ⟨bg_of 452 (by decide +kernel) rfl, bg_of 58 (by decide +kernel) rfl, bg_of 453 (by decide +kernel) rfl⟩
theorem nd_J9_min_7cf53 : yJ9_min_7cf53.cls ≠ "java/lang/invoke/MethodHandle" ∧ yJ9_min_7cf53.cls ≠ "java/lang/invoke/VarHandle" ∧ (parseMethodDescriptor yJ9_min_7cf53.desc).map (fun d => d.parameters.length) = some 2 := by decide +kernel
theorem cy_J9_min_7cf53 : Cond.static yJ9_min_7cf53 ∈ BIG ∧ Cond.initialized yJ9_min_7cf53.cls ∈ BIG ∧ Cond.code yJ9_min_7cf53 cJ9_min_7cf53 2 (some .int) ∈ BIG := ⟨bg_of 247 (by decide +kernel) rfl, bg_of 58 (by decide +kernel) rfl, bg_of 248 (by decide +kernel) rfl⟩
theorem nd_J9_min_f86c9 : yJ9_min_f86c9.cls ≠ "java/lang/invoke/MethodHandle" ∧ yJ9_min_f86c9.cls ≠ "java/lang/invoke/VarHandle" ∧ (parseMethodDescriptor yJ9_min_f86c9.desc).map (fun d => d.parameters.length) = some 2 := by decide +kernel
theorem cy_J9_min_f86c9 : Cond.static yJ9_min_f86c9 ∈ BIG ∧ Cond.initialized yJ9_min_f86c9.cls ∈ BIG ∧ Cond.code yJ9_min_f86c9 cJ9_min_f86c9 4 (some .long) ∈ BIG := ⟨bg_of 639 (by decide +kernel) rfl, bg_of 58 (by decide +kernel) rfl, bg_of 640 (by decide +kernel) rfl⟩
theorem gc_RX4_9 : Cond.classLink RX4 9 "CamMaker$Plan" ∈ BIG := bg_of 71 (by decide +kernel) rfl
theorem gv_RX4_11 : Cond.methodLink RX4 11 yX2_init ∈ BIG := bg_of 73 (by decide +kernel) rfl
theorem gf_RX4_12 : Cond.fieldLink RX4 12 "CamMaker" "plan" "LCamMaker$Plan;" ∈ BIG := bg_of 172 (by decide +kernel) rfl
theorem gc_RX4_16 : Cond.classLink RX4 16 "CamMaker$History" ∈ BIG := bg_of 87 (by decide +kernel) rfl
theorem gf_RX4_19 : Cond.fieldLink RX4 19 "CamMaker" "history" "LCamMaker$History;" ∈ BIG := bg_of 173 (by decide +kernel) rfl
theorem gc_RX4_23 : Cond.classLink RX4 23 "CamMaker$Profile" ∈ BIG := bg_of 103 (by decide +kernel) rfl
theorem gv_RX4_25 : Cond.methodLink RX4 25 yX3_init ∈ BIG := bg_of 105 (by decide +kernel) rfl
theorem gf_RX4_28 : Cond.fieldLink RX4 28 "CamMaker" "profile" "LCamMaker$Profile;" ∈ BIG := bg_of 174 (by decide +kernel) rfl
theorem gc_RX4_32 : Cond.classLink RX4 32 "CamMaker$Choice" ∈ BIG := bg_of 125 (by decide +kernel) rfl
theorem gv_RX4_34 : Cond.methodLink RX4 34 yX0_init ∈ BIG := bg_of 127 (by decide +kernel) rfl
theorem gf_RX4_37 : Cond.fieldLink RX4 37 "CamMaker" "choice" "LCamMaker$Choice;" ∈ BIG := bg_of 175 (by decide +kernel) rfl
theorem gv_RX4_41 : GoodIn BIG (va_wsS RX4 41 yX4_fits (Cond.code yX4_fits cX4_fits 2 (some .boolean) :: BIG)) := gi_S (bg_of 189 (by decide +kernel) rfl) cy_X4_fits
theorem gv_RX4_45 : GoodIn BIG (wsV RX4 45 RX2 yX2_get (Cond.code yX2_get cX2_get 2 (some .int) :: BIG)) := gi_V (bg_of 199 (by decide +kernel) rfl) cy_X2_get
theorem gv_RX4_49 : GoodIn BIG (wsV RX4 49 RX1 yX1_forget (Cond.code yX1_forget cX1_forget 1 none :: BIG)) := gi_V (bg_of 203 (by decide +kernel) rfl) cy_X1_forget
theorem gv_RX4_52 : GoodIn BIG (wsV RX4 52 RX4 yX4_outdate (Cond.code yX4_outdate cX4_outdate 1 none :: BIG)) := gi_V (bg_of 207 (by decide +kernel) rfl) cy_X4_outdate
theorem gv_RX4_55 : GoodIn BIG (wsV RX4 55 RX2 yX2_put (Cond.code yX2_put cX2_put 3 none :: BIG)) := gi_V (bg_of 219 (by decide +kernel) rfl) cy_X2_put
theorem gv_RX4_59 : GoodIn BIG (va_wsS RX4 59 yX4_fitsPart (Cond.code yX4_fitsPart cX4_fitsPart 2 (some .boolean) :: BIG)) := gi_S (bg_of 227 (by decide +kernel) rfl) cy_X4_fitsPart
theorem gv_RX4_62 : GoodIn BIG (wsV RX4 62 RX4 yX4_remember (Cond.code yX4_remember cX4_remember 1 none :: BIG)) := gi_V (bg_of 234 (by decide +kernel) rfl) cy_X4_remember
theorem gv_RX4_65 : GoodIn BIG (va_wsS RX4 65 yX2_placeOf (Cond.code yX2_placeOf cX2_placeOf 2 (some .int) :: BIG)) := gi_S (bg_of 249 (by decide +kernel) rfl) cy_X2_placeOf
theorem gv_RX4_69 : GoodIn BIG (wsV RX4 69 RX2 yX2_hasSegment (Cond.code yX2_hasSegment cX2_hasSegment 2 (some .boolean) :: BIG)) := gi_V (bg_of 256 (by decide +kernel) rfl) cy_X2_hasSegment
theorem gv_RX4_73 : GoodIn BIG (wsV RX4 73 RX2 yX2_exchange (Cond.code yX2_exchange cX2_exchange 4 (some .int) :: BIG)) := gi_V (bg_of 261 (by decide +kernel) rfl) cy_X2_exchange
theorem gv_RX4_76 : GoodIn BIG (wsV RX4 76 RX4 yX4_change (Cond.code yX4_change cX4_change 3 (some .int) :: BIG)) := gi_V (bg_of 274 (by decide +kernel) rfl) cy_X4_change
theorem gv_RX4_79 : GoodIn BIG (wsV RX4 79 RX2 yX2_hasStep (Cond.code yX2_hasStep cX2_hasStep 2 (some .boolean) :: BIG)) := gi_V (bg_of 306 (by decide +kernel) rfl) cy_X2_hasStep
theorem gv_RX4_82 : GoodIn BIG (va_wsS RX4 82 yX2_placeOfMark (Cond.code yX2_placeOfMark cX2_placeOfMark 2 (some .int) :: BIG)) := gi_S (bg_of 310 (by decide +kernel) rfl) cy_X2_placeOfMark
theorem gv_RX4_85 : GoodIn BIG (wsV RX4 85 RX2 yX2_hasMark (Cond.code yX2_hasMark cX2_hasMark 2 (some .boolean) :: BIG)) := gi_V (bg_of 317 (by decide +kernel) rfl) cy_X2_hasMark
theorem gv_RX4_88 : GoodIn BIG (wsV RX4 88 RX2 yX2_removeMark (Cond.code yX2_removeMark cX2_removeMark 4 none :: BIG)) := gi_V (bg_of 321 (by decide +kernel) rfl) cy_X2_removeMark
theorem gv_RX4_92 : GoodIn BIG (wsV RX4 92 RX1 yX1_size (Cond.code yX1_size cX1_size 1 (some .int) :: BIG)) := gi_V (bg_of 330 (by decide +kernel) rfl) cy_X1_size
theorem gv_RX4_96 : GoodIn BIG (wsV RX4 96 RX1 yX1_restore (Cond.code yX1_restore cX1_restore 2 none :: BIG)) := gi_V (bg_of 334 (by decide +kernel) rfl) cy_X1_restore
theorem gv_RX4_99 : GoodIn BIG (wsV RX4 99 RX2 yX2_origin (Cond.code yX2_origin cX2_origin 2 (some .int) :: BIG)) := gi_V (bg_of 346 (by decide +kernel) rfl) cy_X2_origin
theorem gv_RX4_102 : GoodIn BIG (wsV RX4 102 RX2 yX2_longAheadOf (Cond.code yX2_longAheadOf cX2_longAheadOf 4 (some .int) :: BIG)) := gi_V (bg_of 351 (by decide +kernel) rfl) cy_X2_longAheadOf
theorem gv_RX4_105 : GoodIn BIG (wsV RX4 105 RX2 yX2_dwells (Cond.code yX2_dwells cX2_dwells 2 (some .boolean) :: BIG)) := gi_V (bg_of 355 (by decide +kernel) rfl) cy_X2_dwells
theorem gv_RX4_108 : GoodIn BIG (wsV RX4 108 RX4 yX4_isDrawn (Cond.code yX4_isDrawn cX4_isDrawn 1 (some .boolean) :: BIG)) := gi_V (bg_of 364 (by decide +kernel) rfl) cy_X4_isDrawn
theorem gv_RX4_112 : GoodIn BIG (wsV RX4 112 RX3 yX3_at (Cond.code yX3_at cX3_at 4 (some .long) :: BIG)) := gi_V (bg_of 439 (by decide +kernel) rfl) cy_X3_at
theorem gv_RX4_116 : GoodIn BIG (va_wsS RX4 116 yX4_isDifference (Cond.code yX4_isDifference cX4_isDifference 1 (some .boolean) :: BIG)) := gi_S (bg_of 444 (by decide +kernel) rfl) cy_X4_isDifference
theorem gc_RX4_119 : Cond.classLink RX4 119 "java/util/NoSuchElementException" ∈ BIG := bg_of 658 (by decide +kernel) rfl
theorem gv_RX4_122 : GoodIn BIG (wsV RX4 122 RX3 yX3_greatestSize (Cond.code yX3_greatestSize cX3_greatestSize 5 (some .int) :: BIG)) := gi_V (bg_of 447 (by decide +kernel) rfl) cy_X3_greatestSize
theorem gv_RX4_125 : GoodIn BIG (wsV RX4 125 RX3 yX3_firstOfSize (Cond.code yX3_firstOfSize cX3_firstOfSize 4 (some .int) :: BIG)) := gi_V (bg_of 454 (by decide +kernel) rfl) cy_X3_firstOfSize
theorem gv_RX4_128 : GoodIn BIG (wsV RX4 128 RX3 yX3_timesOfSize (Cond.code yX3_timesOfSize cX3_timesOfSize 5 (some .int) :: BIG)) := gi_V (bg_of 458 (by decide +kernel) rfl) cy_X3_timesOfSize
theorem gv_RX4_131 : GoodIn BIG (wsV RX4 131 RX3 yX3_evenness (Cond.code yX3_evenness cX3_evenness 4 (some .int) :: BIG)) := gi_V (bg_of 466 (by decide +kernel) rfl) cy_X3_evenness
theorem gv_RX4_134 : GoodIn BIG (wsV RX4 134 RX3 yX3_countBad (Cond.code yX3_countBad cX3_countBad 4 (some .int) :: BIG)) := gi_V (bg_of 482 (by decide +kernel) rfl) cy_X3_countBad
theorem gv_RX4_137 : GoodIn BIG (wsV RX4 137 RX3 yX3_findBad (Cond.code yX3_findBad cX3_findBad 5 (some .int) :: BIG)) := gi_V (bg_of 490 (by decide +kernel) rfl) cy_X3_findBad
theorem gv_RX4_140 : GoodIn BIG (wsV RX4 140 RX3 yX3_firstGreatest (Cond.code yX3_firstGreatest cX3_firstGreatest 4 (some .int) :: BIG)) := gi_V (bg_of 498 (by decide +kernel) rfl) cy_X3_firstGreatest
theorem gv_RX4_143 : GoodIn BIG (wsV RX4 143 RX3 yX3_firstLeast (Cond.code yX3_firstLeast cX3_firstLeast 4 (some .int) :: BIG)) := gi_V (bg_of 502 (by decide +kernel) rfl) cy_X3_firstLeast
theorem gv_RX4_146 : GoodIn BIG (wsV RX4 146 RX3 yX3_liftTogether (Cond.code yX3_liftTogether cX3_liftTogether 3 (some .int) :: BIG)) := gi_V (bg_of 506 (by decide +kernel) rfl) cy_X3_liftTogether
theorem gv_RX4_149 : GoodIn BIG (wsV RX4 149 RX3 yX3_metBits (Cond.code yX3_metBits cX3_metBits 3 (some .int) :: BIG)) := gi_V (bg_of 514 (by decide +kernel) rfl) cy_X3_metBits
theorem gv_RX4_152 : GoodIn BIG (wsV RX4 152 RX3 yX3_missOf (Cond.code yX3_missOf cX3_missOf 4 (some .int) :: BIG)) := gi_V (bg_of 527 (by decide +kernel) rfl) cy_X3_missOf
theorem gv_RX4_155 : GoodIn BIG (wsV RX4 155 RX2 yX2_isWhole (Cond.code yX2_isWhole cX2_isWhole 2 (some .boolean) :: BIG)) := gi_V (bg_of 368 (by decide +kernel) rfl) cy_X2_isWhole
theorem gv_RX4_158 : GoodIn BIG (wsV RX4 158 RX2 yX2_countMoving (Cond.code yX2_countMoving cX2_countMoving 3 (some .int) :: BIG)) := gi_V (bg_of 532 (by decide +kernel) rfl) cy_X2_countMoving
theorem gv_RX4_161 : GoodIn BIG (wsV RX4 161 RX0 yX0_refresh (Cond.code yX0_refresh cX0_refresh 2 none :: BIG)) := gi_V (bg_of 537 (by decide +kernel) rfl) cy_X0_refresh
theorem gv_RX4_164 : GoodIn BIG (wsV RX4 164 RX0 yX0_lawOf (Cond.code yX0_lawOf cX0_lawOf 3 (some .int) :: BIG)) := gi_V (bg_of 586 (by decide +kernel) rfl) cy_X0_lawOf
theorem gv_RX4_167 : GoodIn BIG (wsV RX4 167 RX0 yX0_second (Cond.code yX0_second cX0_second 1 (some .int) :: BIG)) := gi_V (bg_of 590 (by decide +kernel) rfl) cy_X0_second
theorem gv_RX4_170 : GoodIn BIG (wsV RX4 170 RX0 yX0_third (Cond.code yX0_third cX0_third 1 (some .int) :: BIG)) := gi_V (bg_of 594 (by decide +kernel) rfl) cy_X0_third
theorem gv_RX4_173 : GoodIn BIG (wsV RX4 173 RX0 yX0_isGood (Cond.code yX0_isGood cX0_isGood 1 (some .boolean) :: BIG)) := gi_V (bg_of 598 (by decide +kernel) rfl) cy_X0_isGood
theorem gv_RX4_176 : GoodIn BIG (wsV RX4 176 RX3 yX3_greatestRoller (Cond.code yX3_greatestRoller cX3_greatestRoller 3 (some .int) :: BIG)) := gi_V (bg_of 606 (by decide +kernel) rfl) cy_X3_greatestRoller
theorem gv_RX4_179 : GoodIn BIG (wsV RX4 179 RX3 yX3_leastBase (Cond.code yX3_leastBase cX3_leastBase 8 (some .int) :: BIG)) := gi_V (bg_of 629 (by decide +kernel) rfl) cy_X3_leastBase
theorem gv_RX4_182 : GoodIn BIG (wsV RX4 182 RX3 yX3_greatestSpeed (Cond.code yX3_greatestSpeed cX3_greatestSpeed 7 (some .int) :: BIG)) := gi_V (bg_of 634 (by decide +kernel) rfl) cy_X3_greatestSpeed
theorem gv_RX4_185 : GoodIn BIG (wsV RX4 185 RX3 yX3_isGood (Cond.code yX3_isGood cX3_isGood 2 (some .boolean) :: BIG)) := gi_V (bg_of 645 (by decide +kernel) rfl) cy_X3_isGood
theorem gv_RX4_186 : GoodIn BIG (wsV RX4 186 RX1 yX1_keep (Cond.code yX1_keep cX1_keep 2 none :: BIG)) := gi_V (bg_of 238 (by decide +kernel) rfl) cy_X1_keep
theorem gv_RX4_189 : GoodIn BIG (wsV RX4 189 RX3 yX3_outdate (Cond.code yX3_outdate cX3_outdate 1 none :: BIG)) := gi_V (bg_of 211 (by decide +kernel) rfl) cy_X3_outdate
theorem gv_RX4_190 : GoodIn BIG (wsV RX4 190 RX0 yX0_outdate (Cond.code yX0_outdate cX0_outdate 1 none :: BIG)) := gi_V (bg_of 215 (by decide +kernel) rfl) cy_X0_outdate
theorem gv_RX4_191 : GoodIn BIG (wsV RX4 191 RX3 yX3_refresh (Cond.code yX3_refresh cX3_refresh 2 none :: BIG)) := gi_V (bg_of 373 (by decide +kernel) rfl) cy_X3_refresh
theorem gf_RX4_192 : Cond.fieldLink RX4 192 "CamMaker" "LEAST" "[I" ∈ BIG := bg_of 192 (by decide +kernel) rfl
theorem gf_RX4_196 : Cond.fieldLink RX4 196 "CamMaker" "GREATEST" "[I" ∈ BIG := bg_of 194 (by decide +kernel) rfl
theorem gv_RX4_199 : GoodIn BIG (va_wsS RX4 199 yX4_lies (Cond.code yX4_lies cX4_lies 4 (some .boolean) :: BIG)) := gi_S (bg_of 196 (by decide +kernel) rfl) cy_X4_lies
theorem gf_RX4_203 : Cond.fieldLink RX4 203 "CamMaker" "LEAST_PART" "[I" ∈ BIG := bg_of 230 (by decide +kernel) rfl
theorem gf_RX4_206 : Cond.fieldLink RX4 206 "CamMaker" "GREATEST_PART" "[I" ∈ BIG := bg_of 232 (by decide +kernel) rfl
theorem gf_RX0_9 : Cond.fieldLink RX0 9 "CamMaker$Choice" "bent" "[I" ∈ BIG := bg_of 133 (by decide +kernel) rfl
theorem gf_RX0_15 : Cond.fieldLink RX0 15 "CamMaker$Choice" "seconds" "[I" ∈ BIG := bg_of 134 (by decide +kernel) rfl
theorem gf_RX0_18 : Cond.fieldLink RX0 18 "CamMaker$Choice" "thirds" "[I" ∈ BIG := bg_of 135 (by decide +kernel) rfl
theorem gf_RX0_21 : Cond.fieldLink RX0 21 "CamMaker$Choice" "goods" "[Z" ∈ BIG := bg_of 136 (by decide +kernel) rfl
theorem gf_RX0_25 : Cond.fieldLink RX0 25 "CamMaker$Choice" "plan" "LCamMaker$Plan;" ∈ BIG := bg_of 131 (by decide +kernel) rfl
theorem gf_RX0_29 : Cond.fieldLink RX0 29 "CamMaker$Choice" "trial" "LCamMaker$Profile;" ∈ BIG := bg_of 132 (by decide +kernel) rfl
theorem gf_RX0_33 : Cond.fieldLink RX0 33 "CamMaker$Choice" "fresh" "Z" ∈ BIG := bg_of 143 (by decide +kernel) rfl
theorem gv_RX0_37 : GoodIn BIG (wsV RX0 37 RX0 yX0_findBent (Cond.code yX0_findBent cX0_findBent 2 none :: BIG)) := gi_V (bg_of 541 (by decide +kernel) rfl) cy_X0_findBent
theorem gv_RX0_40 : GoodIn BIG (wsV RX0 40 RX3 yX3_draw (Cond.code yX3_draw cX3_draw 2 none :: BIG)) := gi_V (bg_of 551 (by decide +kernel) rfl) cy_X3_draw
theorem gf_RX0_45 : Cond.fieldLink RX0 45 "CamMaker$Choice" "links" "I" ∈ BIG := bg_of 138 (by decide +kernel) rfl
theorem gv_RX0_49 : GoodIn BIG (wsV RX0 49 RX0 yX0_measureLink (Cond.code yX0_measureLink cX0_measureLink 8 none :: BIG)) := gi_V (bg_of 552 (by decide +kernel) rfl) cy_X0_measureLink
theorem gv_RX0_53 : GoodIn BIG (wsV RX0 53 RX0 yX0_compareAll (Cond.code yX0_compareAll cX0_compareAll 2 none :: BIG)) := gi_V (bg_of 570 (by decide +kernel) rfl) cy_X0_compareAll
theorem gf_RX0_56 : Cond.fieldLink RX0 56 "CamMaker$Choice" "bestSecond" "I" ∈ BIG := bg_of 140 (by decide +kernel) rfl
theorem gf_RX0_59 : Cond.fieldLink RX0 59 "CamMaker$Choice" "bestThird" "I" ∈ BIG := bg_of 141 (by decide +kernel) rfl
theorem gf_RX0_62 : Cond.fieldLink RX0 62 "CamMaker$Choice" "bestGood" "Z" ∈ BIG := bg_of 142 (by decide +kernel) rfl
theorem gv_RX0_65 : GoodIn BIG (wsV RX0 65 RX2 yX2_dwells (Cond.code yX2_dwells cX2_dwells 2 (some .boolean) :: BIG)) := gi_V (bg_of 546 (by decide +kernel) rfl) cy_X2_dwells
theorem gv_RX0_71 : GoodIn BIG (va_wsS RX0 71 yX2_placeOf (Cond.code yX2_placeOf cX2_placeOf 2 (some .int) :: BIG)) := gi_S (bg_of 547 (by decide +kernel) rfl) cy_X2_placeOf
theorem gv_RX0_75 : GoodIn BIG (wsV RX0 75 RX2 yX2_get (Cond.code yX2_get cX2_get 2 (some .int) :: BIG)) := gi_V (bg_of 545 (by decide +kernel) rfl) cy_X2_get
theorem gf_RX0_79 : Cond.fieldLink RX0 79 "CamMaker$Choice" "size" "I" ∈ BIG := bg_of 137 (by decide +kernel) rfl
theorem gf_RX0_82 : Cond.fieldLink RX0 82 "CamMaker$Choice" "bestWay" "I" ∈ BIG := bg_of 139 (by decide +kernel) rfl
theorem gv_RX0_85 : GoodIn BIG (wsV RX0 85 RX0 yX0_lawIn (Cond.code yX0_lawIn cX0_lawIn 3 (some .int) :: BIG)) := gi_V (bg_of 578 (by decide +kernel) rfl) cy_X0_lawIn
theorem gv_RX0_88 : GoodIn BIG (va_wsS RX0 88 yJ9_max_7cf53 (Cond.code yJ9_max_7cf53 cJ9_max_7cf53 2 (some .int) :: BIG)) := gi_S (bg_of 548 (by decide +kernel) rfl) cy_J9_max_7cf53
theorem gv_RX0_93 : GoodIn BIG (wsV RX0 93 RX0 yX0_measurePair (Cond.code yX0_measurePair cX0_measurePair 12 none :: BIG)) := gi_V (bg_of 556 (by decide +kernel) rfl) cy_X0_measurePair
theorem gv_RX0_97 : GoodIn BIG (wsV RX0 97 RX2 yX2_longAheadOf (Cond.code yX2_longAheadOf cX2_longAheadOf 4 (some .int) :: BIG)) := gi_V (bg_of 568 (by decide +kernel) rfl) cy_X2_longAheadOf
theorem gv_RX0_100 : GoodIn BIG (wsV RX0 100 RX3 yX3_drawBy (Cond.code yX3_drawBy cX3_drawBy 8 none :: BIG)) := gi_V (bg_of 569 (by decide +kernel) rfl) cy_X3_drawBy
theorem gv_RX0_104 : GoodIn BIG (wsV RX0 104 RX3 yX3_measure (Cond.code yX3_measure cX3_measure 18 none :: BIG)) := gi_V (bg_of 560 (by decide +kernel) rfl) cy_X3_measure
theorem gv_RX0_107 : GoodIn BIG (wsV RX0 107 RX3 yX3_at (Cond.code yX3_at cX3_at 4 (some .long) :: BIG)) := gi_V (bg_of 561 (by decide +kernel) rfl) cy_X3_at
theorem gv_RX0_111 : GoodIn BIG (va_wsS RX0 111 yJ9_abs_067f4 (Cond.code yJ9_abs_067f4 cJ9_abs_067f4 2 (some .long) :: BIG)) := gi_S (bg_of 562 (by decide +kernel) rfl) cy_J9_abs_067f4
theorem gv_RX0_115 : GoodIn BIG (va_wsS RX0 115 yJ9_max_f86c9 (Cond.code yJ9_max_f86c9 cJ9_max_f86c9 4 (some .long) :: BIG)) := gi_S (bg_of 563 (by decide +kernel) rfl) cy_J9_max_f86c9
theorem gv_RX0_118 : GoodIn BIG (wsV RX0 118 RX3 yX3_isGoodAt (Cond.code yX3_isGoodAt cX3_isGoodAt 3 (some .boolean) :: BIG)) := gi_V (bg_of 564 (by decide +kernel) rfl) cy_X3_isGoodAt
theorem gv_RX0_121 : GoodIn BIG (wsV RX0 121 RX0 yX0_compare (Cond.code yX0_compare cX0_compare 9 none :: BIG)) := gi_V (bg_of 574 (by decide +kernel) rfl) cy_X0_compare
theorem gv_RX0_124 : GoodIn BIG (wsV RX0 124 RX0 yX0_isBetter (Cond.code yX0_isBetter cX0_isBetter 4 (some .boolean) :: BIG)) := gi_V (bg_of 582 (by decide +kernel) rfl) cy_X0_isBetter
theorem gf_RX1_11 : Cond.fieldLink RX1 11 "CamMaker$History" "rows" "[I" ∈ BIG := bg_of 93 (by decide +kernel) rfl
theorem gf_RX1_15 : Cond.fieldLink RX1 15 "CamMaker$History" "kept" "I" ∈ BIG := bg_of 94 (by decide +kernel) rfl
theorem gf_RX1_19 : Cond.fieldLink RX1 19 "CamMaker$History" "next" "I" ∈ BIG := bg_of 95 (by decide +kernel) rfl
theorem gv_RX1_22 : GoodIn BIG (wsV RX1 22 RX2 yX2_copyTo (Cond.code yX2_copyTo cX2_copyTo 3 none :: BIG)) := gi_V (bg_of 242 (by decide +kernel) rfl) cy_X2_copyTo
theorem gv_RX1_28 : GoodIn BIG (va_wsS RX1 28 yJ9_min_7cf53 (Cond.code yJ9_min_7cf53 cJ9_min_7cf53 2 (some .int) :: BIG)) := gi_S (bg_of 246 (by decide +kernel) rfl) cy_J9_min_7cf53
theorem gv_RX1_34 : GoodIn BIG (wsV RX1 34 RX2 yX2_copyFrom (Cond.code yX2_copyFrom cX2_copyFrom 3 none :: BIG)) := gi_V (bg_of 338 (by decide +kernel) rfl) cy_X2_copyFrom
theorem gf_RX2_9 : Cond.fieldLink RX2 9 "CamMaker$Plan" "row" "[I" ∈ BIG := bg_of 82 (by decide +kernel) rfl
theorem gv_RX2_24 : GoodIn BIG (wsV RX2 24 RX2 yX2_get (Cond.code yX2_get cX2_get 2 (some .int) :: BIG)) := gi_V (bg_of 260 (by decide +kernel) rfl) cy_X2_get
theorem gv_RX2_28 : GoodIn BIG (wsV RX2 28 RX2 yX2_put (Cond.code yX2_put cX2_put 3 none :: BIG)) := gi_V (bg_of 265 (by decide +kernel) rfl) cy_X2_put
theorem gv_RX2_32 : GoodIn BIG (va_wsS RX2 32 yX2_placeOfMark (Cond.code yX2_placeOfMark cX2_placeOfMark 2 (some .int) :: BIG)) := gi_S (bg_of 325 (by decide +kernel) rfl) cy_X2_placeOfMark
theorem gv_RX2_36 : GoodIn BIG (va_wsS RX2 36 yX2_placeOf (Cond.code yX2_placeOf cX2_placeOf 2 (some .int) :: BIG)) := gi_S (bg_of 350 (by decide +kernel) rfl) cy_X2_placeOf
theorem gv_RX2_39 : GoodIn BIG (wsV RX2 39 RX2 yX2_origin (Cond.code yX2_origin cX2_origin 2 (some .int) :: BIG)) := gi_V (bg_of 359 (by decide +kernel) rfl) cy_X2_origin
theorem gv_RX2_42 : GoodIn BIG (wsV RX2 42 RX2 yX2_dwells (Cond.code yX2_dwells cX2_dwells 2 (some .boolean) :: BIG)) := gi_V (bg_of 536 (by decide +kernel) rfl) cy_X2_dwells
theorem gv_RX2_46 : GoodIn BIG (wsV RX2 46 RX2 yX2_longAheadOf (Cond.code yX2_longAheadOf cX2_longAheadOf 4 (some .int) :: BIG)) := gi_V (bg_of 372 (by decide +kernel) rfl) cy_X2_longAheadOf
theorem gc_RX3_9 : Cond.classLink RX3 9 "[[J" ∈ BIG := bg_of 109 (by decide +kernel) rfl
theorem gf_RX3_11 : Cond.fieldLink RX3 11 "CamMaker$Profile" "held" "[[J" ∈ BIG := bg_of 112 (by decide +kernel) rfl
theorem gf_RX3_16 : Cond.fieldLink RX3 16 "CamMaker$Profile" "plan" "LCamMaker$Plan;" ∈ BIG := bg_of 111 (by decide +kernel) rfl
theorem gf_RX3_20 : Cond.fieldLink RX3 20 "CamMaker$Profile" "fresh" "Z" ∈ BIG := bg_of 114 (by decide +kernel) rfl
theorem gv_RX3_24 : GoodIn BIG (wsV RX3 24 RX3 yX3_draw (Cond.code yX3_draw cX3_draw 2 none :: BIG)) := gi_V (bg_of 377 (by decide +kernel) rfl) cy_X3_draw
theorem gf_RX3_27 : Cond.fieldLink RX3 27 "CamMaker$Profile" "steps" "I" ∈ BIG := bg_of 113 (by decide +kernel) rfl
theorem gv_RX3_31 : GoodIn BIG (wsV RX3 31 RX3 yX3_measure (Cond.code yX3_measure cX3_measure 18 none :: BIG)) := gi_V (bg_of 407 (by decide +kernel) rfl) cy_X3_measure
theorem gv_RX3_35 : GoodIn BIG (wsV RX3 35 RX2 yX2_get (Cond.code yX2_get cX2_get 2 (some .int) :: BIG)) := gi_V (bg_of 381 (by decide +kernel) rfl) cy_X2_get
theorem gv_RX3_41 : GoodIn BIG (va_wsS RX3 41 yX2_placeOf (Cond.code yX2_placeOf cX2_placeOf 2 (some .int) :: BIG)) := gi_S (bg_of 382 (by decide +kernel) rfl) cy_X2_placeOf
theorem gv_RX3_45 : GoodIn BIG (wsV RX3 45 RX3 yX3_drawBy (Cond.code yX3_drawBy cX3_drawBy 8 none :: BIG)) := gi_V (bg_of 383 (by decide +kernel) rfl) cy_X3_drawBy
theorem gv_RX3_49 : GoodIn BIG (wsV RX3 49 RX2 yX2_longAheadOf (Cond.code yX2_longAheadOf cX2_longAheadOf 4 (some .int) :: BIG)) := gi_V (bg_of 387 (by decide +kernel) rfl) cy_X2_longAheadOf
theorem gv_RX3_52 : GoodIn BIG (wsV RX3 52 RX2 yX2_origin (Cond.code yX2_origin cX2_origin 2 (some .int) :: BIG)) := gi_V (bg_of 388 (by decide +kernel) rfl) cy_X2_origin
theorem gv_RX3_55 : GoodIn BIG (va_wsS RX3 55 yX3_riseBy (Cond.code yX3_riseBy cX3_riseBy 11 (some .long) :: BIG)) := gi_S (bg_of 389 (by decide +kernel) rfl) cy_X3_riseBy
theorem gv_RX3_59 : GoodIn BIG (wsV RX3 59 RX3 yX3_put (Cond.code yX3_put cX3_put 5 none :: BIG)) := gi_V (bg_of 403 (by decide +kernel) rfl) cy_X3_put
theorem gk_RX3_63 : Cond.constantLong RX3 63 (2) ∈ BIG := bg_of 392 (by decide +kernel) rfl
theorem gk_RX3_65 : Cond.constantLong RX3 65 (10) ∈ BIG := bg_of 393 (by decide +kernel) rfl
theorem gk_RX3_67 : Cond.constantLong RX3 67 (15) ∈ BIG := bg_of 394 (by decide +kernel) rfl
theorem gk_RX3_69 : Cond.constantLong RX3 69 (6) ∈ BIG := bg_of 395 (by decide +kernel) rfl
theorem gk_RX3_71 : Cond.constantLong RX3 71 (35) ∈ BIG := bg_of 396 (by decide +kernel) rfl
theorem gk_RX3_73 : Cond.constantLong RX3 73 (84) ∈ BIG := bg_of 397 (by decide +kernel) rfl
theorem gk_RX3_75 : Cond.constantLong RX3 75 (70) ∈ BIG := bg_of 398 (by decide +kernel) rfl
theorem gk_RX3_77 : Cond.constantLong RX3 77 (20) ∈ BIG := bg_of 399 (by decide +kernel) rfl
theorem gv_RX3_79 : GoodIn BIG (va_wsS RX3 79 yJ9_floorDiv_f86c9 (Cond.code yJ9_floorDiv_f86c9 cJ9_floorDiv_f86c9 6 (some .long) :: BIG)) := gi_S (bg_of 400 (by decide +kernel) rfl) cy_J9_floorDiv_f86c9
theorem gv_RX3_85 : GoodIn BIG (wsV RX3 85 RX3 yX3_at (Cond.code yX3_at cX3_at 4 (some .long) :: BIG)) := gi_V (bg_of 411 (by decide +kernel) rfl) cy_X3_at
theorem gk_RX3_89 : Cond.constantLong RX3 89 (113) ∈ BIG := bg_of 415 (by decide +kernel) rfl
theorem gk_RX3_91 : Cond.constantLong RX3 91 (1420) ∈ BIG := bg_of 416 (by decide +kernel) rfl
theorem gk_RX3_93 : Cond.constantLong RX3 93 (12769) ∈ BIG := bg_of 417 (by decide +kernel) rfl
theorem gk_RX3_95 : Cond.constantLong RX3 95 (504100) ∈ BIG := bg_of 418 (by decide +kernel) rfl
theorem gv_RX3_97 : GoodIn BIG (wsV RX3 97 RX3 yX3_measureRoller (Cond.code yX3_measureRoller cX3_measureRoller 11 none :: BIG)) := gi_V (bg_of 419 (by decide +kernel) rfl) cy_X3_measureRoller
theorem gv_RX3_101 : GoodIn BIG (wsV RX3 101 RX3 yX3_rest (Cond.code yX3_rest cX3_rest 2 (some .long) :: BIG)) := gi_V (bg_of 435 (by decide +kernel) rfl) cy_X3_rest
theorem gk_RX3_105 : Cond.constantLong RX3 105 (1000) ∈ BIG := bg_of 431 (by decide +kernel) rfl
theorem gv_RX3_107 : GoodIn BIG (va_wsS RX3 107 yX3_bend (Cond.code yX3_bend cX3_bend 6 (some .long) :: BIG)) := gi_S (bg_of 423 (by decide +kernel) rfl) cy_X3_bend
theorem gv_RX3_111 : GoodIn BIG (va_wsS RX3 111 yX3_undercutOf (Cond.code yX3_undercutOf cX3_undercutOf 8 (some .int) :: BIG)) := gi_S (bg_of 426 (by decide +kernel) rfl) cy_X3_undercutOf
theorem gv_RX3_115 : GoodIn BIG (va_wsS RX3 115 yJ9_abs_067f4 (Cond.code yJ9_abs_067f4 cJ9_abs_067f4 2 (some .long) :: BIG)) := gi_S (bg_of 432 (by decide +kernel) rfl) cy_J9_abs_067f4
theorem gk_RX3_119 : Cond.constantLong RX3 119 (2097151) ∈ BIG := bg_of 429 (by decide +kernel) rfl
theorem gk_RX3_121 : Cond.constantLong RX3 121 (3037000499) ∈ BIG := bg_of 430 (by decide +kernel) rfl
theorem gv_RX3_123 : GoodIn BIG (va_wsS RX3 123 yJ9_max_f86c9 (Cond.code yJ9_max_f86c9 cJ9_max_f86c9 4 (some .long) :: BIG)) := gi_S (bg_of 451 (by decide +kernel) rfl) cy_J9_max_f86c9
theorem gv_RX3_126 : GoodIn BIG (wsV RX3 126 RX3 yX3_isBad (Cond.code yX3_isBad cX3_isBad 3 (some .boolean) :: BIG)) := gi_V (bg_of 486 (by decide +kernel) rfl) cy_X3_isBad
theorem gv_RX3_130 : GoodIn BIG (va_wsS RX3 130 yX2_placeOfMark (Cond.code yX2_placeOfMark cX2_placeOfMark 2 (some .int) :: BIG)) := gi_S (bg_of 522 (by decide +kernel) rfl) cy_X2_placeOfMark
theorem gv_RX3_133 : GoodIn BIG (wsV RX3 133 RX3 yX3_missOf (Cond.code yX3_missOf cX3_missOf 4 (some .int) :: BIG)) := gi_V (bg_of 518 (by decide +kernel) rfl) cy_X3_missOf
theorem gv_RX3_136 : GoodIn BIG (wsV RX3 136 RX3 yX3_isGoodAt (Cond.code yX3_isGoodAt cX3_isGoodAt 3 (some .boolean) :: BIG)) := gi_V (bg_of 649 (by decide +kernel) rfl) cy_X3_isGoodAt
theorem gv_RX3_144 : GoodIn BIG (va_wsS RX3 144 yJ9_max_7cf53 (Cond.code yJ9_max_7cf53 cJ9_max_7cf53 2 (some .int) :: BIG)) := gi_S (bg_of 611 (by decide +kernel) rfl) cy_J9_max_7cf53
theorem gv_RX3_146 : GoodIn BIG (va_wsS RX3 146 yJ9_min_7cf53 (Cond.code yJ9_min_7cf53 cJ9_min_7cf53 2 (some .int) :: BIG)) := gi_S (bg_of 612 (by decide +kernel) rfl) cy_J9_min_7cf53
theorem gv_RX3_149 : GoodIn BIG (wsV RX3 149 RX3 yX3_isCalm (Cond.code yX3_isCalm cX3_isCalm 4 (some .boolean) :: BIG)) := gi_V (bg_of 613 (by decide +kernel) rfl) cy_X3_isCalm
theorem gv_RX3_152 : GoodIn BIG (wsV RX3 152 RX3 yX3_lowerToClear (Cond.code yX3_lowerToClear cX3_lowerToClear 4 (some .int) :: BIG)) := gi_V (bg_of 617 (by decide +kernel) rfl) cy_X3_lowerToClear
theorem gv_RX3_155 : GoodIn BIG (wsV RX3 155 RX3 yX3_clearUpTo (Cond.code yX3_clearUpTo cX3_clearUpTo 4 (some .int) :: BIG)) := gi_V (bg_of 625 (by decide +kernel) rfl) cy_X3_clearUpTo
theorem gv_RX3_158 : GoodIn BIG (wsV RX3 158 RX3 yX3_undercutBy (Cond.code yX3_undercutBy cX3_undercutBy 7 (some .int) :: BIG)) := gi_V (bg_of 621 (by decide +kernel) rfl) cy_X3_undercutBy
theorem gv_RX3_164 : GoodIn BIG (va_wsS RX3 164 yJ9_min_f86c9 (Cond.code yJ9_min_f86c9 cJ9_min_f86c9 4 (some .long) :: BIG)) := gi_S (bg_of 638 (by decide +kernel) rfl) cy_J9_min_f86c9
theorem gv_RL_7 : GoodIn BIG (wsV RL 7 RX4 yX4_diff (Cond.code yX4_diff cX4_diff 3 (some .int) :: BIG)) := gi_V (bg_of 654 (by decide +kernel) rfl) cy_X4_diff
theorem gc_RL_8 : Cond.classLink RL 8 "CamMaker" ∈ BIG := bg_of 63 (by decide +kernel) rfl
theorem gc_RL_13 : Cond.classLink RL 13 "java/util/NoSuchElementException" ∈ BIG := bg_of 653 (by decide +kernel) rfl
theorem gv_RL_15 : GoodIn BIG (wsV RL 15 RX4 yX4_shape (Cond.code yX4_shape cX4_shape 3 (some .long) :: BIG)) := gi_V (bg_of 722 (by decide +kernel) rfl) cy_X4_shape
theorem gv_RL_19 : GoodIn BIG (wsV RL 19 RX4 yX4_force (Cond.code yX4_force cX4_force 2 (some .long) :: BIG)) := gi_V (bg_of 729 (by decide +kernel) rfl) cy_X4_force
theorem gv_RL_23 : Cond.methodLink RL 23 yX4_init ∈ BIG := bg_of 65 (by decide +kernel) rfl
theorem gc_RL_24 : Cond.classLink RL 24 "CamMakerModel" ∈ BIG := bg_of 737 (by decide +kernel) rfl
theorem gv_RL_26 : Cond.methodLink RL 26 yX5_init ∈ BIG := bg_of 739 (by decide +kernel) rfl
theorem gv_RL_27 : GoodIn BIG (wsV RL 27 RX4 yX4_steps (Cond.code yX4_steps cX4_steps 3 (some .int) :: BIG)) := gi_V (bg_of 185 (by decide +kernel) rfl) cy_X4_steps
theorem gv_RL_31 : GoodIn BIG (wsV RL 31 RX5 yX5_steps (Cond.code yX5_steps cX5_steps 3 (some .int) :: BIG)) := gi_V (bg_of 777 (by decide +kernel) rfl) cy_X5_steps
theorem gv_RL_32 : GoodIn BIG (wsV RL 32 RX4 yX4_segment (Cond.code yX4_segment cX4_segment 5 (some .int) :: BIG)) := gi_V (bg_of 223 (by decide +kernel) rfl) cy_X4_segment
theorem gv_RL_36 : GoodIn BIG (wsV RL 36 RX5 yX5_segment (Cond.code yX5_segment cX5_segment 5 (some .int) :: BIG)) := gi_V (bg_of 786 (by decide +kernel) rfl) cy_X5_segment
theorem gv_RL_37 : GoodIn BIG (wsV RL 37 RX4 yX4_alter (Cond.code yX4_alter cX4_alter 4 (some .int) :: BIG)) := gi_V (bg_of 252 (by decide +kernel) rfl) cy_X4_alter
theorem gv_RL_40 : GoodIn BIG (wsV RL 40 RX5 yX5_alter (Cond.code yX5_alter cX5_alter 5 (some .int) :: BIG)) := gi_V (bg_of 797 (by decide +kernel) rfl) cy_X5_alter
theorem gv_RL_41 : GoodIn BIG (wsV RL 41 RX4 yX4_drop (Cond.code yX4_drop cX4_drop 2 (some .int) :: BIG)) := gi_V (bg_of 266 (by decide +kernel) rfl) cy_X4_drop
theorem gv_RL_45 : GoodIn BIG (wsV RL 45 RX5 yX5_drop (Cond.code yX5_drop cX5_drop 1 (some .int) :: BIG)) := gi_V (bg_of 809 (by decide +kernel) rfl) cy_X5_drop
theorem gv_RL_46 : GoodIn BIG (wsV RL 46 RX4 yX4_start (Cond.code yX4_start cX4_start 2 (some .int) :: BIG)) := gi_V (bg_of 270 (by decide +kernel) rfl) cy_X4_start
theorem gv_RL_49 : GoodIn BIG (wsV RL 49 RX5 yX5_start (Cond.code yX5_start cX5_start 2 (some .int) :: BIG)) := gi_V (bg_of 813 (by decide +kernel) rfl) cy_X5_start
theorem gv_RL_50 : GoodIn BIG (wsV RL 50 RX4 yX4_base (Cond.code yX4_base cX4_base 2 (some .int) :: BIG)) := gi_V (bg_of 278 (by decide +kernel) rfl) cy_X4_base
theorem gv_RL_53 : GoodIn BIG (wsV RL 53 RX5 yX5_base (Cond.code yX5_base cX5_base 2 (some .int) :: BIG)) := gi_V (bg_of 817 (by decide +kernel) rfl) cy_X5_base
theorem gv_RL_54 : GoodIn BIG (wsV RL 54 RX4 yX4_roller (Cond.code yX4_roller cX4_roller 2 (some .int) :: BIG)) := gi_V (bg_of 282 (by decide +kernel) rfl) cy_X4_roller
theorem gv_RL_57 : GoodIn BIG (wsV RL 57 RX5 yX5_roller (Cond.code yX5_roller cX5_roller 2 (some .int) :: BIG)) := gi_V (bg_of 823 (by decide +kernel) rfl) cy_X5_roller
theorem gv_RL_58 : GoodIn BIG (wsV RL 58 RX4 yX4_spring (Cond.code yX4_spring cX4_spring 4 (some .boolean) :: BIG)) := gi_V (bg_of 286 (by decide +kernel) rfl) cy_X4_spring
theorem gv_RL_62 : GoodIn BIG (wsV RL 62 RX5 yX5_spring (Cond.code yX5_spring cX5_spring 4 (some .boolean) :: BIG)) := gi_V (bg_of 827 (by decide +kernel) rfl) cy_X5_spring
theorem gv_RL_63 : GoodIn BIG (wsV RL 63 RX4 yX4_speed (Cond.code yX4_speed cX4_speed 2 (some .int) :: BIG)) := gi_V (bg_of 290 (by decide +kernel) rfl) cy_X4_speed
theorem gv_RL_66 : GoodIn BIG (wsV RL 66 RX5 yX5_speed (Cond.code yX5_speed cX5_speed 2 (some .int) :: BIG)) := gi_V (bg_of 832 (by decide +kernel) rfl) cy_X5_speed
theorem gv_RL_67 : GoodIn BIG (wsV RL 67 RX4 yX4_steepest (Cond.code yX4_steepest cX4_steepest 2 (some .int) :: BIG)) := gi_V (bg_of 294 (by decide +kernel) rfl) cy_X4_steepest
theorem gv_RL_70 : GoodIn BIG (wsV RL 70 RX5 yX5_steepest (Cond.code yX5_steepest cX5_steepest 2 (some .int) :: BIG)) := gi_V (bg_of 836 (by decide +kernel) rfl) cy_X5_steepest
theorem gv_RL_71 : GoodIn BIG (wsV RL 71 RX4 yX4_slack (Cond.code yX4_slack cX4_slack 2 (some .int) :: BIG)) := gi_V (bg_of 298 (by decide +kernel) rfl) cy_X4_slack
theorem gv_RL_74 : GoodIn BIG (wsV RL 74 RX5 yX5_slack (Cond.code yX5_slack cX5_slack 2 (some .int) :: BIG)) := gi_V (bg_of 840 (by decide +kernel) rfl) cy_X5_slack
theorem gv_RL_75 : GoodIn BIG (wsV RL 75 RX4 yX4_mark (Cond.code yX4_mark cX4_mark 5 (some .int) :: BIG)) := gi_V (bg_of 302 (by decide +kernel) rfl) cy_X4_mark
theorem gv_RL_78 : GoodIn BIG (wsV RL 78 RX5 yX5_mark (Cond.code yX5_mark cX5_mark 5 (some .int) :: BIG)) := gi_V (bg_of 845 (by decide +kernel) rfl) cy_X5_mark
theorem gv_RL_79 : GoodIn BIG (wsV RL 79 RX4 yX4_unmark (Cond.code yX4_unmark cX4_unmark 2 (some .boolean) :: BIG)) := gi_V (bg_of 313 (by decide +kernel) rfl) cy_X4_unmark
theorem gv_RL_83 : GoodIn BIG (wsV RL 83 RX5 yX5_unmark (Cond.code yX5_unmark cX5_unmark 3 (some .boolean) :: BIG)) := gi_V (bg_of 853 (by decide +kernel) rfl) cy_X5_unmark
theorem gv_RL_84 : GoodIn BIG (wsV RL 84 RX4 yX4_back (Cond.code yX4_back cX4_back 1 (some .boolean) :: BIG)) := gi_V (bg_of 326 (by decide +kernel) rfl) cy_X4_back
theorem gv_RL_88 : GoodIn BIG (wsV RL 88 RX5 yX5_back (Cond.code yX5_back cX5_back 2 (some .boolean) :: BIG)) := gi_V (bg_of 861 (by decide +kernel) rfl) cy_X5_back
theorem gv_RL_89 : GoodIn BIG (wsV RL 89 RX4 yX4_of (Cond.code yX4_of cX4_of 3 (some .int) :: BIG)) := gi_V (bg_of 342 (by decide +kernel) rfl) cy_X4_of
theorem gv_RL_92 : GoodIn BIG (wsV RL 92 RX5 yX5_of (Cond.code yX5_of cX5_of 3 (some .int) :: BIG)) := gi_V (bg_of 865 (by decide +kernel) rfl) cy_X5_of
theorem gv_RL_93 : GoodIn BIG (wsV RL 93 RX4 yX4_lift (Cond.code yX4_lift cX4_lift 2 (some .int) :: BIG)) := gi_V (bg_of 360 (by decide +kernel) rfl) cy_X4_lift
theorem gv_RL_96 : GoodIn BIG (wsV RL 96 RX5 yX5_lift (Cond.code yX5_lift cX5_lift 2 (some .int) :: BIG)) := gi_V (bg_of 881 (by decide +kernel) rfl) cy_X5_lift
theorem gv_RL_102 : GoodIn BIG (wsV RL 102 RX5 yX5_diff (Cond.code yX5_diff cX5_diff 3 (some .int) :: BIG)) := gi_V (bg_of 916 (by decide +kernel) rfl) cy_X5_diff
theorem gv_RL_103 : GoodIn BIG (wsV RL 103 RX5 yX5_thrown (Cond.code yX5_thrown cX5_thrown 1 (some .int) :: BIG)) := gi_V (bg_of 733 (by decide +kernel) rfl) cy_X5_thrown
theorem gv_RL_106 : GoodIn BIG (wsV RL 106 RX4 yX4_most (Cond.code yX4_most cX4_most 3 (some .int) :: BIG)) := gi_V (bg_of 440 (by decide +kernel) rfl) cy_X4_most
theorem gv_RL_109 : GoodIn BIG (wsV RL 109 RX5 yX5_most (Cond.code yX5_most cX5_most 7 (some .int) :: BIG)) := gi_V (bg_of 928 (by decide +kernel) rfl) cy_X5_most
theorem gv_RL_110 : GoodIn BIG (wsV RL 110 RX4 yX4_border (Cond.code yX4_border cX4_border 2 (some .int) :: BIG)) := gi_V (bg_of 462 (by decide +kernel) rfl) cy_X4_border
theorem gv_RL_113 : GoodIn BIG (wsV RL 113 RX5 yX5_border (Cond.code yX5_border cX5_border 4 (some .int) :: BIG)) := gi_V (bg_of 939 (by decide +kernel) rfl) cy_X5_border
theorem gv_RL_116 : GoodIn BIG (wsV RL 116 RX5 yX5_shape (Cond.code yX5_shape cX5_shape 3 (some .long) :: BIG)) := gi_V (bg_of 943 (by decide +kernel) rfl) cy_X5_shape
theorem gv_RL_117 : GoodIn BIG (wsV RL 117 RX4 yX4_undercut (Cond.code yX4_undercut cX4_undercut 2 (some .int) :: BIG)) := gi_V (bg_of 470 (by decide +kernel) rfl) cy_X4_undercut
theorem gv_RL_120 : GoodIn BIG (wsV RL 120 RX5 yX5_undercut (Cond.code yX5_undercut cX5_undercut 2 (some .int) :: BIG)) := gi_V (bg_of 967 (by decide +kernel) rfl) cy_X5_undercut
theorem gv_RL_121 : GoodIn BIG (wsV RL 121 RX4 yX4_press (Cond.code yX4_press cX4_press 2 (some .int) :: BIG)) := gi_V (bg_of 474 (by decide +kernel) rfl) cy_X4_press
theorem gv_RL_124 : GoodIn BIG (wsV RL 124 RX5 yX5_press (Cond.code yX5_press cX5_press 2 (some .int) :: BIG)) := gi_V (bg_of 980 (by decide +kernel) rfl) cy_X5_press
theorem gv_RL_128 : GoodIn BIG (wsV RL 128 RX5 yX5_force (Cond.code yX5_force cX5_force 2 (some .long) :: BIG)) := gi_V (bg_of 989 (by decide +kernel) rfl) cy_X5_force
theorem gv_RL_129 : GoodIn BIG (wsV RL 129 RX4 yX4_bad (Cond.code yX4_bad cX4_bad 3 (some .int) :: BIG)) := gi_V (bg_of 478 (by decide +kernel) rfl) cy_X4_bad
theorem gv_RL_132 : GoodIn BIG (wsV RL 132 RX5 yX5_bad (Cond.code yX5_bad cX5_bad 5 (some .int) :: BIG)) := gi_V (bg_of 997 (by decide +kernel) rfl) cy_X5_bad
theorem gv_RL_133 : GoodIn BIG (wsV RL 133 RX4 yX4_top (Cond.code yX4_top cX4_top 2 (some .int) :: BIG)) := gi_V (bg_of 494 (by decide +kernel) rfl) cy_X4_top
theorem gv_RL_136 : GoodIn BIG (wsV RL 136 RX5 yX5_top (Cond.code yX5_top cX5_top 7 (some .int) :: BIG)) := gi_V (bg_of 1005 (by decide +kernel) rfl) cy_X5_top
theorem gv_RL_137 : GoodIn BIG (wsV RL 137 RX4 yX4_met (Cond.code yX4_met cX4_met 1 (some .int) :: BIG)) := gi_V (bg_of 510 (by decide +kernel) rfl) cy_X4_met
theorem gv_RL_140 : GoodIn BIG (wsV RL 140 RX5 yX5_met (Cond.code yX5_met cX5_met 1 (some .int) :: BIG)) := gi_V (bg_of 1010 (by decide +kernel) rfl) cy_X5_met
theorem gv_RL_141 : GoodIn BIG (wsV RL 141 RX4 yX4_marked (Cond.code yX4_marked cX4_marked 3 (some .int) :: BIG)) := gi_V (bg_of 523 (by decide +kernel) rfl) cy_X4_marked
theorem gv_RL_144 : GoodIn BIG (wsV RL 144 RX5 yX5_marked (Cond.code yX5_marked cX5_marked 3 (some .int) :: BIG)) := gi_V (bg_of 1022 (by decide +kernel) rfl) cy_X5_marked
theorem gv_RL_145 : GoodIn BIG (wsV RL 145 RX4 yX4_best (Cond.code yX4_best cX4_best 2 (some .int) :: BIG)) := gi_V (bg_of 528 (by decide +kernel) rfl) cy_X4_best
theorem gv_RL_148 : GoodIn BIG (wsV RL 148 RX5 yX5_best (Cond.code yX5_best cX5_best 2 (some .int) :: BIG)) := gi_V (bg_of 1026 (by decide +kernel) rfl) cy_X5_best
theorem gv_RL_149 : GoodIn BIG (wsV RL 149 RX4 yX4_limit (Cond.code yX4_limit cX4_limit 2 (some .int) :: BIG)) := gi_V (bg_of 602 (by decide +kernel) rfl) cy_X4_limit
theorem gv_RL_152 : GoodIn BIG (wsV RL 152 RX5 yX5_limit (Cond.code yX5_limit cX5_limit 3 (some .int) :: BIG)) := gi_V (bg_of 1051 (by decide +kernel) rfl) cy_X5_limit
theorem gv_RL_153 : GoodIn BIG (wsV RL 153 RX4 yX4_count (Cond.code yX4_count cX4_count 2 (some .int) :: BIG)) := gi_V (bg_of 641 (by decide +kernel) rfl) cy_X4_count
theorem gv_RL_156 : GoodIn BIG (wsV RL 156 RX5 yX5_count (Cond.code yX5_count cX5_count 2 (some .int) :: BIG)) := gi_V (bg_of 1059 (by decide +kernel) rfl) cy_X5_count
theorem gf_RX5_1 : Cond.fieldLink RX5 1 "CamMakerModel" "thrown" "I" ∈ BIG := bg_of 743 (by decide +kernel) rfl
theorem gf_RX5_13 : Cond.fieldLink RX5 13 "CamMakerModel" "steps" "I" ∈ BIG := bg_of 744 (by decide +kernel) rfl
theorem gf_RX5_16 : Cond.fieldLink RX5 16 "CamMakerModel" "row" "[I" ∈ BIG := bg_of 745 (by decide +kernel) rfl
theorem gf_RX5_20 : Cond.fieldLink RX5 20 "CamMakerModel" "backs" "[I" ∈ BIG := bg_of 746 (by decide +kernel) rfl
theorem gf_RX5_23 : Cond.fieldLink RX5 23 "CamMakerModel" "lift" "[I" ∈ BIG := bg_of 748 (by decide +kernel) rfl
theorem gf_RX5_26 : Cond.fieldLink RX5 26 "CamMakerModel" "laws" "[I" ∈ BIG := bg_of 749 (by decide +kernel) rfl
theorem gf_RX5_29 : Cond.fieldLink RX5 29 "CamMakerModel" "bestLaws" "[I" ∈ BIG := bg_of 750 (by decide +kernel) rfl
theorem gf_RX5_32 : Cond.fieldLink RX5 32 "CamMakerModel" "backMany" "I" ∈ BIG := bg_of 747 (by decide +kernel) rfl
theorem gk_RX5_35 : Cond.constantLong RX5 35 (24) ∈ BIG := bg_of 781 (by decide +kernel) rfl
theorem gk_RX5_37 : Cond.constantLong RX5 37 (120) ∈ BIG := bg_of 782 (by decide +kernel) rfl
theorem gv_RX5_39 : GoodIn BIG (va_wsS RX5 39 yX5_within (Cond.code yX5_within cX5_within 6 (some .boolean) :: BIG)) := gi_S (bg_of 783 (by decide +kernel) rfl) cy_X5_within
theorem gk_RX5_43 : Cond.constantLong RX5 43 (60) ∈ BIG := bg_of 790 (by decide +kernel) rfl
theorem gk_RX5_45 : Cond.constantLong RX5 45 (999) ∈ BIG := bg_of 791 (by decide +kernel) rfl
theorem gk_RX5_47 : Cond.constantLong RX5 47 (3) ∈ BIG := bg_of 792 (by decide +kernel) rfl
theorem gv_RX5_49 : GoodIn BIG (wsV RX5 49 RX5 yX5_keeps (Cond.code yX5_keeps cX5_keeps 2 none :: BIG)) := gi_V (bg_of 793 (by decide +kernel) rfl) cy_X5_keeps
theorem gv_RX5_52 : GoodIn BIG (wsV RX5 52 RX5 yX5_isSegment (Cond.code yX5_isSegment cX5_isSegment 2 (some .boolean) :: BIG)) := gi_V (bg_of 801 (by decide +kernel) rfl) cy_X5_isSegment
theorem gv_RX5_56 : GoodIn BIG (wsV RX5 56 RX5 yX5_tells (Cond.code yX5_tells cX5_tells 5 (some .int) :: BIG)) := gi_V (bg_of 805 (by decide +kernel) rfl) cy_X5_tells
theorem gk_RX5_60 : Cond.constantLong RX5 60 (10) ∈ BIG := bg_of 821 (by decide +kernel) rfl
theorem gk_RX5_62 : Cond.constantLong RX5 62 (9999) ∈ BIG := bg_of 822 (by decide +kernel) rfl
theorem gk_RX5_64 : Cond.constantLong RX5 64 (99999) ∈ BIG := bg_of 831 (by decide +kernel) rfl
theorem gk_RX5_66 : Cond.constantLong RX5 66 (99) ∈ BIG := bg_of 844 (by decide +kernel) rfl
theorem gv_RX5_68 : GoodIn BIG (wsV RX5 68 RX5 yX5_isStep (Cond.code yX5_isStep cX5_isStep 2 (some .boolean) :: BIG)) := gi_V (bg_of 849 (by decide +kernel) rfl) cy_X5_isStep
theorem gv_RX5_71 : GoodIn BIG (wsV RX5 71 RX5 yX5_isMark (Cond.code yX5_isMark cX5_isMark 2 (some .boolean) :: BIG)) := gi_V (bg_of 857 (by decide +kernel) rfl) cy_X5_isMark
theorem gv_RX5_74 : GoodIn BIG (wsV RX5 74 RX5 yX5_comesFrom (Cond.code yX5_comesFrom cX5_comesFrom 2 (some .int) :: BIG)) := gi_V (bg_of 869 (by decide +kernel) rfl) cy_X5_comesFrom
theorem gv_RX5_78 : GoodIn BIG (wsV RX5 78 RX5 yX5_begins (Cond.code yX5_begins cX5_begins 4 (some .int) :: BIG)) := gi_V (bg_of 873 (by decide +kernel) rfl) cy_X5_begins
theorem gv_RX5_81 : GoodIn BIG (wsV RX5 81 RX5 yX5_isDwell (Cond.code yX5_isDwell cX5_isDwell 2 (some .boolean) :: BIG)) := gi_V (bg_of 877 (by decide +kernel) rfl) cy_X5_isDwell
theorem gk_RX5_84 : Cond.constantLong RX5 84 (2) ∈ BIG := bg_of 903 (by decide +kernel) rfl
theorem gv_RX5_86 : GoodIn BIG (va_wsS RX5 86 yX5_power (Cond.code yX5_power cX5_power 6 (some .long) :: BIG)) := gi_S (bg_of 900 (by decide +kernel) rfl) cy_X5_power
theorem gk_RX5_90 : Cond.constantLong RX5 90 (15) ∈ BIG := bg_of 907 (by decide +kernel) rfl
theorem gk_RX5_92 : Cond.constantLong RX5 92 (6) ∈ BIG := bg_of 908 (by decide +kernel) rfl
theorem gk_RX5_94 : Cond.constantLong RX5 94 (35) ∈ BIG := bg_of 909 (by decide +kernel) rfl
theorem gk_RX5_96 : Cond.constantLong RX5 96 (84) ∈ BIG := bg_of 910 (by decide +kernel) rfl
theorem gk_RX5_98 : Cond.constantLong RX5 98 (70) ∈ BIG := bg_of 911 (by decide +kernel) rfl
theorem gk_RX5_100 : Cond.constantLong RX5 100 (20) ∈ BIG := bg_of 912 (by decide +kernel) rfl
theorem gv_RX5_102 : GoodIn BIG (va_wsS RX5 102 yX5_below (Cond.code yX5_below cX5_below 3 (some .long) :: BIG)) := gi_S (bg_of 897 (by decide +kernel) rfl) cy_X5_below
theorem gv_RX5_106 : GoodIn BIG (va_wsS RX5 106 yX5_above (Cond.code yX5_above cX5_above 5 (some .long) :: BIG)) := gi_S (bg_of 904 (by decide +kernel) rfl) cy_X5_above
theorem gv_RX5_110 : GoodIn BIG (va_wsS RX5 110 yX5_cut (Cond.code yX5_cut cX5_cut 6 (some .long) :: BIG)) := gi_S (bg_of 913 (by decide +kernel) rfl) cy_X5_cut
theorem gv_RX5_114 : GoodIn BIG (wsV RX5 114 RX5 yX5_isWhole (Cond.code yX5_isWhole cX5_isWhole 2 (some .boolean) :: BIG)) := gi_V (bg_of 889 (by decide +kernel) rfl) cy_X5_isWhole
theorem gv_RX5_118 : GoodIn BIG (wsV RX5 118 RX5 yX5_lays (Cond.code yX5_lays cX5_lays 10 none :: BIG)) := gi_V (bg_of 893 (by decide +kernel) rfl) cy_X5_lays
theorem gv_RX5_121 : GoodIn BIG (wsV RX5 121 RX5 yX5_liftAt (Cond.code yX5_liftAt cX5_liftAt 2 (some .int) :: BIG)) := gi_V (bg_of 924 (by decide +kernel) rfl) cy_X5_liftAt
theorem gv_RX5_124 : GoodIn BIG (wsV RX5 124 RX5 yX5_diffAt (Cond.code yX5_diffAt cX5_diffAt 3 (some .int) :: BIG)) := gi_V (bg_of 920 (by decide +kernel) rfl) cy_X5_diffAt
theorem gv_RX5_128 : GoodIn BIG (wsV RX5 128 RX5 yX5_isLaid (Cond.code yX5_isLaid cX5_isLaid 2 (some .boolean) :: BIG)) := gi_V (bg_of 885 (by decide +kernel) rfl) cy_X5_isLaid
theorem gv_RX5_131 : GoodIn BIG (va_wsS RX5 131 yX5_size (Cond.code yX5_size cX5_size 1 (some .int) :: BIG)) := gi_S (bg_of 936 (by decide +kernel) rfl) cy_X5_size
theorem gv_RX5_134 : GoodIn BIG (wsV RX5 134 RX5 yX5_greatest (Cond.code yX5_greatest cX5_greatest 5 (some .int) :: BIG)) := gi_V (bg_of 932 (by decide +kernel) rfl) cy_X5_greatest
theorem gk_RX5_137 : Cond.constantLong RX5 137 (113) ∈ BIG := bg_of 955 (by decide +kernel) rfl
theorem gk_RX5_139 : Cond.constantLong RX5 139 (1420) ∈ BIG := bg_of 956 (by decide +kernel) rfl
theorem gk_RX5_141 : Cond.constantLong RX5 141 (12769) ∈ BIG := bg_of 961 (by decide +kernel) rfl
theorem gk_RX5_143 : Cond.constantLong RX5 143 (504100) ∈ BIG := bg_of 962 (by decide +kernel) rfl
theorem gv_RX5_145 : GoodIn BIG (wsV RX5 145 RX5 yX5_farOf (Cond.code yX5_farOf cX5_farOf 2 (some .long) :: BIG)) := gi_V (bg_of 947 (by decide +kernel) rfl) cy_X5_farOf
theorem gv_RX5_149 : GoodIn BIG (wsV RX5 149 RX5 yX5_quick (Cond.code yX5_quick cX5_quick 2 (some .long) :: BIG)) := gi_V (bg_of 951 (by decide +kernel) rfl) cy_X5_quick
theorem gv_RX5_152 : GoodIn BIG (wsV RX5 152 RX5 yX5_bent (Cond.code yX5_bent cX5_bent 2 (some .long) :: BIG)) := gi_V (bg_of 957 (by decide +kernel) rfl) cy_X5_bent
theorem gv_RX5_155 : GoodIn BIG (wsV RX5 155 RX5 yX5_bend (Cond.code yX5_bend cX5_bend 2 (some .long) :: BIG)) := gi_V (bg_of 963 (by decide +kernel) rfl) cy_X5_bend
theorem gk_RX5_158 : Cond.constantLong RX5 158 (9223372036854775807) ∈ BIG := bg_of 978 (by decide +kernel) rfl
theorem gk_RX5_160 : Cond.constantLong RX5 160 (-1) ∈ BIG := bg_of 979 (by decide +kernel) rfl
theorem gv_RX5_162 : GoodIn BIG (va_wsS RX5 162 yX5_product (Cond.code yX5_product cX5_product 4 (some .long) :: BIG)) := gi_S (bg_of 975 (by decide +kernel) rfl) cy_X5_product
theorem gk_RX5_165 : Cond.constantLong RX5 165 (1000) ∈ BIG := bg_of 988 (by decide +kernel) rfl
theorem gv_RX5_167 : GoodIn BIG (wsV RX5 167 RX5 yX5_undercutAt (Cond.code yX5_undercutAt cX5_undercutAt 12 (some .int) :: BIG)) := gi_V (bg_of 971 (by decide +kernel) rfl) cy_X5_undercutAt
theorem gv_RX5_170 : GoodIn BIG (wsV RX5 170 RX5 yX5_pressAt (Cond.code yX5_pressAt cX5_pressAt 4 (some .int) :: BIG)) := gi_V (bg_of 984 (by decide +kernel) rfl) cy_X5_pressAt
theorem gv_RX5_173 : GoodIn BIG (wsV RX5 173 RX5 yX5_forceAt (Cond.code yX5_forceAt cX5_forceAt 4 (some .long) :: BIG)) := gi_V (bg_of 993 (by decide +kernel) rfl) cy_X5_forceAt
theorem gv_RX5_176 : GoodIn BIG (wsV RX5 176 RX5 yX5_isBad (Cond.code yX5_isBad cX5_isBad 3 (some .boolean) :: BIG)) := gi_V (bg_of 1001 (by decide +kernel) rfl) cy_X5_isBad
theorem gk_RX5_180 : Cond.constantLong RX5 180 (5) ∈ BIG := bg_of 1009 (by decide +kernel) rfl
theorem gv_RX5_182 : GoodIn BIG (wsV RX5 182 RX5 yX5_offAt (Cond.code yX5_offAt cX5_offAt 2 (some .int) :: BIG)) := gi_V (bg_of 1018 (by decide +kernel) rfl) cy_X5_offAt
theorem gv_RX5_185 : GoodIn BIG (wsV RX5 185 RX5 yX5_metNow (Cond.code yX5_metNow cX5_metNow 3 (some .int) :: BIG)) := gi_V (bg_of 1014 (by decide +kernel) rfl) cy_X5_metNow
theorem gv_RX5_189 : GoodIn BIG (wsV RX5 189 RX5 yX5_gives (Cond.code yX5_gives cX5_gives 5 none :: BIG)) := gi_V (bg_of 1039 (by decide +kernel) rfl) cy_X5_gives
theorem gv_RX5_193 : GoodIn BIG (wsV RX5 193 RX5 yX5_isGood (Cond.code yX5_isGood cX5_isGood 3 (some .boolean) :: BIG)) := gi_V (bg_of 1043 (by decide +kernel) rfl) cy_X5_isGood
theorem gf_RX5_196 : Cond.fieldLink RX5 196 "CamMakerModel" "bestSecond" "I" ∈ BIG := bg_of 752 (by decide +kernel) rfl
theorem gf_RX5_199 : Cond.fieldLink RX5 199 "CamMakerModel" "bestThird" "I" ∈ BIG := bg_of 753 (by decide +kernel) rfl
theorem gf_RX5_202 : Cond.fieldLink RX5 202 "CamMakerModel" "bestGood" "Z" ∈ BIG := bg_of 751 (by decide +kernel) rfl
theorem gv_RX5_206 : GoodIn BIG (wsV RX5 206 RX5 yX5_takesWay (Cond.code yX5_takesWay cX5_takesWay 2 none :: BIG)) := gi_V (bg_of 1047 (by decide +kernel) rfl) cy_X5_takesWay
theorem gk_RX5_209 : Cond.constantLong RX5 209 (14) ∈ BIG := bg_of 1030 (by decide +kernel) rfl
theorem gv_RX5_211 : GoodIn BIG (wsV RX5 211 RX5 yX5_turned (Cond.code yX5_turned cX5_turned 3 (some .int) :: BIG)) := gi_V (bg_of 1031 (by decide +kernel) rfl) cy_X5_turned
theorem gv_RX5_214 : GoodIn BIG (wsV RX5 214 RX5 yX5_laysBest (Cond.code yX5_laysBest cX5_laysBest 7 none :: BIG)) := gi_V (bg_of 1035 (by decide +kernel) rfl) cy_X5_laysBest
theorem gv_RX5_218 : GoodIn BIG (wsV RX5 218 RX5 yX5_isFree (Cond.code yX5_isFree cX5_isFree 7 (some .boolean) :: BIG)) := gi_V (bg_of 1055 (by decide +kernel) rfl) cy_X5_isFree
theorem gl_RX0 : ∀ w ∈ wsX00, w ∈ BIG := by decide +kernel
theorem gl_RX1 : ∀ w ∈ wsX10, w ∈ BIG := by decide +kernel
theorem gl_RX2 : ∀ w ∈ wsX20, w ∈ BIG := by decide +kernel
theorem gl_RX3 : ∀ w ∈ wsX30, w ∈ BIG := by decide +kernel
theorem gl_RX4 : ∀ w ∈ wsX40, w ∈ BIG := by decide +kernel
theorem gl_RX5 : ∀ w ∈ wsX50, w ∈ BIG := by decide +kernel
end
section
/-! THE WORLD: all cells of the class (0 to 35), of the reference (36 to 41) and the law's own row (42), at addresses Y k; what they hold is σ : cell, place -> Int -/
abbrev GT : Type := va_G × (ClassId × ClassId × ClassId × ClassId) × (Nat → Nat) × Nat × (Nat → Nat)
abbrev St : Type := Nat → Int → Int
abbrev gD (G : GT) : va_G := G.1
abbrev gI (G : GT) : ClassId := G.2.1.1
abbrev gJ (G : GT) : ClassId := G.2.1.2.1
abbrev gZ (G : GT) : ClassId := G.2.1.2.2.1
abbrev gR (G : GT) : ClassId := G.2.1.2.2.2
abbrev gY (G : GT) : Nat → Nat := G.2.2.1
abbrev gB (G : GT) : Nat := G.2.2.2.1
abbrev gT (G : GT) : Nat → Nat := G.2.2.2.2
def gA (G : GT) : Nat → Prop := fun q => gB G ≤ q
def fI (c : ClassId) (n : Nat) (f : Int → Int) : va_E := .inl (c, n, .inl (fun j : Nat => I (f (j : Int))))
def fJ (c : ClassId) (n : Nat) (f : Int → Int) : va_E := .inl (c, n, .inr (.inl (fun j : Nat => J (f (j : Int)))))
def fR (c : ClassId) (n : Nat) (f : Nat → Nat) : va_E := .inl (c, n, .inr (.inr (.inr (.inr (fun j : Nat => if j < n then some (f j) else none)))))
/-- what a cell holds, by its number -/
def eK (G : GT) (k : Nat) (f : Int → Int) : va_E :=
  if k = 0 then .inr (4, [.ref (gY G 1), .ref (gY G 3), .ref (gY G 5), .ref (gY G 31)])
  else if k = 1 then .inr (2, [.ref (gY G 2)])
  else if k = 2 then fI (gI G) 72 f
  else if k = 3 then .inr (1, [.ref (gY G 4), .int (I (f 1)), .int (I (f 2))])
  else if k = 4 then fI (gI G) 1440 f
  else if k = 5 then .inr (3, [.ref (gY G 1), .ref (gY G 6), .int (I (f 2)), .int (I (f 3))])
  else if k = 6 then fR (gR G) 11 (fun j => gY G (7 + j))
  else if k < 18 then fJ (gJ G) 120 f
  else if k = 18 then .inr (3, [.ref (gY G 1), .ref (gY G 19), .int (I (f 2)), .int (I (f 3))])
  else if k = 19 then fR (gR G) 11 (fun j => gY G (20 + j))
  else if k < 31 then fJ (gJ G) 120 f
  else if k = 31 then .inr (0, [.ref (gY G 1), .ref (gY G 18), .ref (gY G 32), .ref (gY G 33), .ref (gY G 34), .ref (gY G 35), .int (I (f 6)), .int (I (f 7)), .int (I (f 8)), .int (I (f 9)), .int (I (f 10)), .int (I (f 11)), .int (I (f 12))])
  else if k = 32 then fI (gI G) 6 f
  else if k = 33 then fI (gI G) 96 f
  else if k = 34 then fI (gI G) 96 f
  else if k = 35 then fI (gZ G) 96 f
  else if k = 36 then .inr (5, [.int (I (f 0)), .int (I (f 1)), .ref (gY G 37), .ref (gY G 38), .int (I (f 4)), .ref (gY G 39), .ref (gY G 40), .ref (gY G 41), .int (I (f 8)), .int (I (f 9)), .int (I (f 10))])
  else if k = 37 then fI (gI G) 71 f
  else if k = 38 then fI (gI G) 1420 f
  else if k = 39 then fI (gI G) 120 f
  else if k = 40 then fI (gI G) 12 f
  else if k = 41 then fI (gI G) 12 f
  else fJ (gJ G) 1 f
theorem eK_0 (G : GT) (f : Int → Int) : eK G 0 f = .inr (4, [.ref (gY G 1), .ref (gY G 3), .ref (gY G 5), .ref (gY G 31)]) := rfl
theorem eK_1 (G : GT) (f : Int → Int) : eK G 1 f = .inr (2, [.ref (gY G 2)]) := rfl
theorem eK_2 (G : GT) (f : Int → Int) : eK G 2 f = fI (gI G) 72 f := rfl
theorem eK_3 (G : GT) (f : Int → Int) : eK G 3 f = .inr (1, [.ref (gY G 4), .int (I (f 1)), .int (I (f 2))]) := rfl
theorem eK_4 (G : GT) (f : Int → Int) : eK G 4 f = fI (gI G) 1440 f := rfl
theorem eK_P {b : Nat} (hb : b = 5 ∨ b = 18) (G : GT) (f : Int → Int) : eK G b f = .inr (3, [.ref (gY G 1), .ref (gY G (b + 1)), .int (I (f 2)), .int (I (f 3))]) := by rcases hb with rfl | rfl <;> rfl
theorem eK_R {b : Nat} (hb : b = 5 ∨ b = 18) (G : GT) (f : Int → Int) : eK G (b + 1) f = fR (gR G) 11 (fun j => gY G (b + 2 + j)) := by rcases hb with rfl | rfl <;> rfl
theorem eK_L {b : Nat} (hb : b = 5 ∨ b = 18) {j : Nat} (hj : j < 11) (G : GT) (f : Int → Int) : eK G (b + 2 + j) f = fJ (gJ G) 120 f := by
  have h1 : ∀ j, j < 11 → eK G (5 + 2 + j) f = fJ (gJ G) 120 f := by
    intro j hj
    rcases (show j = 0 ∨ j = 1 ∨ j = 2 ∨ j = 3 ∨ j = 4 ∨ j = 5 ∨ j = 6 ∨ j = 7 ∨ j = 8 ∨ j = 9 ∨ j = 10 by omega) with rfl | rfl | rfl | rfl | rfl | rfl | rfl | rfl | rfl | rfl | rfl <;> rfl
  have h2 : ∀ j, j < 11 → eK G (18 + 2 + j) f = fJ (gJ G) 120 f := by
    intro j hj
    rcases (show j = 0 ∨ j = 1 ∨ j = 2 ∨ j = 3 ∨ j = 4 ∨ j = 5 ∨ j = 6 ∨ j = 7 ∨ j = 8 ∨ j = 9 ∨ j = 10 by omega) with rfl | rfl | rfl | rfl | rfl | rfl | rfl | rfl | rfl | rfl | rfl <;> rfl
  rcases hb with rfl | rfl
  · exact h1 j hj
  · exact h2 j hj
theorem eK_31 (G : GT) (f : Int → Int) : eK G 31 f = .inr (0, [.ref (gY G 1), .ref (gY G 18), .ref (gY G 32), .ref (gY G 33), .ref (gY G 34), .ref (gY G 35), .int (I (f 6)), .int (I (f 7)), .int (I (f 8)), .int (I (f 9)), .int (I (f 10)), .int (I (f 11)), .int (I (f 12))]) := rfl
theorem eK_32 (G : GT) (f : Int → Int) : eK G 32 f = fI (gI G) 6 f := rfl
theorem eK_33 (G : GT) (f : Int → Int) : eK G 33 f = fI (gI G) 96 f := rfl
theorem eK_34 (G : GT) (f : Int → Int) : eK G 34 f = fI (gI G) 96 f := rfl
theorem eK_35 (G : GT) (f : Int → Int) : eK G 35 f = fI (gZ G) 96 f := rfl
theorem eK_36 (G : GT) (f : Int → Int) : eK G 36 f = .inr (5, [.int (I (f 0)), .int (I (f 1)), .ref (gY G 37), .ref (gY G 38), .int (I (f 4)), .ref (gY G 39), .ref (gY G 40), .ref (gY G 41), .int (I (f 8)), .int (I (f 9)), .int (I (f 10))]) := rfl
theorem eK_37 (G : GT) (f : Int → Int) : eK G 37 f = fI (gI G) 71 f := rfl
theorem eK_38 (G : GT) (f : Int → Int) : eK G 38 f = fI (gI G) 1420 f := rfl
theorem eK_39 (G : GT) (f : Int → Int) : eK G 39 f = fI (gI G) 120 f := rfl
theorem eK_40 (G : GT) (f : Int → Int) : eK G 40 f = fI (gI G) 12 f := rfl
theorem eK_41 (G : GT) (f : Int → Int) : eK G 41 f = fI (gI G) 12 f := rfl
theorem eK_42 (G : GT) (f : Int → Int) : eK G 42 f = fJ (gJ G) 1 f := rfl
def wl (G : GT) (σ : St) : va_W := (List.range 43).map (fun k => (gY G k, eK G k (σ k)))
def upI (f : Int → Int) (i v : Int) : Int → Int := fun j => if j = i then v else f j
def up (σ : St) (k : Nat) (g : Int → Int) : St := fun j => if j = k then g else σ j
theorem wl_at (G : GT) (σ : St) {k : Nat} (hk : k < 43) : (wl G σ)[k]? = some (gY G k, eK G k (σ k)) := by
  unfold wl
  rw [List.getElem?_map, List.getElem?_range hk]
  rfl
theorem wl_set (G : GT) (σ : St) {k : Nat} (hk : k < 43) (g : Int → Int) : (wl G σ).set k (gY G k, eK G k g) = wl G (up σ k g) := by
  apply List.ext_getElem?
  intro j
  by_cases hj : j < 43
  · rw [wl_at G (up σ k g) hj]
    by_cases e : j = k
    · subst e
      rw [List.getElem?_set_self (by rw [show (wl G σ).length = 43 by simp [wl]]; exact hj)]
      simp [up]
    · rw [List.getElem?_set_ne (Ne.symm e), wl_at G σ hj]
      simp [up, e]
  · rw [List.getElem?_eq_none (by simp [wl]; omega), List.getElem?_eq_none (by simp [wl]; omega)]
abbrev tyG (G : GT) : List (ClassId × FieldType) := [(gI G, .int), (gJ G, .long), (gZ G, .boolean), (gR G, .array .long)]
/-- the static rows of the class -/
def stv (k : Nat) (j : Int) : Int := (match k with
  | 0 => ([24, 0, 0, 400, 100, 1000, 10, 10, 100, 577, 1, 0] : List Int)
  | 1 => [24, 0, 0, 10, 1, 0, 0, 1, 0, 0, 0, 0]
  | 2 => [120, 12, 999, 9999, 9999, 99999, 999, 999, 9999, 9999, 99, 8]
  | 3 => [1, 0, 0]
  | _ => [60, 999, 3]).getD j.toNat 0
def stn (k : Nat) : Nat := if k < 3 then 12 else 3
def sR (k : Nat) : Nat × (Nat → Value) := (stn k, fun j => .int (I (stv k (j : Int))))
def sN (k : Nat) : String := match k with
  | 0 => "AT_FIRST"
  | 1 => "LEAST"
  | 2 => "GREATEST"
  | 3 => "LEAST_PART"
  | _ => "GREATEST_PART"
/-- what the tables say: classes, rows, nest mates' links -/
def NK (G : GT) (U : State) : Prop := va_K (gD G) vwCl (tyG G) U ∧ va_Nw (.fieldLinkNest "CamMaker$Plan" 15 "CamMaker" "AT_FIRST" "[I" "CamMaker") U ∧ va_Nw (.fieldLinkNest "CamMaker$Profile" 140 "CamMaker" "GREATEST" "[I" "CamMaker") U ∧ va_Nw (.fieldLinkNest "CamMaker$Profile" 161 "CamMaker" "LEAST" "[I" "CamMaker") U
def SK (G : GT) (U : State) (H : Heap) : Prop := ∀ k, k < 5 → va_Z "CamMaker" (sN k) "[I" (.ref (gT G k)) (gA G) U H ∧ va_T .int (gT G k) (sR k).1 (sR k).2 (gA G) U H
def GOK (G : GT) : Prop := (∀ i j, i < 43 → j < 43 → gY G i = gY G j → i = j) ∧ ∀ i, i < 43 → gB G ≤ gY G i
/-- the world lies in the heap of U -/
def GW (G : GT) (σ : St) (U : State) : Prop := va_P (gD G) vwCl (wl G σ) U.heap ∧ NK G U ∧ SK G U U.heap ∧ GOK G
def FX (G : GT) (p : Program) (m : MethodId) (c : Code) (cc : ByteArray) (nL : Nat) (s : State) (args : Array Value) (own : String) : Prop := CallFix p m c cc nL s args BIG own ∧ NK G s ∧ SK G s s.heap ∧ GOK G
def HX (G : GT) (σ : St) (s : State) (H : Heap) (locs : List Loc) : Prop := va_P (gD G) vwCl (wl G σ) H ∧ va_S (gA G) s.heap H locs
theorem NK.warm {G : GT} {s U : State} (h : NK G s) (hW : s.WarmedH U.vm) : NK G U := ⟨va_K.moved hW.alike h.1, va_Nw.warmF hW h.2.1, va_Nw.warmF hW h.2.2.1, va_Nw.warmF hW h.2.2.2⟩
theorem SK.out {G : GT} {s t : State} {H : Heap} {locs : List Loc} (h : SK G s s.heap) (hS : va_S (gA G) s.heap H locs) (ht : t.heap = H) (hvm : s.vm.Alike t.vm) : SK G t t.heap := by
  intro k hk
  rw [ht]
  exact ⟨va_Z.moved hvm (va_Z.kept (h k hk).1 hS.2.1), va_T.moved hvm (va_T.kept (h k hk).2 hS.2.1)⟩
theorem GOK.D {G : GT} (h : GOK G) (σ : St) : va_D (gA G) (wl G σ) := by
  have key : ∀ (i : Nat) (p : Nat × va_E), (wl G σ)[i]? = some p → i < 43 ∧ p.1 = gY G i := by
    intro i p hp
    have hi : i < 43 := by
      have := (List.getElem?_eq_some_iff.mp hp).1
      simpa [wl] using this
    rw [wl_at G σ hi] at hp
    cases hp
    exact ⟨hi, rfl⟩
  refine ⟨fun i j p q hi hj e => ?_, fun k q hk => ?_⟩
  · obtain ⟨i1, i2⟩ := key i p hi
    obtain ⟨j1, j2⟩ := key j q hj
    exact h.1 i j i1 j1 (by rw [← i2, ← j2]; exact e)
  · obtain ⟨k1, k2⟩ := key k q hk
    rw [k2]
    exact h.2 k k1
theorem GW.blind {G : GT} {σ : St} {As : List Value} : FrameBlind (va_Pc As (GW G σ)) := fun a U g mk q => ⟨q.1, q.2.1, ⟨va_K.moved (u := U) (U := U.calling g mk a) (Vm.Alike.refl U.vm) q.2.2.1.1, va_Nw.same rfl rfl q.2.2.1.2.1, va_Nw.same rfl rfl q.2.2.1.2.2.1, va_Nw.same rfl rfl q.2.2.1.2.2.2⟩, fun k hk => ⟨va_Z.moved (u := U) (U := U.calling g mk a) (Vm.Alike.refl U.vm) (q.2.2.2.1 k hk).1, va_T.moved (u := U) (U := U.calling g mk a) (Vm.Alike.refl U.vm) (q.2.2.2.1 k hk).2⟩, q.2.2.2.2⟩
theorem FX.out {G : GT} {p : Program} {m : MethodId} {c : Code} {cc : ByteArray} {nL : Nat} {s : State} {args : Array Value} {own : String} (F : FX G p m c cc nL s args own) {σ : St} {H : Heap} {locs : List Loc} (X : HX G σ s H locs) {t : State} (ht : t.heap = H) (hW : s.WarmedH t.vm) : GW G σ t := ⟨by rw [ht]; exact X.1, F.2.1.warm hW, F.2.2.1.out X.2 ht hW.alike, F.2.2.2⟩
def rmd (d : Nat) : Room := { frames := d, cells := 0, slots := 0, locals := 100 * d }
/-- a contract over the world -/
def Ct (l : Launch) (y : MethodName) (cy : ByteArray) (n : Nat) (ret : Option FieldType) (d : Nat) (G : GT) (As : List Value) (σ : St) (Qc : Array Value → State → Outcome → State → Prop) : Prop := Met l y (Cond.code y cy n ret :: BIG) (rmd d) (va_Pc As (GW G σ)) Qc 0 0 (gA G)
def QI (G : GT) (post : Int → St → Prop) : Array Value → State → Outcome → State → Prop := va_Qi (fun (r : Int32) (τ : St) => ∃ a, r = I a ∧ post a τ) (GW G) (gA G)
def QJ (G : GT) (post : Int → St → Prop) : Array Value → State → Outcome → State → Prop := va_Ql (fun (r : Int64) (τ : St) => ∃ a, r = J a ∧ post a τ) (GW G) (gA G)
def QV (G : GT) (post : St → Prop) : Array Value → State → Outcome → State → Prop := va_Qv (fun (τ : St) => post τ) (GW G) (gA G)
theorem mt {l : Launch} {y : MethodName} {cy : ByteArray} {n d : Nat} {ret : Option FieldType} {G : GT} {As : List Value} {σ : St} {Qc : Array Value → State → Outcome → State → Prop} {own : String} (hy : plainName y.cls = true) (ho : y.cls = own) (hn : (lg_sl As).length ≤ n)
    (body : ∀ (p : Program) (e : Env) (s : State) (m : MethodId) (args : Array Value) (below : List Frame) (meth : Method) (c : Code) (ls : Array Slot), FX G p m c cy n s args own → meth.sig.returnType = ret → meth.locks = false → HX G σ s s.heap [] → lv_has ls n (lv_args 0 As) →
      W p l e (rmd d) s m args below meth c s.heap [] 0 0 (MQ below Qc args s 0 0 (gA G)) (F0 m 0 ls [])) : Ct l y cy n ret d G As σ Qc := by
  refine Met.ofW (cc := cy) (maxL := n) (ret := ret) hy rfl ?_
  intro p e s m args below meth c s₁ B hml hv
  obtain ⟨rfl, hP, hN, hSt, hG⟩ := hv
  have hts := atoms_spec (ws := Cond.code y cy n ret :: BIG) B.pre
  have hl := lv_entry As (n := n) hn
  rw [lg_entry_eq]
  generalize (lg_sl As ++ List.replicate (n - (lg_sl As).length) Slot.unset).toArray = ls at hl ⊢
  exact body p e s m As.toArray below meth c ls ⟨⟨B.exec, B.bytes, hml, by rw [← ho]; exact findClass_of_methodNamed B.named, fun w hw => hts w (List.mem_cons_of_mem _ hw)⟩, hN, hSt, hG⟩ B.returns B.notSynchronized ⟨hP, va_S.rf⟩ hl
end
section
theorem fI_upd (c : ClassId) (n : Nat) (f : Int → Int) {a v : Int} (h : 0 ≤ a) : (.inl (c, n, .inl (upd (fun j : Nat => I (f (j : Int))) a.toNat (I v))) : va_E) = fI c n (upI f a v) := by
  unfold fI
  congr 4
  funext j
  unfold upd upI
  by_cases e : j = a.toNat
  · rw [if_pos e, if_pos (by omega)]
  · rw [if_neg e, if_neg (by omega)]
theorem fJ_upd (c : ClassId) (n : Nat) (f : Int → Int) {a v : Int} (h : 0 ≤ a) : (.inl (c, n, .inr (.inl (vp_updL (fun j : Nat => J (f (j : Int))) a.toNat (J v)))) : va_E) = fJ c n (upI f a v) := by
  unfold fJ
  congr 5
  funext j
  unfold vp_updL upI
  by_cases e : j = a.toNat
  · rw [if_pos e, if_pos (by omega)]
  · rw [if_neg e, if_neg (by omega)]
theorem I_bool {v : Int} (h : v = 0 ∨ v = 1) : vp_nar .boolean (I v) = I v := by rcases h with rfl | rfl <;> rfl
theorem lg_z {a b : Int} (ha : -9223372036854775808 ≤ a ∧ a < 9223372036854775808) (hb : -9223372036854775808 ≤ b ∧ b < 9223372036854775808) : ∃ z : Int, lg_cmp (J a) (J b) = I z ∧ ((b < a ∧ z = 1) ∨ (a = b ∧ z = 0) ∨ (a < b ∧ z = -1)) := by
  unfold lg_cmp
  simp only [gt_iff_lt, J_lt hb ha, J_eq ha hb]
  by_cases h1 : b < a
  · exact ⟨1, by rw [if_pos h1]; decide +kernel, by omega⟩
  · by_cases h2 : a = b
    · exact ⟨0, by rw [if_neg h1, if_pos h2]; decide +kernel, by omega⟩
    · exact ⟨-1, by rw [if_neg h1, if_neg h2]; decide +kernel, by omega⟩
theorem mt' {a b : Prop} (h : a → b) (n : ¬ b) : ¬ a := fun x => n (h x)
section RW
variable {p : Program} {l : Launch} {e : Env} {R : Room} {s : State} {m : MethodId} {args : Array Value} {below : List Frame} {meth : Method} {c : Code} {H : Heap} {locs : List Loc} {cells slots : Nat} {Q : State → Prop}
variable {cc : ByteArray} {nL pc : Nat} {ls : Array Slot} {rest : List Value} {own : String} {G : GT} {σ : St}
theorem r_iconst (F : FX G p m c cc nL s args own) {n : Int} (hdg : decode cc pc = .ok (.iconst n, 1)) (k : W p l e R s m args below meth c H locs cells slots Q (F0 m (pc + 1) ls (.int (I n) :: rest))) : W p l e R s m args below meth c H locs cells slots Q (F0 m pc ls (rest)) := by
  exact lv_iconst F.1.1 F.1.2.1 hdg rfl k
theorem r_bipush (F : FX G p m c cc nL s args own) {n : Int} (h : -128 ≤ n ∧ n < 128) (hdg : decode cc pc = .ok (.bipush n, 2)) (k : W p l e R s m args below meth c H locs cells slots Q (F0 m (pc + 2) ls (.int (I n) :: rest))) : W p l e R s m args below meth c H locs cells slots Q (F0 m pc ls (rest)) := by
  exact lv_bipush F.1.1 F.1.2.1 hdg (I_8 h) k
theorem r_sipush (F : FX G p m c cc nL s args own) {n : Int} (h : -32768 ≤ n ∧ n < 32768) (hdg : decode cc pc = .ok (.sipush n, 3)) (k : W p l e R s m args below meth c H locs cells slots Q (F0 m (pc + 3) ls (.int (I n) :: rest))) : W p l e R s m args below meth c H locs cells slots Q (F0 m pc ls (rest)) := by
  exact lv_sipush F.1.1 F.1.2.1 hdg (I_16 h) k
theorem r_lconst (F : FX G p m c cc nL s args own) {n : Fin 2} (v : Int) (h : Int64.ofNat (n : Nat) = J v) (hdg : decode cc pc = .ok (.lconst n, 1)) (k : W p l e R s m args below meth c H locs cells slots Q (F0 m (pc + 1) ls (.long (J v) :: rest))) : W p l e R s m args below meth c H locs cells slots Q (F0 m pc ls (rest)) := by
  exact lv_lconst F.1.1 F.1.2.1 hdg h k
theorem r_ldc2 (F : FX G p m c cc nL s args own) {ix : Nat} {x : Int64} (v : Int) (hc : Cond.constantLong own ix x ∈ BIG) (h : x = J v) (hdg : decode cc pc = .ok (.ldc2_w ix, 3)) (k : W p l e R s m args below meth c H locs cells slots Q (F0 m (pc + 3) ls (.long (J v) :: rest))) : W p l e R s m args below meth c H locs cells slots Q (F0 m pc ls (rest)) := by
  rw [← h] at k
  exact lv_ldc2 F.1.1 F.1.2.1 F.1.2.2.2.1 (F.1.2.2.2.2 _ hc) hdg k
theorem r_iload_n (F : FX G p m c cc nL s args own) {L : List (Nat × Value)} (hl : lv_has ls nL L) {q : Fin 4} (j : Nat) {i : Nat} {x : Int32} (hj : L[j]? = some (i, .int x)) (hi : (q : Nat) = i) (hdg : decode cc pc = .ok (.iload_n q, 1)) (k : W p l e R s m args below meth c H locs cells slots Q (F0 m (pc + 1) ls (.int x :: rest))) : W p l e R s m args below meth c H locs cells slots Q (F0 m pc ls (rest)) := by
  exact lv_iload_n F.1.1 F.1.2.1 hdg hi (lv_at hl j hj) k
theorem r_iload (F : FX G p m c cc nL s args own) {L : List (Nat × Value)} (hl : lv_has ls nL L) (j : Nat) {i : Nat} {x : Int32} (hj : L[j]? = some (i, .int x)) (hdg : decode cc pc = .ok (.iload i, 2)) (k : W p l e R s m args below meth c H locs cells slots Q (F0 m (pc + 2) ls (.int x :: rest))) : W p l e R s m args below meth c H locs cells slots Q (F0 m pc ls (rest)) := by
  exact lv_iload F.1.1 F.1.2.1 hdg (lv_at hl j hj) k
theorem r_lload_n (F : FX G p m c cc nL s args own) {L : List (Nat × Value)} (hl : lv_has ls nL L) {q : Fin 4} (j : Nat) {i : Nat} {x : Int64} (hj : L[j]? = some (i, .long x)) (hi : (q : Nat) = i) (hdg : decode cc pc = .ok (.lload_n q, 1)) (k : W p l e R s m args below meth c H locs cells slots Q (F0 m (pc + 1) ls (.long x :: rest))) : W p l e R s m args below meth c H locs cells slots Q (F0 m pc ls (rest)) := by
  exact lv_lload_n F.1.1 F.1.2.1 hdg hi (lv_at hl j hj) k
theorem r_lload (F : FX G p m c cc nL s args own) {L : List (Nat × Value)} (hl : lv_has ls nL L) (j : Nat) {i : Nat} {x : Int64} (hj : L[j]? = some (i, .long x)) (hdg : decode cc pc = .ok (.lload i, 2)) (k : W p l e R s m args below meth c H locs cells slots Q (F0 m (pc + 2) ls (.long x :: rest))) : W p l e R s m args below meth c H locs cells slots Q (F0 m pc ls (rest)) := by
  exact lv_lload F.1.1 F.1.2.1 hdg (lv_at hl j hj) k
theorem r_aload_n (F : FX G p m c cc nL s args own) {L : List (Nat × Value)} (hl : lv_has ls nL L) {q : Fin 4} (j : Nat) {i : Nat} {x : Nat} (hj : L[j]? = some (i, .ref x)) (hi : (q : Nat) = i) (hdg : decode cc pc = .ok (.aload_n q, 1)) (k : W p l e R s m args below meth c H locs cells slots Q (F0 m (pc + 1) ls (.ref x :: rest))) : W p l e R s m args below meth c H locs cells slots Q (F0 m pc ls (rest)) := by
  exact lv_aload_n F.1.1 F.1.2.1 hdg hi (lv_at hl j hj) k
theorem r_aload (F : FX G p m c cc nL s args own) {L : List (Nat × Value)} (hl : lv_has ls nL L) (j : Nat) {i : Nat} {x : Nat} (hj : L[j]? = some (i, .ref x)) (hdg : decode cc pc = .ok (.aload i, 2)) (k : W p l e R s m args below meth c H locs cells slots Q (F0 m (pc + 2) ls (.ref x :: rest))) : W p l e R s m args below meth c H locs cells slots Q (F0 m pc ls (rest)) := by
  exact lv_aload F.1.1 F.1.2.1 hdg (lv_at hl j hj) k
theorem r_istore_n (F : FX G p m c cc nL s args own) {L : List (Nat × Value)} (hl : lv_has ls nL L) {q : Fin 4} {i : Nat} {x : Int32} (L' : List (Nat × Value)) (hi : (q : Nat) = i) (hn : i < nL) (hL : (i, Value.int x) :: L.filter (fun q => !(q.1 == i) && !(q.1 + 1 == i && q.2.category == 2)) = L') (hdg : decode cc pc = .ok (.istore_n q, 1)) (k : ∀ ls : Array Slot, lv_has ls nL L' → W p l e R s m args below meth c H locs cells slots Q (F0 m (pc + 1) ls rest)) : W p l e R s m args below meth c H locs cells slots Q (F0 m pc ls (.int x :: rest)) := by
  exact lv_istore_n F.1.1 F.1.2.1 hdg hi hl hn hL k
theorem r_istore (F : FX G p m c cc nL s args own) {L : List (Nat × Value)} (hl : lv_has ls nL L) {i : Nat} {x : Int32} (L' : List (Nat × Value)) (hn : i < nL) (hL : (i, Value.int x) :: L.filter (fun q => !(q.1 == i) && !(q.1 + 1 == i && q.2.category == 2)) = L') (hdg : decode cc pc = .ok (.istore i, 2)) (k : ∀ ls : Array Slot, lv_has ls nL L' → W p l e R s m args below meth c H locs cells slots Q (F0 m (pc + 2) ls rest)) : W p l e R s m args below meth c H locs cells slots Q (F0 m pc ls (.int x :: rest)) := by
  exact lv_istore F.1.1 F.1.2.1 hdg hl hn hL k
theorem r_lstore_n (F : FX G p m c cc nL s args own) {L : List (Nat × Value)} (hl : lv_has ls nL L) {q : Fin 4} {i : Nat} {x : Int64} (L' : List (Nat × Value)) (hi : (q : Nat) = i) (hn : i + 1 < nL) (hL : (i, Value.long x) :: L.filter (fun q => !(q.1 == i) && (!(q.1 == i + 1) && !(q.1 + 1 == i && q.2.category == 2))) = L') (hdg : decode cc pc = .ok (.lstore_n q, 1)) (k : ∀ ls : Array Slot, lv_has ls nL L' → W p l e R s m args below meth c H locs cells slots Q (F0 m (pc + 1) ls rest)) : W p l e R s m args below meth c H locs cells slots Q (F0 m pc ls (.long x :: rest)) := by
  exact lv_lstore_n F.1.1 F.1.2.1 hdg hi hl hn hL k
theorem r_lstore (F : FX G p m c cc nL s args own) {L : List (Nat × Value)} (hl : lv_has ls nL L) {i : Nat} {x : Int64} (L' : List (Nat × Value)) (hn : i + 1 < nL) (hL : (i, Value.long x) :: L.filter (fun q => !(q.1 == i) && (!(q.1 == i + 1) && !(q.1 + 1 == i && q.2.category == 2))) = L') (hdg : decode cc pc = .ok (.lstore i, 2)) (k : ∀ ls : Array Slot, lv_has ls nL L' → W p l e R s m args below meth c H locs cells slots Q (F0 m (pc + 2) ls rest)) : W p l e R s m args below meth c H locs cells slots Q (F0 m pc ls (.long x :: rest)) := by
  exact lv_lstore F.1.1 F.1.2.1 hdg hl hn hL k
theorem r_astore_n (F : FX G p m c cc nL s args own) {L : List (Nat × Value)} (hl : lv_has ls nL L) {q : Fin 4} {i : Nat} {x : Nat} (L' : List (Nat × Value)) (hi : (q : Nat) = i) (hn : i < nL) (hL : (i, Value.ref x) :: L.filter (fun q => !(q.1 == i) && !(q.1 + 1 == i && q.2.category == 2)) = L') (hdg : decode cc pc = .ok (.astore_n q, 1)) (k : ∀ ls : Array Slot, lv_has ls nL L' → W p l e R s m args below meth c H locs cells slots Q (F0 m (pc + 1) ls rest)) : W p l e R s m args below meth c H locs cells slots Q (F0 m pc ls (.ref x :: rest)) := by
  exact lv_astore_n F.1.1 F.1.2.1 hdg hi hl hn hL k
theorem r_astore (F : FX G p m c cc nL s args own) {L : List (Nat × Value)} (hl : lv_has ls nL L) {i : Nat} {x : Nat} (L' : List (Nat × Value)) (hn : i < nL) (hL : (i, Value.ref x) :: L.filter (fun q => !(q.1 == i) && !(q.1 + 1 == i && q.2.category == 2)) = L') (hdg : decode cc pc = .ok (.astore i, 2)) (k : ∀ ls : Array Slot, lv_has ls nL L' → W p l e R s m args below meth c H locs cells slots Q (F0 m (pc + 2) ls rest)) : W p l e R s m args below meth c H locs cells slots Q (F0 m pc ls (.ref x :: rest)) := by
  exact lv_astore F.1.1 F.1.2.1 hdg hl hn hL k
theorem r_iinc (F : FX G p m c cc nL s args own) {L : List (Nat × Value)} (hl : lv_has ls nL L) {i : Nat} {n a : Int} (L' : List (Nat × Value)) (j : Nat) (hj : L[j]? = some (i, .int (I a))) (hn : i < nL) (hL : (i, Value.int (I (a + n))) :: L.filter (fun q => !(q.1 == i) && !(q.1 + 1 == i && q.2.category == 2)) = L') (hdg : decode cc pc = .ok (.iinc i n, 3)) (k : ∀ ls : Array Slot, lv_has ls nL L' → W p l e R s m args below meth c H locs cells slots Q (F0 m (pc + 3) ls rest)) : W p l e R s m args below meth c H locs cells slots Q (F0 m pc ls rest) := by
  exact lv_iinc F.1.1 F.1.2.1 hdg hl hj (I_add a n) hn hL k
theorem r_iadd (F : FX G p m c cc nL s args own) {a b : Int} (hdg : decode cc pc = .ok (.iadd, 1)) (k : W p l e R s m args below meth c H locs cells slots Q (F0 m (pc + 1) ls (.int (I (a + b)) :: rest))) : W p l e R s m args below meth c H locs cells slots Q (F0 m pc ls (.int (I b) :: .int (I a) :: rest)) := by
  refine lv_iadd F.1.1 F.1.2.1 hdg ?_
  rw [I_add]
  exact k
theorem r_isub (F : FX G p m c cc nL s args own) {a b : Int} (hdg : decode cc pc = .ok (.isub, 1)) (k : W p l e R s m args below meth c H locs cells slots Q (F0 m (pc + 1) ls (.int (I (a - b)) :: rest))) : W p l e R s m args below meth c H locs cells slots Q (F0 m pc ls (.int (I b) :: .int (I a) :: rest)) := by
  refine lv_isub F.1.1 F.1.2.1 hdg ?_
  rw [I_sub]
  exact k
theorem r_imul (F : FX G p m c cc nL s args own) {a b : Int} (hdg : decode cc pc = .ok (.imul, 1)) (k : W p l e R s m args below meth c H locs cells slots Q (F0 m (pc + 1) ls (.int (I (a * b)) :: rest))) : W p l e R s m args below meth c H locs cells slots Q (F0 m pc ls (.int (I b) :: .int (I a) :: rest)) := by
  refine lv_imul F.1.1 F.1.2.1 hdg ?_
  rw [I_mul]
  exact k
theorem r_ladd (F : FX G p m c cc nL s args own) {a b : Int} (hdg : decode cc pc = .ok (.ladd, 1)) (k : W p l e R s m args below meth c H locs cells slots Q (F0 m (pc + 1) ls (.long (J (a + b)) :: rest))) : W p l e R s m args below meth c H locs cells slots Q (F0 m pc ls (.long (J b) :: .long (J a) :: rest)) := by
  refine lv_ladd F.1.1 F.1.2.1 hdg ?_
  rw [J_add]
  exact k
theorem r_lsub (F : FX G p m c cc nL s args own) {a b : Int} (hdg : decode cc pc = .ok (.lsub, 1)) (k : W p l e R s m args below meth c H locs cells slots Q (F0 m (pc + 1) ls (.long (J (a - b)) :: rest))) : W p l e R s m args below meth c H locs cells slots Q (F0 m pc ls (.long (J b) :: .long (J a) :: rest)) := by
  refine lv_lsub F.1.1 F.1.2.1 hdg ?_
  rw [J_sub]
  exact k
theorem r_lmul (F : FX G p m c cc nL s args own) {a b : Int} (hdg : decode cc pc = .ok (.lmul, 1)) (k : W p l e R s m args below meth c H locs cells slots Q (F0 m (pc + 1) ls (.long (J (a * b)) :: rest))) : W p l e R s m args below meth c H locs cells slots Q (F0 m pc ls (.long (J b) :: .long (J a) :: rest)) := by
  refine lv_lmul F.1.1 F.1.2.1 hdg ?_
  rw [J_mul]
  exact k
theorem r_ineg (F : FX G p m c cc nL s args own) {a : Int} (hdg : decode cc pc = .ok (.ineg, 1)) (k : W p l e R s m args below meth c H locs cells slots Q (F0 m (pc + 1) ls (.int (I (-a)) :: rest))) : W p l e R s m args below meth c H locs cells slots Q (F0 m pc ls (.int (I a) :: rest)) := by
  refine lv_ineg F.1.1 F.1.2.1 hdg ?_
  rw [I_neg]
  exact k
theorem r_lneg (F : FX G p m c cc nL s args own) {a : Int} (hdg : decode cc pc = .ok (.lneg, 1)) (k : W p l e R s m args below meth c H locs cells slots Q (F0 m (pc + 1) ls (.long (J (-a)) :: rest))) : W p l e R s m args below meth c H locs cells slots Q (F0 m pc ls (.long (J a) :: rest)) := by
  refine lv_lneg F.1.1 F.1.2.1 hdg ?_
  rw [J_neg]
  exact k
theorem r_ldiv (F : FX G p m c cc nL s args own) {a b : Int} (ha : -9223372036854775808 < a ∧ a < 9223372036854775808) (hb : 0 < b ∧ b < 9223372036854775808) (hdg : decode cc pc = .ok (.ldiv, 1)) (k : W p l e R s m args below meth c H locs cells slots Q (F0 m (pc + 1) ls (.long (J (a.tdiv b)) :: rest))) : W p l e R s m args below meth c H locs cells slots Q (F0 m pc ls (.long (J b) :: .long (J a) :: rest)) := by
  refine lv_ldiv F.1.1 F.1.2.1 hdg (J_ne0 (by omega) (by omega)) ?_
  rw [J_div ha hb]
  exact k
theorem r_lrem (F : FX G p m c cc nL s args own) {a b : Int} (ha : -9223372036854775808 < a ∧ a < 9223372036854775808) (hb : 0 < b ∧ b < 9223372036854775808) (hdg : decode cc pc = .ok (.lrem, 1)) (k : W p l e R s m args below meth c H locs cells slots Q (F0 m (pc + 1) ls (.long (J (a.tmod b)) :: rest))) : W p l e R s m args below meth c H locs cells slots Q (F0 m pc ls (.long (J b) :: .long (J a) :: rest)) := by
  refine lv_lrem F.1.1 F.1.2.1 hdg (J_ne0 (by omega) (by omega)) ?_
  rw [J_div ha hb, J_mul, J_sub, show a - a.tdiv b * b = a.tmod b by have := Int.tmod_add_mul_tdiv a b; rw [Int.mul_comm] at this; omega]
  exact k
theorem r_irem (F : FX G p m c cc nL s args own) {a b : Int} (ha : -2147483648 < a ∧ a < 2147483648) (hb : 0 < b ∧ b < 2147483648) (hdg : decode cc pc = .ok (.irem, 1)) (k : W p l e R s m args below meth c H locs cells slots Q (F0 m (pc + 1) ls (.int (I (a.tmod b)) :: rest))) : W p l e R s m args below meth c H locs cells slots Q (F0 m pc ls (.int (I b) :: .int (I a) :: rest)) := by
  refine lv_irem F.1.1 F.1.2.1 hdg (I_ne0 (by omega) (by omega)) ?_
  rw [I_div ha hb, I_mul, I_sub, show a - a.tdiv b * b = a.tmod b by have := Int.tmod_add_mul_tdiv a b; rw [Int.mul_comm] at this; omega]
  exact k
theorem r_i2l (F : FX G p m c cc nL s args own) {a : Int} (h : -2147483648 ≤ a ∧ a < 2147483648) (hdg : decode cc pc = .ok (.i2l, 1)) (k : W p l e R s m args below meth c H locs cells slots Q (F0 m (pc + 1) ls (.long (J a) :: rest))) : W p l e R s m args below meth c H locs cells slots Q (F0 m pc ls (.int (I a) :: rest)) := by
  exact lv_i2l F.1.1 F.1.2.1 hdg (I_J h) k
theorem r_l2i (F : FX G p m c cc nL s args own) {a : Int} (hdg : decode cc pc = .ok (.l2i, 1)) (k : W p l e R s m args below meth c H locs cells slots Q (F0 m (pc + 1) ls (.int (I a) :: rest))) : W p l e R s m args below meth c H locs cells slots Q (F0 m pc ls (.long (J a) :: rest)) := by
  exact lv_l2i F.1.1 F.1.2.1 hdg (J_I a) k
theorem r_dup (F : FX G p m c cc nL s args own) {va : Value} (hva : va.category = 1) (hdg : decode cc pc = .ok (.dup, 1)) (k : W p l e R s m args below meth c H locs cells slots Q (F0 m (pc + 1) ls (va :: va :: rest))) : W p l e R s m args below meth c H locs cells slots Q (F0 m pc ls (va :: rest)) := by
  exact lv_dup F.1.1 F.1.2.1 hdg hva k
theorem r_dup2 (F : FX G p m c cc nL s args own) {va vb : Value} (hva : va.category = 1) (hvb : vb.category = 1) (hdg : decode cc pc = .ok (.dup2, 1)) (k : W p l e R s m args below meth c H locs cells slots Q (F0 m (pc + 1) ls (va :: vb :: va :: vb :: rest))) : W p l e R s m args below meth c H locs cells slots Q (F0 m pc ls (va :: vb :: rest)) := by
  exact lv_dup2_11 F.1.1 F.1.2.1 hdg hva hvb k
theorem r_goto (F : FX G p m c cc nL s args own) {off : Int} (tgt : Nat) (ht : (pc : Int) + off = (tgt : Int)) (hdg : decode cc pc = .ok (.goto off, 3)) (k : W p l e R s m args below meth c H locs cells slots Q (F0 m tgt ls rest)) : W p l e R s m args below meth c H locs cells slots Q (F0 m pc ls rest) := lv_goto F.1.1 F.1.2.1 hdg ht k
theorem r_icmp_eq (F : FX G p m c cc nL s args own) {off : Int} (tgt : Nat) {a b : Int} (ht : (pc : Int) + off = (tgt : Int)) (ha : -2147483648 ≤ a ∧ a < 2147483648) (hb : -2147483648 ≤ b ∧ b < 2147483648) (hdg : decode cc pc = .ok (.if_icmp .eq off, 3)) (kt : a = b → W p l e R s m args below meth c H locs cells slots Q (F0 m tgt ls rest)) (kf : a ≠ b → W p l e R s m args below meth c H locs cells slots Q (F0 m (pc + 3) ls rest)) : W p l e R s m args below meth c H locs cells slots Q (F0 m pc ls (.int (I b) :: .int (I a) :: rest)) := lv_icmp_eq F.1.1 F.1.2.1 hdg ht (fun h => kt ((I_eq ha hb).mp h)) (fun h => kf (fun e => h ((I_eq ha hb).mpr e)))
theorem r_icmp_ne (F : FX G p m c cc nL s args own) {off : Int} (tgt : Nat) {a b : Int} (ht : (pc : Int) + off = (tgt : Int)) (ha : -2147483648 ≤ a ∧ a < 2147483648) (hb : -2147483648 ≤ b ∧ b < 2147483648) (hdg : decode cc pc = .ok (.if_icmp .ne off, 3)) (kt : a ≠ b → W p l e R s m args below meth c H locs cells slots Q (F0 m tgt ls rest)) (kf : a = b → W p l e R s m args below meth c H locs cells slots Q (F0 m (pc + 3) ls rest)) : W p l e R s m args below meth c H locs cells slots Q (F0 m pc ls (.int (I b) :: .int (I a) :: rest)) := lv_icmp_ne F.1.1 F.1.2.1 hdg ht (fun h => kt (fun e => h ((I_eq ha hb).mpr e))) (fun h => kf ((I_eq ha hb).mp h))
theorem r_icmp_lt (F : FX G p m c cc nL s args own) {off : Int} (tgt : Nat) {a b : Int} (ht : (pc : Int) + off = (tgt : Int)) (ha : -2147483648 ≤ a ∧ a < 2147483648) (hb : -2147483648 ≤ b ∧ b < 2147483648) (hdg : decode cc pc = .ok (.if_icmp .lt off, 3)) (kt : a < b → W p l e R s m args below meth c H locs cells slots Q (F0 m tgt ls rest)) (kf : b ≤ a → W p l e R s m args below meth c H locs cells slots Q (F0 m (pc + 3) ls rest)) : W p l e R s m args below meth c H locs cells slots Q (F0 m pc ls (.int (I b) :: .int (I a) :: rest)) := lv_icmp_lt F.1.1 F.1.2.1 hdg ht (fun h => kt ((I_lt ha hb).mp h)) (fun h => kf (by have h2 := mt' ((I_lt ha hb).mpr) h; omega))
theorem r_icmp_ge (F : FX G p m c cc nL s args own) {off : Int} (tgt : Nat) {a b : Int} (ht : (pc : Int) + off = (tgt : Int)) (ha : -2147483648 ≤ a ∧ a < 2147483648) (hb : -2147483648 ≤ b ∧ b < 2147483648) (hdg : decode cc pc = .ok (.if_icmp .ge off, 3)) (kt : b ≤ a → W p l e R s m args below meth c H locs cells slots Q (F0 m tgt ls rest)) (kf : a < b → W p l e R s m args below meth c H locs cells slots Q (F0 m (pc + 3) ls rest)) : W p l e R s m args below meth c H locs cells slots Q (F0 m pc ls (.int (I b) :: .int (I a) :: rest)) := lv_icmp_ge F.1.1 F.1.2.1 hdg ht (fun h => kt ((I_le hb ha).mp h)) (fun h => kf (by have h2 := mt' ((I_le hb ha).mpr) h; omega))
theorem r_icmp_gt (F : FX G p m c cc nL s args own) {off : Int} (tgt : Nat) {a b : Int} (ht : (pc : Int) + off = (tgt : Int)) (ha : -2147483648 ≤ a ∧ a < 2147483648) (hb : -2147483648 ≤ b ∧ b < 2147483648) (hdg : decode cc pc = .ok (.if_icmp .gt off, 3)) (kt : b < a → W p l e R s m args below meth c H locs cells slots Q (F0 m tgt ls rest)) (kf : a ≤ b → W p l e R s m args below meth c H locs cells slots Q (F0 m (pc + 3) ls rest)) : W p l e R s m args below meth c H locs cells slots Q (F0 m pc ls (.int (I b) :: .int (I a) :: rest)) := lv_icmp_gt F.1.1 F.1.2.1 hdg ht (fun h => kt ((I_lt hb ha).mp h)) (fun h => kf (by have h2 := mt' ((I_lt hb ha).mpr) h; omega))
theorem r_icmp_le (F : FX G p m c cc nL s args own) {off : Int} (tgt : Nat) {a b : Int} (ht : (pc : Int) + off = (tgt : Int)) (ha : -2147483648 ≤ a ∧ a < 2147483648) (hb : -2147483648 ≤ b ∧ b < 2147483648) (hdg : decode cc pc = .ok (.if_icmp .le off, 3)) (kt : a ≤ b → W p l e R s m args below meth c H locs cells slots Q (F0 m tgt ls rest)) (kf : b < a → W p l e R s m args below meth c H locs cells slots Q (F0 m (pc + 3) ls rest)) : W p l e R s m args below meth c H locs cells slots Q (F0 m pc ls (.int (I b) :: .int (I a) :: rest)) := lv_icmp_le F.1.1 F.1.2.1 hdg ht (fun h => kt ((I_le ha hb).mp h)) (fun h => kf (by have h2 := mt' ((I_le ha hb).mpr) h; omega))
theorem r_if_eq (F : FX G p m c cc nL s args own) {off : Int} (tgt : Nat) {a : Int} (ht : (pc : Int) + off = (tgt : Int)) (ha : -2147483648 ≤ a ∧ a < 2147483648) (hdg : decode cc pc = .ok (.ifCond .eq off, 3)) (kt : a = 0 → W p l e R s m args below meth c H locs cells slots Q (F0 m tgt ls rest)) (kf : a ≠ 0 → W p l e R s m args below meth c H locs cells slots Q (F0 m (pc + 3) ls rest)) : W p l e R s m args below meth c H locs cells slots Q (F0 m pc ls (.int (I a) :: rest)) := lv_if_eq F.1.1 F.1.2.1 hdg ht (fun h => kt ((I_eq ha (show -2147483648 ≤ (0 : Int) ∧ (0 : Int) < 2147483648 by omega)).mp (h.trans I_0))) (fun h => kf (fun e => h (((I_eq ha (show -2147483648 ≤ (0 : Int) ∧ (0 : Int) < 2147483648 by omega)).mpr e).trans I_0.symm)))
theorem r_if_ne (F : FX G p m c cc nL s args own) {off : Int} (tgt : Nat) {a : Int} (ht : (pc : Int) + off = (tgt : Int)) (ha : -2147483648 ≤ a ∧ a < 2147483648) (hdg : decode cc pc = .ok (.ifCond .ne off, 3)) (kt : a ≠ 0 → W p l e R s m args below meth c H locs cells slots Q (F0 m tgt ls rest)) (kf : a = 0 → W p l e R s m args below meth c H locs cells slots Q (F0 m (pc + 3) ls rest)) : W p l e R s m args below meth c H locs cells slots Q (F0 m pc ls (.int (I a) :: rest)) := lv_if_ne F.1.1 F.1.2.1 hdg ht (fun h => kt (fun e => h (((I_eq ha (show -2147483648 ≤ (0 : Int) ∧ (0 : Int) < 2147483648 by omega)).mpr e).trans I_0.symm))) (fun h => kf ((I_eq ha (show -2147483648 ≤ (0 : Int) ∧ (0 : Int) < 2147483648 by omega)).mp (h.trans I_0)))
theorem r_if_lt (F : FX G p m c cc nL s args own) {off : Int} (tgt : Nat) {a : Int} (ht : (pc : Int) + off = (tgt : Int)) (ha : -2147483648 ≤ a ∧ a < 2147483648) (hdg : decode cc pc = .ok (.ifCond .lt off, 3)) (kt : a < 0 → W p l e R s m args below meth c H locs cells slots Q (F0 m tgt ls rest)) (kf : 0 ≤ a → W p l e R s m args below meth c H locs cells slots Q (F0 m (pc + 3) ls rest)) : W p l e R s m args below meth c H locs cells slots Q (F0 m pc ls (.int (I a) :: rest)) := lv_if_lt F.1.1 F.1.2.1 hdg ht (fun h => kt ((I_lt ha (show -2147483648 ≤ (0 : Int) ∧ (0 : Int) < 2147483648 by omega)).mp (by rw [← I_0]; exact h))) (fun h => kf (by have h2 := mt' ((I_lt ha (show -2147483648 ≤ (0 : Int) ∧ (0 : Int) < 2147483648 by omega)).mpr) (by rw [← I_0]; exact h); omega))
theorem r_if_ge (F : FX G p m c cc nL s args own) {off : Int} (tgt : Nat) {a : Int} (ht : (pc : Int) + off = (tgt : Int)) (ha : -2147483648 ≤ a ∧ a < 2147483648) (hdg : decode cc pc = .ok (.ifCond .ge off, 3)) (kt : 0 ≤ a → W p l e R s m args below meth c H locs cells slots Q (F0 m tgt ls rest)) (kf : a < 0 → W p l e R s m args below meth c H locs cells slots Q (F0 m (pc + 3) ls rest)) : W p l e R s m args below meth c H locs cells slots Q (F0 m pc ls (.int (I a) :: rest)) := lv_if_ge F.1.1 F.1.2.1 hdg ht (fun h => kt ((I_le (show -2147483648 ≤ (0 : Int) ∧ (0 : Int) < 2147483648 by omega) ha).mp (by rw [← I_0]; exact h))) (fun h => kf (by have h2 := mt' ((I_le (show -2147483648 ≤ (0 : Int) ∧ (0 : Int) < 2147483648 by omega) ha).mpr) (by rw [← I_0]; exact h); omega))
theorem r_if_gt (F : FX G p m c cc nL s args own) {off : Int} (tgt : Nat) {a : Int} (ht : (pc : Int) + off = (tgt : Int)) (ha : -2147483648 ≤ a ∧ a < 2147483648) (hdg : decode cc pc = .ok (.ifCond .gt off, 3)) (kt : 0 < a → W p l e R s m args below meth c H locs cells slots Q (F0 m tgt ls rest)) (kf : a ≤ 0 → W p l e R s m args below meth c H locs cells slots Q (F0 m (pc + 3) ls rest)) : W p l e R s m args below meth c H locs cells slots Q (F0 m pc ls (.int (I a) :: rest)) := lv_if_gt F.1.1 F.1.2.1 hdg ht (fun h => kt ((I_lt (show -2147483648 ≤ (0 : Int) ∧ (0 : Int) < 2147483648 by omega) ha).mp (by rw [← I_0]; exact h))) (fun h => kf (by have h2 := mt' ((I_lt (show -2147483648 ≤ (0 : Int) ∧ (0 : Int) < 2147483648 by omega) ha).mpr) (by rw [← I_0]; exact h); omega))
theorem r_if_le (F : FX G p m c cc nL s args own) {off : Int} (tgt : Nat) {a : Int} (ht : (pc : Int) + off = (tgt : Int)) (ha : -2147483648 ≤ a ∧ a < 2147483648) (hdg : decode cc pc = .ok (.ifCond .le off, 3)) (kt : a ≤ 0 → W p l e R s m args below meth c H locs cells slots Q (F0 m tgt ls rest)) (kf : 0 < a → W p l e R s m args below meth c H locs cells slots Q (F0 m (pc + 3) ls rest)) : W p l e R s m args below meth c H locs cells slots Q (F0 m pc ls (.int (I a) :: rest)) := lv_if_le F.1.1 F.1.2.1 hdg ht (fun h => kt ((I_le ha (show -2147483648 ≤ (0 : Int) ∧ (0 : Int) < 2147483648 by omega)).mp (by rw [← I_0]; exact h))) (fun h => kf (by have h2 := mt' ((I_le ha (show -2147483648 ≤ (0 : Int) ∧ (0 : Int) < 2147483648 by omega)).mpr) (by rw [← I_0]; exact h); omega))
theorem r_lcmp_eq (F : FX G p m c cc nL s args own) {off : Int} (tgt : Nat) {a b : Int} (ht : ((pc + 1 : Nat) : Int) + off = (tgt : Int)) (ha : -9223372036854775808 ≤ a ∧ a < 9223372036854775808) (hb : -9223372036854775808 ≤ b ∧ b < 9223372036854775808) (hdg : decode cc pc = .ok (.lcmp, 1)) (hdg2 : decode cc (pc + 1) = .ok (.ifCond .eq off, 3)) (kt : a = b → W p l e R s m args below meth c H locs cells slots Q (F0 m tgt ls rest)) (kf : a ≠ b → W p l e R s m args below meth c H locs cells slots Q (F0 m (pc + 4) ls rest)) : W p l e R s m args below meth c H locs cells slots Q (F0 m pc ls (.long (J b) :: .long (J a) :: rest)) := by
  refine W.lcmp F.1.1 F.1.2.1 hdg ?_
  obtain ⟨z, hz, hc⟩ := lg_z ha hb
  rw [hz]
  exact r_if_eq F tgt ht (by omega) hdg2 (fun h => kt (by omega)) (fun h => kf (by omega))
theorem r_lcmp_ne (F : FX G p m c cc nL s args own) {off : Int} (tgt : Nat) {a b : Int} (ht : ((pc + 1 : Nat) : Int) + off = (tgt : Int)) (ha : -9223372036854775808 ≤ a ∧ a < 9223372036854775808) (hb : -9223372036854775808 ≤ b ∧ b < 9223372036854775808) (hdg : decode cc pc = .ok (.lcmp, 1)) (hdg2 : decode cc (pc + 1) = .ok (.ifCond .ne off, 3)) (kt : a ≠ b → W p l e R s m args below meth c H locs cells slots Q (F0 m tgt ls rest)) (kf : a = b → W p l e R s m args below meth c H locs cells slots Q (F0 m (pc + 4) ls rest)) : W p l e R s m args below meth c H locs cells slots Q (F0 m pc ls (.long (J b) :: .long (J a) :: rest)) := by
  refine W.lcmp F.1.1 F.1.2.1 hdg ?_
  obtain ⟨z, hz, hc⟩ := lg_z ha hb
  rw [hz]
  exact r_if_ne F tgt ht (by omega) hdg2 (fun h => kt (by omega)) (fun h => kf (by omega))
theorem r_lcmp_lt (F : FX G p m c cc nL s args own) {off : Int} (tgt : Nat) {a b : Int} (ht : ((pc + 1 : Nat) : Int) + off = (tgt : Int)) (ha : -9223372036854775808 ≤ a ∧ a < 9223372036854775808) (hb : -9223372036854775808 ≤ b ∧ b < 9223372036854775808) (hdg : decode cc pc = .ok (.lcmp, 1)) (hdg2 : decode cc (pc + 1) = .ok (.ifCond .lt off, 3)) (kt : a < b → W p l e R s m args below meth c H locs cells slots Q (F0 m tgt ls rest)) (kf : b ≤ a → W p l e R s m args below meth c H locs cells slots Q (F0 m (pc + 4) ls rest)) : W p l e R s m args below meth c H locs cells slots Q (F0 m pc ls (.long (J b) :: .long (J a) :: rest)) := by
  refine W.lcmp F.1.1 F.1.2.1 hdg ?_
  obtain ⟨z, hz, hc⟩ := lg_z ha hb
  rw [hz]
  exact r_if_lt F tgt ht (by omega) hdg2 (fun h => kt (by omega)) (fun h => kf (by omega))
theorem r_lcmp_ge (F : FX G p m c cc nL s args own) {off : Int} (tgt : Nat) {a b : Int} (ht : ((pc + 1 : Nat) : Int) + off = (tgt : Int)) (ha : -9223372036854775808 ≤ a ∧ a < 9223372036854775808) (hb : -9223372036854775808 ≤ b ∧ b < 9223372036854775808) (hdg : decode cc pc = .ok (.lcmp, 1)) (hdg2 : decode cc (pc + 1) = .ok (.ifCond .ge off, 3)) (kt : b ≤ a → W p l e R s m args below meth c H locs cells slots Q (F0 m tgt ls rest)) (kf : a < b → W p l e R s m args below meth c H locs cells slots Q (F0 m (pc + 4) ls rest)) : W p l e R s m args below meth c H locs cells slots Q (F0 m pc ls (.long (J b) :: .long (J a) :: rest)) := by
  refine W.lcmp F.1.1 F.1.2.1 hdg ?_
  obtain ⟨z, hz, hc⟩ := lg_z ha hb
  rw [hz]
  exact r_if_ge F tgt ht (by omega) hdg2 (fun h => kt (by omega)) (fun h => kf (by omega))
theorem r_lcmp_gt (F : FX G p m c cc nL s args own) {off : Int} (tgt : Nat) {a b : Int} (ht : ((pc + 1 : Nat) : Int) + off = (tgt : Int)) (ha : -9223372036854775808 ≤ a ∧ a < 9223372036854775808) (hb : -9223372036854775808 ≤ b ∧ b < 9223372036854775808) (hdg : decode cc pc = .ok (.lcmp, 1)) (hdg2 : decode cc (pc + 1) = .ok (.ifCond .gt off, 3)) (kt : b < a → W p l e R s m args below meth c H locs cells slots Q (F0 m tgt ls rest)) (kf : a ≤ b → W p l e R s m args below meth c H locs cells slots Q (F0 m (pc + 4) ls rest)) : W p l e R s m args below meth c H locs cells slots Q (F0 m pc ls (.long (J b) :: .long (J a) :: rest)) := by
  refine W.lcmp F.1.1 F.1.2.1 hdg ?_
  obtain ⟨z, hz, hc⟩ := lg_z ha hb
  rw [hz]
  exact r_if_gt F tgt ht (by omega) hdg2 (fun h => kt (by omega)) (fun h => kf (by omega))
theorem r_lcmp_le (F : FX G p m c cc nL s args own) {off : Int} (tgt : Nat) {a b : Int} (ht : ((pc + 1 : Nat) : Int) + off = (tgt : Int)) (ha : -9223372036854775808 ≤ a ∧ a < 9223372036854775808) (hb : -9223372036854775808 ≤ b ∧ b < 9223372036854775808) (hdg : decode cc pc = .ok (.lcmp, 1)) (hdg2 : decode cc (pc + 1) = .ok (.ifCond .le off, 3)) (kt : a ≤ b → W p l e R s m args below meth c H locs cells slots Q (F0 m tgt ls rest)) (kf : b < a → W p l e R s m args below meth c H locs cells slots Q (F0 m (pc + 4) ls rest)) : W p l e R s m args below meth c H locs cells slots Q (F0 m pc ls (.long (J b) :: .long (J a) :: rest)) := by
  refine W.lcmp F.1.1 F.1.2.1 hdg ?_
  obtain ⟨z, hz, hc⟩ := lg_z ha hb
  rw [hz]
  exact r_if_le F tgt ht (by omega) hdg2 (fun h => kt (by omega)) (fun h => kf (by omega))
theorem r_tabOut (F : FX G p m c cc nL s args own) {dflt lo hi : Int} {offs : Array Int} {len : Nat} {a : Int} (tgt : Nat) (ha : -2147483648 ≤ a ∧ a < 2147483648) (h : a < lo ∨ hi < a) (ht : (pc : Int) + dflt = (tgt : Int)) (hdg : decode cc pc = .ok (.tableswitch dflt lo hi offs, len)) (k : W p l e R s m args below meth c H locs cells slots Q (F0 m tgt ls rest)) : W p l e R s m args below meth c H locs cells slots Q (F0 m pc ls (.int (I a) :: rest)) := lv_tableOut F.1.1 F.1.2.1 hdg (by rw [I_int ha]; exact h) ht k
theorem r_tabIn (F : FX G p m c cc nL s args own) {dflt lo hi : Int} {offs : Array Int} {len : Nat} {a : Int} (v : Int) {off : Int} (tgt : Nat) (hv : a = v) (hr : -2147483648 ≤ v ∧ v < 2147483648) (h1 : ¬ v < lo) (h2 : ¬ hi < v) (ho : offs[(v - lo).toNat]? = some off) (ht : (pc : Int) + off = (tgt : Int)) (hdg : decode cc pc = .ok (.tableswitch dflt lo hi offs, len)) (k : W p l e R s m args below meth c H locs cells slots Q (F0 m tgt ls rest)) : W p l e R s m args below meth c H locs cells slots Q (F0 m pc ls (.int (I a) :: rest)) := by
  subst hv
  exact lv_tableIn F.1.1 F.1.2.1 hdg (by rw [I_int hr]; exact h1) (by rw [I_int hr]; exact h2) (by rw [I_int hr]; exact ho) ht k
theorem r_eqI {a b : Int} (h : a = b) (k : W p l e R s m args below meth c H locs cells slots Q (F0 m pc ls (.int (I b) :: rest))) : W p l e R s m args below meth c H locs cells slots Q (F0 m pc ls (.int (I a) :: rest)) := h ▸ k
theorem r_eqJ {a b : Int} (h : a = b) (k : W p l e R s m args below meth c H locs cells slots Q (F0 m pc ls (.long (J b) :: rest))) : W p l e R s m args below meth c H locs cells slots Q (F0 m pc ls (.long (J a) :: rest)) := h ▸ k
theorem r_nmI {a : Int} (k : ∀ x : Int, x = a → W p l e R s m args below meth c H locs cells slots Q (F0 m pc ls (.int (I x) :: rest))) : W p l e R s m args below meth c H locs cells slots Q (F0 m pc ls (.int (I a) :: rest)) := k a rfl
theorem r_nmJ {a : Int} (k : ∀ x : Int, x = a → W p l e R s m args below meth c H locs cells slots Q (F0 m pc ls (.long (J x) :: rest))) : W p l e R s m args below meth c H locs cells slots Q (F0 m pc ls (.long (J a) :: rest)) := k a rfl
theorem r_get (F : FX G p m c cc nL s args own) (X : HX G σ s H locs) {C nm ds : String} {T : u_T} {N ci ix : Nat} {fs : List Value} {v : Value} (k : Nat) (hk : k < 43) (he : eK G k (σ k) = .inr (ci, fs)) (hc : vwCl[ci]? = some (C, T, N)) (hin : ∀ w ∈ u_ws C T N, w ∈ BIG) (j : Nat) (hj : j < N) (hnm : (C, nm, ds) = ((T j).1, (T j).2.1, (T j).2.2.1)) (hlk : Cond.fieldLink own ix C nm ds ∈ BIG) (hv : fs[j]? = some v) (hdg : decode cc pc = .ok (.getfield ix, 3)) (kk : W p l e R s m args below meth c H locs cells slots Q (F0 m (pc + 3) ls (v :: rest))) : W p l e R s m args below meth c H locs cells slots Q (F0 m pc ls (.ref (gY G k) :: rest)) := by
  have e1 : C = (T j).1 := congrArg (fun q => q.1) hnm
  have e2 : nm = (T j).2.1 := congrArg (fun q => q.2.1) hnm
  have e3 : ds = (T j).2.2.1 := congrArg (fun q => q.2.2) hnm
  refine va_get (D := gD G) (ref := C) F.1.1 F.1.2.1 F.1.2.2.2.2 hin F.1.2.2.2.1 F.2.1.1 X.1 k (by rw [wl_at G σ hk, he]) hc j hj (by rw [← e2, ← e3]; exact F.1.2.2.2.2 _ hlk) (fun x h => by rw [e1]; exact h) hv hdg kk
theorem r_put (F : FX G p m c cc nL s args own) (X : HX G σ s H locs) {C nm ds : String} {T : u_T} {N ci ix : Nat} {fs : List Value} {v : Value} {ty : FieldType} (k : Nat) (hk : k < 43) (g : Int → Int) (he : eK G k (σ k) = .inr (ci, fs)) (hc : vwCl[ci]? = some (C, T, N)) (hin : ∀ w ∈ u_ws C T N, w ∈ BIG) (ty0 : Nat → FieldType) (hty : ∀ k, k < N → parseFieldDescriptor (T k).2.2.1 = some (ty0 k)) (hnms : ∀ a, a < N → ∀ b, b < N → a ≠ b → (T a).2.1 ≠ (T b).2.1) (j : Nat) (hj : j < N) (hnm : (C, nm, ds) = ((T j).1, (T j).2.1, (T j).2.2.1)) (hlk : Cond.fieldLink own ix C nm ds ∈ BIG) (hfin : (T j).2.2.2 = false) (hd : parseFieldDescriptor (T j).2.2.1 = some ty) (hn : narrow ty v = v) (hfit : fits ty v = true) (hl : j < fs.length) (hg : eK G k g = .inr (ci, fs.set j v)) (hdg : decode cc pc = .ok (.putfield ix, 3)) (kk : ∀ (H : Heap) (locs : List Loc), HX G (up σ k g) s H locs → W p l e R s m args below meth c H locs cells slots Q (F0 m (pc + 3) ls rest)) : W p l e R s m args below meth c H locs cells slots Q (F0 m pc ls (v :: .ref (gY G k) :: rest)) := by
  have e1 : C = (T j).1 := congrArg (fun q => q.1) hnm
  have e2 : nm = (T j).2.1 := congrArg (fun q => q.2.1) hnm
  have e3 : ds = (T j).2.2.1 := congrArg (fun q => q.2.2) hnm
  refine va_put (D := gD G) (ref := C) F.1.1 F.1.2.1 F.1.2.2.2.2 hin ty0 hty hnms F.1.2.2.2.1 F.2.1.1 X.1 (F.2.2.2.D σ) X.2 k (by rw [wl_at G σ hk, he]) hc j hj (by rw [← e2, ← e3]; exact F.1.2.2.2.2 _ hlk) (fun x h => by rw [e1]; exact h) hfin hd hn hfit hl hdg (fun H1 locs1 hP _ hS => kk H1 locs1 ⟨?_, hS⟩)
  rw [← wl_set G σ hk g, hg]
  exact hP
theorem r_iald (F : FX G p m c cc nL s args own) (X : HX G σ s H locs) {n : Nat} {a : Int} (k : Nat) (hk : k < 43) (he : ∀ f, eK G k f = fI (gI G) n f) (h : 0 ≤ a ∧ a < n) (hn : n < 2147483648) (hdg : decode cc pc = .ok (.iaload, 1)) (kk : W p l e R s m args below meth c H locs cells slots Q (F0 m (pc + 1) ls (.int (I (σ k a)) :: rest))) : W p l e R s m args below meth c H locs cells slots Q (F0 m pc ls (.int (I a) :: .ref (gY G k) :: rest)) := by
  refine va_iald F.1.1 F.1.2.1 F.2.1.1 X.1 k 0 (by rw [wl_at G σ hk, he]; rfl) rfl (I_in h.1 h.2 hn) hdg ?_
  rw [I_nat (by omega), show ((a.toNat : Nat) : Int) = a by omega]
  exact kk
theorem r_zald (F : FX G p m c cc nL s args own) (X : HX G σ s H locs) {n : Nat} {a : Int} (k : Nat) (hk : k < 43) (he : ∀ f, eK G k f = fI (gZ G) n f) (h : 0 ≤ a ∧ a < n) (hn : n < 2147483648) (hdg : decode cc pc = .ok (.baload, 1)) (kk : W p l e R s m args below meth c H locs cells slots Q (F0 m (pc + 1) ls (.int (I (σ k a)) :: rest))) : W p l e R s m args below meth c H locs cells slots Q (F0 m pc ls (.int (I a) :: .ref (gY G k) :: rest)) := by
  refine va_zald F.1.1 F.1.2.1 F.2.1.1 X.1 k 2 (by rw [wl_at G σ hk, he]; rfl) rfl (I_in h.1 h.2 hn) hdg ?_
  rw [I_nat (by omega), show ((a.toNat : Nat) : Int) = a by omega]
  exact kk
theorem r_lald (F : FX G p m c cc nL s args own) (X : HX G σ s H locs) {n : Nat} {a : Int} (k : Nat) (hk : k < 43) (he : ∀ f, eK G k f = fJ (gJ G) n f) (h : 0 ≤ a ∧ a < n) (hn : n < 2147483648) (hdg : decode cc pc = .ok (.laload, 1)) (kk : W p l e R s m args below meth c H locs cells slots Q (F0 m (pc + 1) ls (.long (J (σ k a)) :: rest))) : W p l e R s m args below meth c H locs cells slots Q (F0 m pc ls (.int (I a) :: .ref (gY G k) :: rest)) := by
  refine va_lald F.1.1 F.1.2.1 F.2.1.1 X.1 k 1 (by rw [wl_at G σ hk, he]; rfl) rfl (I_in h.1 h.2 hn) hdg ?_
  rw [I_nat (by omega), show ((a.toNat : Nat) : Int) = a by omega]
  exact kk
theorem r_aald (F : FX G p m c cc nL s args own) (X : HX G σ s H locs) {n : Nat} {a : Int} {y : Nat → Nat} (k : Nat) (hk : k < 43) (he : ∀ f, eK G k f = fR (gR G) n y) (h : 0 ≤ a ∧ a < n) (hn : n < 2147483648) (hdg : decode cc pc = .ok (.aaload, 1)) (kk : W p l e R s m args below meth c H locs cells slots Q (F0 m (pc + 1) ls (.ref (y a.toNat) :: rest))) : W p l e R s m args below meth c H locs cells slots Q (F0 m pc ls (.int (I a) :: .ref (gY G k) :: rest)) := by
  have hin : vp_in (I a) n := I_in h.1 h.2 hn
  have hlt : (I a).toNatClampNeg < n := Nat.not_le.mp fun q => hin (Or.inr q)
  have ha : (wl G σ)[k]? = some (gY G k, .inl (gR G, n, .inr (.inr (.inr (.inr (fun j : Nat => if j < n then some (y j) else none)))))) := by rw [wl_at G σ hk, he]; rfl
  refine W.aald (v := va_rf ((fun j : Nat => if j < n then some (y j) else none) (I a).toNatClampNeg)) (ty := .array .long) F.1.1 F.1.2.1 (X.1 k _ ha) ((F.2.1.1.2 3 (gR G, .array .long) rfl).1 n (fun j => va_rf ((fun j : Nat => if j < n then some (y j) else none) j))) rfl (fun q => by cases q) (by show ¬ ((I a) < 0 ∨ (arrV _ _ _).slots.size ≤ _); rw [arrV_size]; exact hin) (by show (arrV _ _ _).slots[_]? = _; rw [arrV_read _ _ hlt]) rfl rfl hdg ?_
  show W p l e R s m args below meth c H locs cells slots Q (F0 m (pc + 1) ls (_ :: rest))
  rw [I_nat (by omega)]
  simp only [if_pos (show a.toNat < n by omega)]
  exact kk
theorem r_iast (F : FX G p m c cc nL s args own) (X : HX G σ s H locs) {n : Nat} {a v : Int} (k : Nat) (hk : k < 43) (he : ∀ f, eK G k f = fI (gI G) n f) (h : 0 ≤ a ∧ a < n) (hn : n < 2147483648) (hdg : decode cc pc = .ok (.iastore, 1)) (kk : ∀ (H : Heap) (locs : List Loc), HX G (up σ k (upI (σ k) a v)) s H locs → W p l e R s m args below meth c H locs cells slots Q (F0 m (pc + 1) ls rest)) : W p l e R s m args below meth c H locs cells slots Q (F0 m pc ls (.int (I v) :: .int (I a) :: .ref (gY G k) :: rest)) := by
  refine va_iast F.1.1 F.1.2.1 F.2.1.1 X.1 (F.2.2.2.D σ) X.2 k 0 (by rw [wl_at G σ hk, he]; rfl) rfl (I_in h.1 h.2 hn) hdg (fun H1 locs1 hP _ hS => kk H1 locs1 ⟨?_, hS⟩)
  rw [← wl_set G σ hk, he, ← fI_upd _ _ _ h.1]
  rw [I_nat (by omega)] at hP
  skip
  exact hP
theorem r_zast (F : FX G p m c cc nL s args own) (X : HX G σ s H locs) {n : Nat} {a v : Int} (k : Nat) (hk : k < 43) (he : ∀ f, eK G k f = fI (gZ G) n f) (h : 0 ≤ a ∧ a < n) (hn : n < 2147483648) (hv : v = 0 ∨ v = 1) (hdg : decode cc pc = .ok (.bastore, 1)) (kk : ∀ (H : Heap) (locs : List Loc), HX G (up σ k (upI (σ k) a v)) s H locs → W p l e R s m args below meth c H locs cells slots Q (F0 m (pc + 1) ls rest)) : W p l e R s m args below meth c H locs cells slots Q (F0 m pc ls (.int (I v) :: .int (I a) :: .ref (gY G k) :: rest)) := by
  refine va_zast F.1.1 F.1.2.1 F.2.1.1 X.1 (F.2.2.2.D σ) X.2 k 2 (by rw [wl_at G σ hk, he]; rfl) rfl (I_in h.1 h.2 hn) hdg (fun H1 locs1 hP _ hS => kk H1 locs1 ⟨?_, hS⟩)
  rw [← wl_set G σ hk, he, ← fI_upd _ _ _ h.1]
  rw [I_nat (by omega)] at hP
  rw [I_bool hv] at hP
  exact hP
theorem r_last (F : FX G p m c cc nL s args own) (X : HX G σ s H locs) {n : Nat} {a v : Int} (k : Nat) (hk : k < 43) (he : ∀ f, eK G k f = fJ (gJ G) n f) (h : 0 ≤ a ∧ a < n) (hn : n < 2147483648) (hdg : decode cc pc = .ok (.lastore, 1)) (kk : ∀ (H : Heap) (locs : List Loc), HX G (up σ k (upI (σ k) a v)) s H locs → W p l e R s m args below meth c H locs cells slots Q (F0 m (pc + 1) ls rest)) : W p l e R s m args below meth c H locs cells slots Q (F0 m pc ls (.long (J v) :: .int (I a) :: .ref (gY G k) :: rest)) := by
  refine va_last F.1.1 F.1.2.1 F.2.1.1 X.1 (F.2.2.2.D σ) X.2 k 1 (by rw [wl_at G σ hk, he]; rfl) rfl (I_in h.1 h.2 hn) hdg (fun H1 locs1 hP _ hS => kk H1 locs1 ⟨?_, hS⟩)
  rw [← wl_set G σ hk, he, ← fJ_upd _ _ _ h.1]
  rw [I_nat (by omega)] at hP
  skip
  exact hP
end RW
end
section
section CA
variable {p : Program} {l : Launch} {e : Env} {R : Room} {s : State} {m : MethodId} {args : Array Value} {below : List Frame} {meth : Method} {c : Code} {H : Heap} {locs : List Loc} {cells slots : Nat} {Q : State → Prop}
variable {cc : ByteArray} {nL pc : Nat} {ls : Array Slot} {rest : List Value} {own : String} {G : GT} {σ : St}
theorem r_iret {τ : St} (F : FX G p m c cc nL s args own) (X : HX G τ s H locs) {post : Int → St → Prop} {a : Int} (hr : meth.sig.returnType = some .int) (hk : meth.locks = false) (hdg : decode cc pc = .ok (.ireturn, 1)) (hp : post a τ) : W p l e R s m args below meth c H locs 0 0 (MQ below (QI G post) args s 0 0 (gA G)) (F0 m pc ls [.int (I a)]) :=
  W.iret F.1.1 F.1.2.1 hr (fun t ht hW => ⟨⟨I a, τ, rfl, ⟨a, rfl, hp⟩, F.out X ht hW⟩, X.2.F ht⟩) X.2.2.2 hdg hk
theorem r_lret {τ : St} (F : FX G p m c cc nL s args own) (X : HX G τ s H locs) {post : Int → St → Prop} {a : Int} (hr : meth.sig.returnType = some .long) (hk : meth.locks = false) (hdg : decode cc pc = .ok (.lreturn, 1)) (hp : post a τ) : W p l e R s m args below meth c H locs 0 0 (MQ below (QJ G post) args s 0 0 (gA G)) (F0 m pc ls [.long (J a)]) :=
  W.lret F.1.1 F.1.2.1 hr (fun t ht hW => ⟨⟨J a, τ, rfl, ⟨a, rfl, hp⟩, F.out X ht hW⟩, X.2.F ht⟩) X.2.2.2 hdg hk
theorem r_zret {τ : St} (F : FX G p m c cc nL s args own) (X : HX G τ s H locs) {post : Int → St → Prop} {a : Int} (hr : meth.sig.returnType = some .boolean) (hk : meth.locks = false) (hz : a = 0 ∨ a = 1) (hdg : decode cc pc = .ok (.ireturn, 1)) (hp : post a τ) : W p l e R s m args below meth c H locs 0 0 (MQ below (QI G post) args s 0 0 (gA G)) (F0 m pc ls [.int (I a)]) :=
  W.zret F.1.1 F.1.2.1 hr (by rcases hz with rfl | rfl <;> rfl) (fun t ht hW => ⟨⟨I a, τ, rfl, ⟨a, rfl, hp⟩, F.out X ht hW⟩, X.2.F ht⟩) X.2.2.2 hdg hk
theorem r_vret {τ : St} (F : FX G p m c cc nL s args own) (X : HX G τ s H locs) {post : St → Prop} (hr : meth.sig.returnType = none) (hk : meth.locks = false) (hdg : decode cc pc = .ok (.return_, 1)) (hp : post τ) : W p l e R s m args below meth c H locs 0 0 (MQ below (QV G post) args s 0 0 (gA G)) (F0 m pc ls []) :=
  W.vret F.1.1 F.1.2.1 hr (fun t ht hW => ⟨⟨τ, rfl, hp, F.out X ht hW⟩, X.2.F ht⟩) X.2.2.2 hdg hk
theorem r_cVI (F : FX G p m c cc nL s args own) (X : HX G σ s H locs) {C : String} {T : u_T} {N ci : Nat} {fs : List Value} {y : MethodName} {cy : ByteArray} {n d np ix : Nat} {ret : Option FieldType} {As st0 : List Value} (k : Nat) (hk : k < 43) (he : eK G k (σ k) = .inr (ci, fs)) (hc : vwCl[ci]? = some (C, T, N))  {post : Int → St → Prop} (hM : Ct l y cy n ret d G (.ref (gY G k) :: As) σ (QI G post)) (gv : GoodIn BIG (wsV own ix C y (Cond.code y cy n ret :: BIG))) (hC : y.cls = C) (nd : y.cls ≠ "java/lang/invoke/MethodHandle" ∧ y.cls ≠ "java/lang/invoke/VarHandle" ∧ (parseMethodDescriptor y.desc).map (fun d => d.parameters.length) = some np) (hlen : As.length = np) (hst : st0 = As.reverse ++ .ref (gY G k) :: rest) (hrm : 2 * (F0 m pc ls st0).monitorRoom + (rest.map fun v => v.category).sum ≤ 8) (hR : (rmd d).frames + 1 ≤ R.frames ∧ 8 + (n + 11) + (rmd d).locals ≤ R.locals) (hcs : cells + 0 ≤ R.cells ∧ slots + 0 ≤ R.slots) (hsz : ls.size = nL) (hdg : decode cc pc = .ok (.invokevirtual ix, 3)) (kk : ∀ (a : Int) (τ : St) (H : Heap) (locs : List Loc), post a τ → HX G τ s H locs → W p l e R s m args below meth c H locs cells slots Q (F0 m (pc + 3) ls (.int (I a) :: rest))) : W p l e R s m args below meth c H locs cells slots Q (F0 m pc ls st0) := by
  refine va_calli (va_runV (As := As) (rest := rest) F.1 hM (cwV np F.1.2.2.2.2 gv rfl rfl rfl ⟨hC, nd⟩ hR) ⟨GW.blind, va_recv F.2.1.1 X.1 hc (by rw [wl_at G σ hk, he]), fun U hU hW => ⟨rfl, F.out X hU hW⟩⟩ rfl hlen hsz hst hrm hdg hcs) X.2 (fun q _ h => h) (fun q h => h) (fun r u t H1 locs1 ht hvm hp hB _ _ hS => ?_)
  obtain ⟨a, rfl, hp⟩ := hp
  exact kk a u H1 locs1 hp ⟨by rw [← ht]; exact hB.1, hS⟩
theorem d_cVI (F : FX G p m c cc nL s args own) (X : HX G σ s H locs) {C : String} {T : u_T} {N ci : Nat} {fs : List Value} {y : MethodName} {cy : ByteArray} {n d np ix : Nat} {ret : Option FieldType} {As st0 : List Value} (k : Nat) (hk : k < 43) (he : eK G k (σ k) = .inr (ci, fs)) (hc : vwCl[ci]? = some (C, T, N))  {σ2 : St} {a : Int} (hM : Ct l y cy n ret d G (.ref (gY G k) :: As) σ (QI G (fun x τ => x = a ∧ τ = σ2))) (gv : GoodIn BIG (wsV own ix C y (Cond.code y cy n ret :: BIG))) (hC : y.cls = C) (nd : y.cls ≠ "java/lang/invoke/MethodHandle" ∧ y.cls ≠ "java/lang/invoke/VarHandle" ∧ (parseMethodDescriptor y.desc).map (fun d => d.parameters.length) = some np) (hlen : As.length = np) (hst : st0 = As.reverse ++ .ref (gY G k) :: rest) (hrm : 2 * (F0 m pc ls st0).monitorRoom + (rest.map fun v => v.category).sum ≤ 8) (hR : (rmd d).frames + 1 ≤ R.frames ∧ 8 + (n + 11) + (rmd d).locals ≤ R.locals) (hcs : cells + 0 ≤ R.cells ∧ slots + 0 ≤ R.slots) (hsz : ls.size = nL) (hdg : decode cc pc = .ok (.invokevirtual ix, 3)) (kk : ∀ (H : Heap) (locs : List Loc), HX G σ2 s H locs → W p l e R s m args below meth c H locs cells slots Q (F0 m (pc + 3) ls (.int (I a) :: rest))) : W p l e R s m args below meth c H locs cells slots Q (F0 m pc ls st0) := by
  refine r_cVI F X k hk he hc hM gv hC nd hlen hst hrm hR hcs hsz hdg (fun b τ H locs hp X => ?_)
  obtain ⟨rfl, rfl⟩ := hp
  exact kk H locs X
theorem r_cVJ (F : FX G p m c cc nL s args own) (X : HX G σ s H locs) {C : String} {T : u_T} {N ci : Nat} {fs : List Value} {y : MethodName} {cy : ByteArray} {n d np ix : Nat} {ret : Option FieldType} {As st0 : List Value} (k : Nat) (hk : k < 43) (he : eK G k (σ k) = .inr (ci, fs)) (hc : vwCl[ci]? = some (C, T, N))  {post : Int → St → Prop} (hM : Ct l y cy n ret d G (.ref (gY G k) :: As) σ (QJ G post)) (gv : GoodIn BIG (wsV own ix C y (Cond.code y cy n ret :: BIG))) (hC : y.cls = C) (nd : y.cls ≠ "java/lang/invoke/MethodHandle" ∧ y.cls ≠ "java/lang/invoke/VarHandle" ∧ (parseMethodDescriptor y.desc).map (fun d => d.parameters.length) = some np) (hlen : As.length = np) (hst : st0 = As.reverse ++ .ref (gY G k) :: rest) (hrm : 2 * (F0 m pc ls st0).monitorRoom + (rest.map fun v => v.category).sum ≤ 8) (hR : (rmd d).frames + 1 ≤ R.frames ∧ 8 + (n + 11) + (rmd d).locals ≤ R.locals) (hcs : cells + 0 ≤ R.cells ∧ slots + 0 ≤ R.slots) (hsz : ls.size = nL) (hdg : decode cc pc = .ok (.invokevirtual ix, 3)) (kk : ∀ (a : Int) (τ : St) (H : Heap) (locs : List Loc), post a τ → HX G τ s H locs → W p l e R s m args below meth c H locs cells slots Q (F0 m (pc + 3) ls (.long (J a) :: rest))) : W p l e R s m args below meth c H locs cells slots Q (F0 m pc ls st0) := by
  refine va_calll (va_runV (As := As) (rest := rest) F.1 hM (cwV np F.1.2.2.2.2 gv rfl rfl rfl ⟨hC, nd⟩ hR) ⟨GW.blind, va_recv F.2.1.1 X.1 hc (by rw [wl_at G σ hk, he]), fun U hU hW => ⟨rfl, F.out X hU hW⟩⟩ rfl hlen hsz hst hrm hdg hcs) X.2 (fun q _ h => h) (fun q h => h) (fun r u t H1 locs1 ht hvm hp hB _ _ hS => ?_)
  obtain ⟨a, rfl, hp⟩ := hp
  exact kk a u H1 locs1 hp ⟨by rw [← ht]; exact hB.1, hS⟩
theorem d_cVJ (F : FX G p m c cc nL s args own) (X : HX G σ s H locs) {C : String} {T : u_T} {N ci : Nat} {fs : List Value} {y : MethodName} {cy : ByteArray} {n d np ix : Nat} {ret : Option FieldType} {As st0 : List Value} (k : Nat) (hk : k < 43) (he : eK G k (σ k) = .inr (ci, fs)) (hc : vwCl[ci]? = some (C, T, N))  {σ2 : St} {a : Int} (hM : Ct l y cy n ret d G (.ref (gY G k) :: As) σ (QJ G (fun x τ => x = a ∧ τ = σ2))) (gv : GoodIn BIG (wsV own ix C y (Cond.code y cy n ret :: BIG))) (hC : y.cls = C) (nd : y.cls ≠ "java/lang/invoke/MethodHandle" ∧ y.cls ≠ "java/lang/invoke/VarHandle" ∧ (parseMethodDescriptor y.desc).map (fun d => d.parameters.length) = some np) (hlen : As.length = np) (hst : st0 = As.reverse ++ .ref (gY G k) :: rest) (hrm : 2 * (F0 m pc ls st0).monitorRoom + (rest.map fun v => v.category).sum ≤ 8) (hR : (rmd d).frames + 1 ≤ R.frames ∧ 8 + (n + 11) + (rmd d).locals ≤ R.locals) (hcs : cells + 0 ≤ R.cells ∧ slots + 0 ≤ R.slots) (hsz : ls.size = nL) (hdg : decode cc pc = .ok (.invokevirtual ix, 3)) (kk : ∀ (H : Heap) (locs : List Loc), HX G σ2 s H locs → W p l e R s m args below meth c H locs cells slots Q (F0 m (pc + 3) ls (.long (J a) :: rest))) : W p l e R s m args below meth c H locs cells slots Q (F0 m pc ls st0) := by
  refine r_cVJ F X k hk he hc hM gv hC nd hlen hst hrm hR hcs hsz hdg (fun b τ H locs hp X => ?_)
  obtain ⟨rfl, rfl⟩ := hp
  exact kk H locs X
theorem r_cVV (F : FX G p m c cc nL s args own) (X : HX G σ s H locs) {C : String} {T : u_T} {N ci : Nat} {fs : List Value} {y : MethodName} {cy : ByteArray} {n d np ix : Nat} {ret : Option FieldType} {As st0 : List Value} (k : Nat) (hk : k < 43) (he : eK G k (σ k) = .inr (ci, fs)) (hc : vwCl[ci]? = some (C, T, N))  {post : St → Prop} (hM : Ct l y cy n ret d G (.ref (gY G k) :: As) σ (QV G post)) (gv : GoodIn BIG (wsV own ix C y (Cond.code y cy n ret :: BIG))) (hC : y.cls = C) (nd : y.cls ≠ "java/lang/invoke/MethodHandle" ∧ y.cls ≠ "java/lang/invoke/VarHandle" ∧ (parseMethodDescriptor y.desc).map (fun d => d.parameters.length) = some np) (hlen : As.length = np) (hst : st0 = As.reverse ++ .ref (gY G k) :: rest) (hrm : 2 * (F0 m pc ls st0).monitorRoom + (rest.map fun v => v.category).sum ≤ 8) (hR : (rmd d).frames + 1 ≤ R.frames ∧ 8 + (n + 11) + (rmd d).locals ≤ R.locals) (hcs : cells + 0 ≤ R.cells ∧ slots + 0 ≤ R.slots) (hsz : ls.size = nL) (hdg : decode cc pc = .ok (.invokevirtual ix, 3)) (kk : ∀ (τ : St) (H : Heap) (locs : List Loc), post τ → HX G τ s H locs → W p l e R s m args below meth c H locs cells slots Q (F0 m (pc + 3) ls (rest))) : W p l e R s m args below meth c H locs cells slots Q (F0 m pc ls st0) := by
  refine va_callv (va_runV (As := As) (rest := rest) F.1 hM (cwV np F.1.2.2.2.2 gv rfl rfl rfl ⟨hC, nd⟩ hR) ⟨GW.blind, va_recv F.2.1.1 X.1 hc (by rw [wl_at G σ hk, he]), fun U hU hW => ⟨rfl, F.out X hU hW⟩⟩ rfl hlen hsz hst hrm hdg hcs) X.2 (fun q _ h => h) (fun q h => h) (fun u t H1 locs1 ht hvm hp hB _ _ hS => ?_)
  exact kk u H1 locs1 hp ⟨by rw [← ht]; exact hB.1, hS⟩
theorem d_cVV (F : FX G p m c cc nL s args own) (X : HX G σ s H locs) {C : String} {T : u_T} {N ci : Nat} {fs : List Value} {y : MethodName} {cy : ByteArray} {n d np ix : Nat} {ret : Option FieldType} {As st0 : List Value} (k : Nat) (hk : k < 43) (he : eK G k (σ k) = .inr (ci, fs)) (hc : vwCl[ci]? = some (C, T, N))  {σ2 : St}  (hM : Ct l y cy n ret d G (.ref (gY G k) :: As) σ (QV G (fun τ => τ = σ2))) (gv : GoodIn BIG (wsV own ix C y (Cond.code y cy n ret :: BIG))) (hC : y.cls = C) (nd : y.cls ≠ "java/lang/invoke/MethodHandle" ∧ y.cls ≠ "java/lang/invoke/VarHandle" ∧ (parseMethodDescriptor y.desc).map (fun d => d.parameters.length) = some np) (hlen : As.length = np) (hst : st0 = As.reverse ++ .ref (gY G k) :: rest) (hrm : 2 * (F0 m pc ls st0).monitorRoom + (rest.map fun v => v.category).sum ≤ 8) (hR : (rmd d).frames + 1 ≤ R.frames ∧ 8 + (n + 11) + (rmd d).locals ≤ R.locals) (hcs : cells + 0 ≤ R.cells ∧ slots + 0 ≤ R.slots) (hsz : ls.size = nL) (hdg : decode cc pc = .ok (.invokevirtual ix, 3)) (kk : ∀ (H : Heap) (locs : List Loc), HX G σ2 s H locs → W p l e R s m args below meth c H locs cells slots Q (F0 m (pc + 3) ls (rest))) : W p l e R s m args below meth c H locs cells slots Q (F0 m pc ls st0) := by
  refine r_cVV F X k hk he hc hM gv hC nd hlen hst hrm hR hcs hsz hdg (fun τ H locs hp X => ?_)
  subst hp
  exact kk H locs X
theorem r_cSI (F : FX G p m c cc nL s args own) (X : HX G σ s H locs) {y : MethodName} {cy : ByteArray} {n d np ix : Nat} {ret : Option FieldType} {As st0 : List Value}  {post : Int → St → Prop} (hM : Ct l y cy n ret d G As σ (QI G post)) (gv : GoodIn BIG (va_wsS own ix y (Cond.code y cy n ret :: BIG))) (nd : y.cls ≠ "java/lang/invoke/MethodHandle" ∧ y.cls ≠ "java/lang/invoke/VarHandle" ∧ (parseMethodDescriptor y.desc).map (fun d => d.parameters.length) = some np) (hlen : As.length = np) (hst : st0 = As.reverse ++ rest) (hrm : 2 * (F0 m pc ls st0).monitorRoom + (rest.map fun v => v.category).sum ≤ 8) (hR : (rmd d).frames + 1 ≤ R.frames ∧ 8 + (n + 11) + (rmd d).locals ≤ R.locals) (hcs : cells + 0 ≤ R.cells ∧ slots + 0 ≤ R.slots) (hsz : ls.size = nL) (hdg : decode cc pc = .ok (.invokestatic ix, 3)) (kk : ∀ (a : Int) (τ : St) (H : Heap) (locs : List Loc), post a τ → HX G τ s H locs → W p l e R s m args below meth c H locs cells slots Q (F0 m (pc + 3) ls (.int (I a) :: rest))) : W p l e R s m args below meth c H locs cells slots Q (F0 m pc ls st0) := by
  refine va_calli (va_runS (As := As) (rest := rest) F.1 hM (va_cwS np F.1.2.2.2.2 gv rfl rfl rfl nd hR) ⟨GW.blind, fun U hU hW => ⟨rfl, F.out X hU hW⟩⟩ rfl hlen hsz hst hrm hdg hcs) X.2 (fun q _ h => h) (fun q h => h) (fun r u t H1 locs1 ht hvm hp hB _ _ hS => ?_)
  obtain ⟨a, rfl, hp⟩ := hp
  exact kk a u H1 locs1 hp ⟨by rw [← ht]; exact hB.1, hS⟩
theorem d_cSI (F : FX G p m c cc nL s args own) (X : HX G σ s H locs) {y : MethodName} {cy : ByteArray} {n d np ix : Nat} {ret : Option FieldType} {As st0 : List Value}  {σ2 : St} {a : Int} (hM : Ct l y cy n ret d G As σ (QI G (fun x τ => x = a ∧ τ = σ2))) (gv : GoodIn BIG (va_wsS own ix y (Cond.code y cy n ret :: BIG))) (nd : y.cls ≠ "java/lang/invoke/MethodHandle" ∧ y.cls ≠ "java/lang/invoke/VarHandle" ∧ (parseMethodDescriptor y.desc).map (fun d => d.parameters.length) = some np) (hlen : As.length = np) (hst : st0 = As.reverse ++ rest) (hrm : 2 * (F0 m pc ls st0).monitorRoom + (rest.map fun v => v.category).sum ≤ 8) (hR : (rmd d).frames + 1 ≤ R.frames ∧ 8 + (n + 11) + (rmd d).locals ≤ R.locals) (hcs : cells + 0 ≤ R.cells ∧ slots + 0 ≤ R.slots) (hsz : ls.size = nL) (hdg : decode cc pc = .ok (.invokestatic ix, 3)) (kk : ∀ (H : Heap) (locs : List Loc), HX G σ2 s H locs → W p l e R s m args below meth c H locs cells slots Q (F0 m (pc + 3) ls (.int (I a) :: rest))) : W p l e R s m args below meth c H locs cells slots Q (F0 m pc ls st0) := by
  refine r_cSI F X hM gv nd hlen hst hrm hR hcs hsz hdg (fun b τ H locs hp X => ?_)
  obtain ⟨rfl, rfl⟩ := hp
  exact kk H locs X
theorem r_cSJ (F : FX G p m c cc nL s args own) (X : HX G σ s H locs) {y : MethodName} {cy : ByteArray} {n d np ix : Nat} {ret : Option FieldType} {As st0 : List Value}  {post : Int → St → Prop} (hM : Ct l y cy n ret d G As σ (QJ G post)) (gv : GoodIn BIG (va_wsS own ix y (Cond.code y cy n ret :: BIG))) (nd : y.cls ≠ "java/lang/invoke/MethodHandle" ∧ y.cls ≠ "java/lang/invoke/VarHandle" ∧ (parseMethodDescriptor y.desc).map (fun d => d.parameters.length) = some np) (hlen : As.length = np) (hst : st0 = As.reverse ++ rest) (hrm : 2 * (F0 m pc ls st0).monitorRoom + (rest.map fun v => v.category).sum ≤ 8) (hR : (rmd d).frames + 1 ≤ R.frames ∧ 8 + (n + 11) + (rmd d).locals ≤ R.locals) (hcs : cells + 0 ≤ R.cells ∧ slots + 0 ≤ R.slots) (hsz : ls.size = nL) (hdg : decode cc pc = .ok (.invokestatic ix, 3)) (kk : ∀ (a : Int) (τ : St) (H : Heap) (locs : List Loc), post a τ → HX G τ s H locs → W p l e R s m args below meth c H locs cells slots Q (F0 m (pc + 3) ls (.long (J a) :: rest))) : W p l e R s m args below meth c H locs cells slots Q (F0 m pc ls st0) := by
  refine va_calll (va_runS (As := As) (rest := rest) F.1 hM (va_cwS np F.1.2.2.2.2 gv rfl rfl rfl nd hR) ⟨GW.blind, fun U hU hW => ⟨rfl, F.out X hU hW⟩⟩ rfl hlen hsz hst hrm hdg hcs) X.2 (fun q _ h => h) (fun q h => h) (fun r u t H1 locs1 ht hvm hp hB _ _ hS => ?_)
  obtain ⟨a, rfl, hp⟩ := hp
  exact kk a u H1 locs1 hp ⟨by rw [← ht]; exact hB.1, hS⟩
theorem d_cSJ (F : FX G p m c cc nL s args own) (X : HX G σ s H locs) {y : MethodName} {cy : ByteArray} {n d np ix : Nat} {ret : Option FieldType} {As st0 : List Value}  {σ2 : St} {a : Int} (hM : Ct l y cy n ret d G As σ (QJ G (fun x τ => x = a ∧ τ = σ2))) (gv : GoodIn BIG (va_wsS own ix y (Cond.code y cy n ret :: BIG))) (nd : y.cls ≠ "java/lang/invoke/MethodHandle" ∧ y.cls ≠ "java/lang/invoke/VarHandle" ∧ (parseMethodDescriptor y.desc).map (fun d => d.parameters.length) = some np) (hlen : As.length = np) (hst : st0 = As.reverse ++ rest) (hrm : 2 * (F0 m pc ls st0).monitorRoom + (rest.map fun v => v.category).sum ≤ 8) (hR : (rmd d).frames + 1 ≤ R.frames ∧ 8 + (n + 11) + (rmd d).locals ≤ R.locals) (hcs : cells + 0 ≤ R.cells ∧ slots + 0 ≤ R.slots) (hsz : ls.size = nL) (hdg : decode cc pc = .ok (.invokestatic ix, 3)) (kk : ∀ (H : Heap) (locs : List Loc), HX G σ2 s H locs → W p l e R s m args below meth c H locs cells slots Q (F0 m (pc + 3) ls (.long (J a) :: rest))) : W p l e R s m args below meth c H locs cells slots Q (F0 m pc ls st0) := by
  refine r_cSJ F X hM gv nd hlen hst hrm hR hcs hsz hdg (fun b τ H locs hp X => ?_)
  obtain ⟨rfl, rfl⟩ := hp
  exact kk H locs X
theorem r_cSV (F : FX G p m c cc nL s args own) (X : HX G σ s H locs) {y : MethodName} {cy : ByteArray} {n d np ix : Nat} {ret : Option FieldType} {As st0 : List Value}  {post : St → Prop} (hM : Ct l y cy n ret d G As σ (QV G post)) (gv : GoodIn BIG (va_wsS own ix y (Cond.code y cy n ret :: BIG))) (nd : y.cls ≠ "java/lang/invoke/MethodHandle" ∧ y.cls ≠ "java/lang/invoke/VarHandle" ∧ (parseMethodDescriptor y.desc).map (fun d => d.parameters.length) = some np) (hlen : As.length = np) (hst : st0 = As.reverse ++ rest) (hrm : 2 * (F0 m pc ls st0).monitorRoom + (rest.map fun v => v.category).sum ≤ 8) (hR : (rmd d).frames + 1 ≤ R.frames ∧ 8 + (n + 11) + (rmd d).locals ≤ R.locals) (hcs : cells + 0 ≤ R.cells ∧ slots + 0 ≤ R.slots) (hsz : ls.size = nL) (hdg : decode cc pc = .ok (.invokestatic ix, 3)) (kk : ∀ (τ : St) (H : Heap) (locs : List Loc), post τ → HX G τ s H locs → W p l e R s m args below meth c H locs cells slots Q (F0 m (pc + 3) ls (rest))) : W p l e R s m args below meth c H locs cells slots Q (F0 m pc ls st0) := by
  refine va_callv (va_runS (As := As) (rest := rest) F.1 hM (va_cwS np F.1.2.2.2.2 gv rfl rfl rfl nd hR) ⟨GW.blind, fun U hU hW => ⟨rfl, F.out X hU hW⟩⟩ rfl hlen hsz hst hrm hdg hcs) X.2 (fun q _ h => h) (fun q h => h) (fun u t H1 locs1 ht hvm hp hB _ _ hS => ?_)
  exact kk u H1 locs1 hp ⟨by rw [← ht]; exact hB.1, hS⟩
theorem d_cSV (F : FX G p m c cc nL s args own) (X : HX G σ s H locs) {y : MethodName} {cy : ByteArray} {n d np ix : Nat} {ret : Option FieldType} {As st0 : List Value}  {σ2 : St}  (hM : Ct l y cy n ret d G As σ (QV G (fun τ => τ = σ2))) (gv : GoodIn BIG (va_wsS own ix y (Cond.code y cy n ret :: BIG))) (nd : y.cls ≠ "java/lang/invoke/MethodHandle" ∧ y.cls ≠ "java/lang/invoke/VarHandle" ∧ (parseMethodDescriptor y.desc).map (fun d => d.parameters.length) = some np) (hlen : As.length = np) (hst : st0 = As.reverse ++ rest) (hrm : 2 * (F0 m pc ls st0).monitorRoom + (rest.map fun v => v.category).sum ≤ 8) (hR : (rmd d).frames + 1 ≤ R.frames ∧ 8 + (n + 11) + (rmd d).locals ≤ R.locals) (hcs : cells + 0 ≤ R.cells ∧ slots + 0 ≤ R.slots) (hsz : ls.size = nL) (hdg : decode cc pc = .ok (.invokestatic ix, 3)) (kk : ∀ (H : Heap) (locs : List Loc), HX G σ2 s H locs → W p l e R s m args below meth c H locs cells slots Q (F0 m (pc + 3) ls (rest))) : W p l e R s m args below meth c H locs cells slots Q (F0 m pc ls st0) := by
  refine r_cSV F X hM gv nd hlen hst hrm hR hcs hsz hdg (fun τ H locs hp X => ?_)
  subst hp
  exact kk H locs X
theorem r_gets (F : FX G p m c cc nL s args own) (X : HX G σ s H locs) {ix : Nat} (k : Nat) (hk : k < 5) (hlk : Cond.fieldLink own ix "CamMaker" (sN k) "[I" ∈ BIG) (hdg : decode cc pc = .ok (.getstatic ix, 3)) (kk : W p l e R s m args below meth c H locs cells slots Q (F0 m (pc + 3) ls (.ref (gT G k) :: rest))) : W p l e R s m args below meth c H locs cells slots Q (F0 m pc ls rest) :=
  va_gets F.1.1 F.1.2.1 (F.2.2.1 k hk).1 X.2 F.1.2.2.2.1 (F.1.2.2.2.2 _ hlk) (fun _ h => h) hdg kk
theorem r_getsN (F : FX G p m c cc nL s args own) (X : HX G σ s H locs) {ix : Nat} (k : Nat) (hk : k < 5) (hlk : va_Nw (.fieldLinkNest own ix "CamMaker" (sN k) "[I" "CamMaker") s) (hdg : decode cc pc = .ok (.getstatic ix, 3)) (kk : W p l e R s m args below meth c H locs cells slots Q (F0 m (pc + 3) ls (.ref (gT G k) :: rest))) : W p l e R s m args below meth c H locs cells slots Q (F0 m pc ls rest) :=
  va_getsN F.1.1 F.1.2.1 (F.2.2.1 k hk).1 X.2 F.1.2.2.2.1 (va_Nw.use rfl hlk) (fun _ h => h) hdg kk
theorem r_tald (F : FX G p m c cc nL s args own) (X : HX G σ s H locs) {a : Int} (k : Nat) (hk : k < 5) (h : 0 ≤ a ∧ a < stn k) (hdg : decode cc pc = .ok (.iaload, 1)) (kk : W p l e R s m args below meth c H locs cells slots Q (F0 m (pc + 1) ls (.int (I (stv k a)) :: rest))) : W p l e R s m args below meth c H locs cells slots Q (F0 m pc ls (.int (I a) :: .ref (gT G k) :: rest)) := by
  have hn : stn k < 2147483648 := by unfold stn; split <;> omega
  refine va_ti (v := .int (I (stv k a))) F.1.1 F.1.2.1 (F.2.2.1 k hk).2 X.2 (I_in h.1 h.2 hn) ?_ hdg kk
  rw [I_nat (by omega)]
  show Value.int (I (stv k ((a.toNat : Nat) : Int))) = _
  rw [show ((a.toNat : Nat) : Int) = a by omega]
theorem r_tlen (F : FX G p m c cc nL s args own) (X : HX G σ s H locs) (k : Nat) (hk : k < 5) (v : Int) (hv : (stn k : Int) = v) (hdg : decode cc pc = .ok (.arraylength, 1)) (kk : W p l e R s m args below meth c H locs cells slots Q (F0 m (pc + 1) ls (.int (I v) :: rest))) : W p l e R s m args below meth c H locs cells slots Q (F0 m pc ls (.ref (gT G k) :: rest)) := by
  refine va_tlen (v := I v) F.1.1 F.1.2.1 (F.2.2.1 k hk).2 X.2 ?_ hdg kk
  rw [← hv]
  rfl
theorem r_alen (F : FX G p m c cc nL s args own) (X : HX G σ s H locs) (k : Nat) (hk : k < 43) {cA : ClassId} {n : Nat} {z : (Nat → Int32) ⊕ (Nat → Int64) ⊕ (Nat → UInt32) ⊕ (Nat → UInt64) ⊕ (Nat → Option Nat)} (t0 : Nat) {ty : FieldType} (he : eK G k (σ k) = .inl (cA, n, z)) (ht : (tyG G)[t0]? = some (cA, ty)) (v : Int) (hv : (n : Int) = v) (hdg : decode cc pc = .ok (.arraylength, 1)) (kk : W p l e R s m args below meth c H locs cells slots Q (F0 m (pc + 1) ls (.int (I v) :: rest))) : W p l e R s m args below meth c H locs cells slots Q (F0 m pc ls (.ref (gY G k) :: rest)) := by
  refine va_alen (v := I v) F.1.1 F.1.2.1 F.2.1.1 X.1 k t0 (by rw [wl_at G σ hk, he]) ht ?_ hdg kk
  rw [← hv]
  rfl
def cpyI (f g : Int → Int) (sp dp n : Int) : Int → Int := fun j => if dp ≤ j ∧ j < dp + n then f (sp + (j - dp)) else g j
theorem fI_cpy (c : ClassId) (n : Nat) (f g : Int → Int) {sp dp k : Int} (h1 : 0 ≤ sp) (h2 : 0 ≤ dp) (h3 : 0 ≤ k) : (.inl (c, n, .inl (va_cpy (fun j : Nat => I (f (j : Int))) (fun j : Nat => I (g (j : Int))) sp.toNat dp.toNat k.toNat)) : va_E) = fI c n (cpyI f g sp dp k) := by
  unfold fI
  congr 4
  funext j
  unfold va_cpy cpyI
  by_cases e : dp.toNat ≤ j ∧ j < dp.toNat + k.toNat
  · rw [if_pos e, if_pos (by omega)]
    show I (f ((sp.toNat + (j - dp.toNat) : Nat) : Int)) = I (f (sp + ((j : Int) - dp)))
    rw [show ((sp.toNat + (j - dp.toNat) : Nat) : Int) = sp + ((j : Int) - dp) by omega]
  · rw [if_neg e, if_neg (by omega)]
theorem r_copy (F : FX G p m c cc nL s args own) (X : HX G σ s H locs) {ix n0 n1 : Nat} {sp dp n : Int} (k0 k1 : Nat) (hk0 : k0 < 43) (hk1 : k1 < 43) (he0 : ∀ f, eK G k0 f = fI (gI G) n0 f) (he1 : ∀ f, eK G k1 f = fI (gI G) n1 f) (h1 : 0 ≤ sp) (h2 : 0 ≤ dp) (h3 : 0 ≤ n) (h4 : sp + n ≤ n0) (h5 : dp + n ≤ n1) (hn0 : n0 < 2147483648) (hn1 : n1 < 2147483648) (hsz : ls.size = nL) (hlk : Cond.methodLink own ix arraycopyName ∈ BIG) (hnat : Cond.native arraycopyName ∈ BIG) (hst : Cond.static arraycopyName ∈ BIG) (hini : Cond.initialized "java/lang/System" ∈ BIG) (hfr : 1 ≤ R.frames) (hlo : (rest.map fun v => v.category).sum + (nativeFrameWords "java/lang/System" "arraycopy" 5 + 11) ≤ R.locals) (hdg : decode cc pc = .ok (.invokestatic ix, 3)) (kk : ∀ (H : Heap) (locs : List Loc), HX G (up σ k1 (cpyI (σ k0) (σ k1) sp dp n)) s H locs → W p l e R s m args below meth c H locs cells slots Q (F0 m (pc + 3) ls rest)) : W p l e R s m args below meth c H locs cells slots Q (F0 m pc ls (.int (I n) :: .int (I dp) :: .ref (gY G k1) :: .int (I sp) :: .ref (gY G k0) :: rest)) := by
  have hts := F.1.2.2.2.2
  have lt0 : ∀ a : Int, 0 ≤ a → a ≤ 2147483647 → ¬ I a < 0 := fun a h h' q => by rw [I_0, I_lt (by omega) (by omega)] at q; omega
  refine va_copyi (ty := .int) F.1.1 F.1.2.1 (F.1.2.2.1.trans hsz.symm) F.1.2.2.2.1 (hts _ hlk) (hts _ hnat) (hts _ hst) (hts _ hini) F.2.1.1 X.1 (F.2.2.2.D σ) X.2 k0 k1 0 0 (by rw [wl_at G σ hk0, he0]; rfl) (by rw [wl_at G σ hk1, he1]; rfl) rfl rfl rfl (lt0 _ h1 (by omega)) (lt0 _ h2 (by omega)) (lt0 _ h3 (by omega)) (by rw [I_nat (by omega), I_nat (by omega)]; omega) (by rw [I_nat (by omega), I_nat (by omega)]; omega) (fun _ _ => rfl) hfr hlo hdg (fun H1 locs1 hP _ hS => kk H1 locs1 ⟨?_, hS⟩)
  rw [← wl_set G σ hk1, he1, ← fI_cpy _ _ _ _ h1 h2 h3]
  rw [I_nat (by omega), I_nat (by omega), I_nat (by omega)] at hP
  exact hP
end CA
end
section
/-! THE CAM as numbers: N STEPS, r the told numbers (LONG 0.., END 12.., LAW 24.., STEP 36.., LIFT 44.., NEAR 52.., 60 SEGMENTS, 61 MARKS, 62 START, 63 BASE .. 70 SLACK) -/
def bg (r : Int → Int) : Nat → Int
  | 0 => 0
  | n + 1 => bg r n + r (n : Int)
def bgI (r : Int → Int) (s : Int) : Int := bg r s.toNat
theorem bgI_0 (r : Int → Int) : bgI r 0 = 0 := rfl
theorem bgI_succ (r : Int → Int) {s : Int} (h : 0 ≤ s) : bgI r (s + 1) = bgI r s + r s := by
  unfold bgI
  rw [show (s + 1).toNat = s.toNat + 1 by omega]
  show bg r s.toNat + r ((s.toNat : Nat) : Int) = _
  rw [show ((s.toNat : Nat) : Int) = s by omega]
def og (r : Int → Int) (s : Int) : Int := if s = 0 then r 62 else r (12 + (s - 1))
def dwl (r : Int → Int) (s : Int) : Bool := decide (r (12 + s) = og r s)
def mv (r : Int → Int) : Nat → Int
  | 0 => 0
  | n + 1 => mv r n + (if dwl r (n : Int) = true then 0 else 1)
def mvI (r : Int → Int) (s : Int) : Int := mv r s.toNat
theorem mvI_succ (r : Int → Int) {s : Int} (h : 0 ≤ s) : mvI r (s + 1) = mvI r s + (if dwl r s = true then 0 else 1) := by
  unfold mvI
  rw [show (s + 1).toNat = s.toNat + 1 by omega]
  show mv r s.toNat + (if dwl r ((s.toNat : Nat) : Int) = true then 0 else 1) = _
  rw [show ((s.toNat : Nat) : Int) = s by omega]
def whl (N : Int) (r : Int → Int) : Bool := decide (0 < r 60 ∧ bgI r (r 60) = N ∧ r (12 + (r 60 - 1)) = r 62)
theorem whl_iff {N : Int} {r : Int → Int} : whl N r = true ↔ (0 < r 60 ∧ bgI r (r 60) = N ∧ r (12 + (r 60 - 1)) = r 62) := by unfold whl; exact decide_eq_true_iff
/-- the numbers lie where they may -/
def WF (N : Int) (r : Int → Int) : Prop := (24 ≤ N ∧ N ≤ 120 ∧ 0 ≤ r 60 ∧ r 60 ≤ 12 ∧ 0 ≤ r 61 ∧ r 61 ≤ 8 ∧ 0 ≤ r 62 ∧ r 62 ≤ 999 ∧ 10 ≤ r 63 ∧ r 63 ≤ 9999 ∧ 1 ≤ r 64 ∧ r 64 ≤ 9999 ∧ 0 ≤ r 65 ∧ r 65 ≤ 99999 ∧ 0 ≤ r 66 ∧ r 66 ≤ 999 ∧ 1 ≤ r 67 ∧ r 67 ≤ 999 ∧ 0 ≤ r 68 ∧ r 68 ≤ 9999 ∧ 0 ≤ r 69 ∧ r 69 ≤ 9999 ∧ 0 ≤ r 70 ∧ r 70 ≤ 99) ∧
  (∀ i : Int, 0 ≤ i → i < 12 → 0 ≤ r i ∧ r i ≤ 60) ∧ (∀ i : Int, 0 ≤ i → i < r 60 → 1 ≤ r i) ∧ (∀ i : Int, 0 ≤ i → i < 12 → 0 ≤ r (12 + i) ∧ r (12 + i) ≤ 999) ∧ (∀ i : Int, 0 ≤ i → i < 12 → 0 ≤ r (24 + i) ∧ r (24 + i) ≤ 3) ∧
  (∀ i : Int, 0 ≤ i → i < 8 → 0 ≤ r (36 + i) ∧ r (36 + i) ≤ 119) ∧ (∀ i : Int, 0 ≤ i → i < r 61 → r (36 + i) < N) ∧ (∀ i : Int, 0 ≤ i → i < 8 → 0 ≤ r (44 + i) ∧ r (44 + i) ≤ 999) ∧ (∀ i : Int, 0 ≤ i → i < 8 → 0 ≤ r (52 + i) ∧ r (52 + i) ≤ 99)
theorem WF.num {N : Int} {r : Int → Int} (h : WF N r) : 24 ≤ N ∧ N ≤ 120 ∧ 0 ≤ r 60 ∧ r 60 ≤ 12 ∧ 0 ≤ r 61 ∧ r 61 ≤ 8 ∧ 0 ≤ r 62 ∧ r 62 ≤ 999 ∧ 10 ≤ r 63 ∧ r 63 ≤ 9999 ∧ 1 ≤ r 64 ∧ r 64 ≤ 9999 ∧ 0 ≤ r 65 ∧ r 65 ≤ 99999 ∧ 0 ≤ r 66 ∧ r 66 ≤ 999 ∧ 1 ≤ r 67 ∧ r 67 ≤ 999 ∧ 0 ≤ r 68 ∧ r 68 ≤ 9999 ∧ 0 ≤ r 69 ∧ r 69 ≤ 9999 ∧ 0 ≤ r 70 ∧ r 70 ≤ 99 := h.1
theorem WF.lo {N : Int} {r : Int → Int} (h : WF N r) {i : Int} (h0 : 0 ≤ i) (h1 : i < 12) : 0 ≤ r i ∧ r i ≤ 60 := h.2.1 i h0 h1
theorem WF.lo1 {N : Int} {r : Int → Int} (h : WF N r) {i : Int} (h0 : 0 ≤ i) (h1 : i < r 60) : 1 ≤ r i := h.2.2.1 i h0 h1
theorem WF.en {N : Int} {r : Int → Int} (h : WF N r) {i : Int} (h0 : 0 ≤ i) (h1 : i < 12) : 0 ≤ r (12 + i) ∧ r (12 + i) ≤ 999 := h.2.2.2.1 i h0 h1
theorem WF.la {N : Int} {r : Int → Int} (h : WF N r) {i : Int} (h0 : 0 ≤ i) (h1 : i < 12) : 0 ≤ r (24 + i) ∧ r (24 + i) ≤ 3 := h.2.2.2.2.1 i h0 h1
theorem WF.ms {N : Int} {r : Int → Int} (h : WF N r) {i : Int} (h0 : 0 ≤ i) (h1 : i < 8) : 0 ≤ r (36 + i) ∧ r (36 + i) ≤ 119 := h.2.2.2.2.2.1 i h0 h1
theorem WF.mN {N : Int} {r : Int → Int} (h : WF N r) {i : Int} (h0 : 0 ≤ i) (h1 : i < r 61) : r (36 + i) < N := h.2.2.2.2.2.2.1 i h0 h1
theorem WF.ml {N : Int} {r : Int → Int} (h : WF N r) {i : Int} (h0 : 0 ≤ i) (h1 : i < 8) : 0 ≤ r (44 + i) ∧ r (44 + i) ≤ 999 := h.2.2.2.2.2.2.2.1 i h0 h1
theorem WF.mn {N : Int} {r : Int → Int} (h : WF N r) {i : Int} (h0 : 0 ≤ i) (h1 : i < 8) : 0 ≤ r (52 + i) ∧ r (52 + i) ≤ 99 := h.2.2.2.2.2.2.2.2 i h0 h1
theorem WF.ogr {N : Int} {r : Int → Int} (h : WF N r) {s : Int} (h0 : 0 ≤ s) (h1 : s < 12) : 0 ≤ og r s ∧ og r s ≤ 999 := by
  unfold og
  have := h.num
  split
  · omega
  · exact h.en (by omega) (by omega)
theorem WF.bgr {N : Int} {r : Int → Int} (h : WF N r) {s : Int} (h0 : 0 ≤ s) (h1 : s ≤ 12) : 0 ≤ bgI r s ∧ bgI r s ≤ 60 * s := by
  have key : ∀ n : Nat, n ≤ 12 → 0 ≤ bg r n ∧ bg r n ≤ 60 * (n : Int) := by
    intro n
    induction n with
    | zero => intro _; exact ⟨Int.le_refl 0, Int.le_refl 0⟩
    | succ n ih =>
      intro hn
      have a := ih (by omega)
      have b := h.lo (i := (n : Int)) (by omega) (by omega)
      show 0 ≤ bg r n + r n ∧ bg r n + r n ≤ 60 * ((n + 1 : Nat) : Int)
      omega
  have a := key s.toNat (by omega)
  unfold bgI
  omega
theorem mvI_rg (r : Int → Int) {s : Int} (h0 : 0 ≤ s) : 0 ≤ mvI r s ∧ mvI r s ≤ s := by
  have key : ∀ n : Nat, 0 ≤ mv r n ∧ mv r n ≤ (n : Int) := by
    intro n
    induction n with
    | zero => exact ⟨Int.le_refl 0, Int.le_refl 0⟩
    | succ n ih =>
      show 0 ≤ mv r n + (if dwl r (n : Int) = true then 0 else 1) ∧ mv r n + (if dwl r (n : Int) = true then 0 else 1) ≤ ((n + 1 : Nat) : Int)
      split <;> omega
  have a := key s.toNat
  unfold mvI
  omega
/-- the class's plan tells this cam -/
def PLf (f : Int → Int) (N : Int) (r : Int → Int) : Prop := (f 0 = N ∧ f 1 = r 60 ∧ f 11 = r 61) ∧ (∀ k : Int, 2 ≤ k → k ≤ 10 → f k = r (60 + k)) ∧ (∀ i : Int, 0 ≤ i → i < 12 → f (12 + 3 * i + 0) = r i ∧ f (12 + 3 * i + 1) = r (12 + i) ∧ f (12 + 3 * i + 2) = r (24 + i)) ∧ (∀ i : Int, 0 ≤ i → i < 8 → f (48 + 3 * i + 0) = r (36 + i) ∧ f (48 + 3 * i + 1) = r (44 + i) ∧ f (48 + 3 * i + 2) = r (52 + i))
def PL (σ : St) (N : Int) (r : Int → Int) : Prop := PLf (σ 2) N r
theorem PL.st {σ : St} {N : Int} {r : Int → Int} (h : PL σ N r) : σ 2 0 = N := h.1.1
theorem PL.se {σ : St} {N : Int} {r : Int → Int} (h : PL σ N r) : σ 2 1 = r 60 := h.1.2.1
theorem PL.ma {σ : St} {N : Int} {r : Int → Int} (h : PL σ N r) : σ 2 11 = r 61 := h.1.2.2
theorem PL.set {σ : St} {N : Int} {r : Int → Int} (h : PL σ N r) (k : Int) (h0 : 2 ≤ k) (h1 : k ≤ 10) : σ 2 k = r (60 + k) := h.2.1 k h0 h1
theorem PL.lo {σ : St} {N : Int} {r : Int → Int} (h : PL σ N r) {i : Int} (h0 : 0 ≤ i) (h1 : i < 12) : σ 2 (12 + 3 * i + 0) = r i := (h.2.2.1 i h0 h1).1
theorem PL.en {σ : St} {N : Int} {r : Int → Int} (h : PL σ N r) {i : Int} (h0 : 0 ≤ i) (h1 : i < 12) : σ 2 (12 + 3 * i + 1) = r (12 + i) := (h.2.2.1 i h0 h1).2.1
theorem PL.la {σ : St} {N : Int} {r : Int → Int} (h : PL σ N r) {i : Int} (h0 : 0 ≤ i) (h1 : i < 12) : σ 2 (12 + 3 * i + 2) = r (24 + i) := (h.2.2.1 i h0 h1).2.2
theorem PL.ms {σ : St} {N : Int} {r : Int → Int} (h : PL σ N r) {i : Int} (h0 : 0 ≤ i) (h1 : i < 8) : σ 2 (48 + 3 * i + 0) = r (36 + i) := (h.2.2.2 i h0 h1).1
theorem PL.ml {σ : St} {N : Int} {r : Int → Int} (h : PL σ N r) {i : Int} (h0 : 0 ≤ i) (h1 : i < 8) : σ 2 (48 + 3 * i + 1) = r (44 + i) := (h.2.2.2 i h0 h1).2.1
theorem PL.mn {σ : St} {N : Int} {r : Int → Int} (h : PL σ N r) {i : Int} (h0 : 0 ≤ i) (h1 : i < 8) : σ 2 (48 + 3 * i + 2) = r (52 + i) := (h.2.2.2 i h0 h1).2.2
theorem hb43 {b : Nat} (hb : b = 5 ∨ b = 18) : b < 43 := by omega
theorem hb44 {b : Nat} (hb : b = 5 ∨ b = 18) : b + 1 < 43 := by omega
theorem hbL {b : Nat} (hb : b = 5 ∨ b = 18) {j : Nat} (h : j < 11) : b + 2 + j < 43 := by omega
theorem nzb {v : Int} (h : v = 0 ∨ v = 1) : narrow .boolean (.int (I v)) = .int (I v) := by rcases h with rfl | rfl <;> rfl
theorem nzf {v : Int} (h : v = 0 ∨ v = 1) : fits .boolean (.int (I v)) = true := by rcases h with rfl | rfl <;> rfl
section BZ
variable {p : Program} {l : Launch} {e : Env} {R : Room} {s : State} {m : MethodId} {args : Array Value} {below : List Frame} {meth : Method} {c : Code} {H : Heap} {locs : List Loc} {cells slots : Nat} {Q : State → Prop}
variable {cc : ByteArray} {nL pc : Nat} {ls : Array Slot} {rest : List Value} {own : String} {G : GT} {σ : St}
theorem r_bz_eq (F : FX G p m c cc nL s args own) {off : Int} (tgt : Nat) {a : Int} (C : Prop) {h : Decidable C} (ha : a = if C then 1 else 0) (ht : (pc : Int) + off = (tgt : Int)) (hdg : decode cc pc = .ok (.ifCond .eq off, 3)) (kt : ¬ C → W p l e R s m args below meth c H locs cells slots Q (F0 m tgt ls rest)) (kf : C → W p l e R s m args below meth c H locs cells slots Q (F0 m (pc + 3) ls rest)) : W p l e R s m args below meth c H locs cells slots Q (F0 m pc ls (.int (I a) :: rest)) := by
  subst ha
  refine r_if_eq F tgt ht (by split <;> omega) hdg (fun q => kt ?_) (fun q => kf ?_)
  · intro hc; rw [if_pos hc] at q; omega
  · exact Decidable.byContradiction (fun hc => q (if_neg hc))
theorem r_bz_ne (F : FX G p m c cc nL s args own) {off : Int} (tgt : Nat) {a : Int} (C : Prop) {h : Decidable C} (ha : a = if C then 1 else 0) (ht : (pc : Int) + off = (tgt : Int)) (hdg : decode cc pc = .ok (.ifCond .ne off, 3)) (kt : C → W p l e R s m args below meth c H locs cells slots Q (F0 m tgt ls rest)) (kf : ¬ C → W p l e R s m args below meth c H locs cells slots Q (F0 m (pc + 3) ls rest)) : W p l e R s m args below meth c H locs cells slots Q (F0 m pc ls (.int (I a) :: rest)) := by
  subst ha
  refine r_if_ne F tgt ht (by split <;> omega) hdg (fun q => kt ?_) (fun q => kf ?_)
  · exact Decidable.byContradiction (fun hc => q (if_neg hc))
  · intro hc; rw [if_pos hc] at q; omega
end BZ
end
section
theorem c_X2_placeOf (l : Launch) (G : GT) (σ : St) (a : Int) (b : Int) : Ct l yX2_placeOf cX2_placeOf 2 (some .int) 1 G [.int (I a), .int (I b)] σ (QI G (fun x τ => x = (12 + 3 * a + b) ∧ τ = σ)) := by
  refine mt (own := RX2) rfl rfl (Nat.le_of_ble_eq_true rfl) ?_
  intro p e s m args below meth c ls F hr hk X hl
  have hl : lv_has ls 2 [(0, .int (I a)), (1, .int (I b))] := hl
  refine r_bipush F (by decide) dX2_placeOf_0 ?_
  refine r_iconst F dX2_placeOf_2 ?_
  refine r_iload_n F hl 0 rfl rfl dX2_placeOf_3 ?_
  refine r_imul F dX2_placeOf_4 ?_
  refine r_iadd F dX2_placeOf_5 ?_
  refine r_iload_n F hl 1 rfl rfl dX2_placeOf_6 ?_
  refine r_iadd F dX2_placeOf_7 ?_
  exact r_iret F X hr hk dX2_placeOf_8 (⟨rfl, rfl⟩)
theorem c_X2_placeOfMark (l : Launch) (G : GT) (σ : St) (a : Int) (b : Int) : Ct l yX2_placeOfMark cX2_placeOfMark 2 (some .int) 1 G [.int (I a), .int (I b)] σ (QI G (fun x τ => x = (48 + 3 * a + b) ∧ τ = σ)) := by
  refine mt (own := RX2) rfl rfl (Nat.le_of_ble_eq_true rfl) ?_
  intro p e s m args below meth c ls F hr hk X hl
  have hl : lv_has ls 2 [(0, .int (I a)), (1, .int (I b))] := hl
  refine r_bipush F (by decide) dX2_placeOfMark_0 ?_
  refine r_iconst F dX2_placeOfMark_2 ?_
  refine r_iload_n F hl 0 rfl rfl dX2_placeOfMark_3 ?_
  refine r_imul F dX2_placeOfMark_4 ?_
  refine r_iadd F dX2_placeOfMark_5 ?_
  refine r_iload_n F hl 1 rfl rfl dX2_placeOfMark_6 ?_
  refine r_iadd F dX2_placeOfMark_7 ?_
  exact r_iret F X hr hk dX2_placeOfMark_8 (⟨rfl, rfl⟩)
theorem c_X2_get (l : Launch) (G : GT) (σ : St) (v : Int) (a : Int) (h : 0 ≤ a ∧ a < 72) (hv : σ 2 a = v) : Ct l yX2_get cX2_get 2 (some .int) 1 G [.ref (gY G 1), .int (I a)] σ (QI G (fun x τ => x = v ∧ τ = σ)) := by
  refine mt (own := RX2) rfl rfl (Nat.le_of_ble_eq_true rfl) ?_
  intro p e s m args below meth c ls F hr hk X hl
  have hl : lv_has ls 2 [(0, .ref (gY G 1)), (1, .int (I a))] := hl
  refine r_iload_n F hl 1 rfl rfl dX2_get_0 ?_
  refine r_if_lt F 22 (by decide) (by omega) dX2_get_1 (fun c1 => ?_) (fun c1 => ?_)
  · omega
  · skip
    refine r_iload_n F hl 1 rfl rfl dX2_get_4 ?_
    refine r_aload_n F hl 0 rfl rfl dX2_get_5 ?_
    refine r_get F X 1 (by decide) (eK_1 G _) rfl gl_RX2 0 (by decide) rfl gf_RX2_9 rfl dX2_get_6 ?_
    refine r_alen F X 2 (by decide) 0 (eK_2 G _) rfl 72 rfl dX2_get_9 ?_
    refine r_icmp_ge F 22 (by decide) (by omega) (by omega) dX2_get_10 (fun c2 => ?_) (fun c2 => ?_)
    · omega
    · skip
      refine r_aload_n F hl 0 rfl rfl dX2_get_13 ?_
      refine r_get F X 1 (by decide) (eK_1 G _) rfl gl_RX2 0 (by decide) rfl gf_RX2_9 rfl dX2_get_14 ?_
      refine r_iload_n F hl 1 rfl rfl dX2_get_17 ?_
      refine r_iald F X 2 (by decide) (eK_2 G) (by omega) (by decide) dX2_get_18 ?_
      refine r_goto F 23 (by decide) dX2_get_19 ?_
      exact r_iret F X hr hk dX2_get_23 (⟨hv, rfl⟩)
theorem c_X2_put (l : Launch) (G : GT) (σ : St) (a : Int) (v : Int) (h : 0 ≤ a ∧ a < 72) : Ct l yX2_put cX2_put 3 none 1 G [.ref (gY G 1), .int (I a), .int (I v)] σ (QV G (fun τ => τ = up σ 2 (upI (σ 2) a v))) := by
  refine mt (own := RX2) rfl rfl (Nat.le_of_ble_eq_true rfl) ?_
  intro p e s m args below meth c ls F hr hk X hl
  have hl : lv_has ls 3 [(0, .ref (gY G 1)), (1, .int (I a)), (2, .int (I v))] := hl
  refine r_iload_n F hl 1 rfl rfl dX2_put_0 ?_
  refine r_if_lt F 20 (by decide) (by omega) dX2_put_1 (fun c1 => ?_) (fun c1 => ?_)
  · omega
  · skip
    refine r_iload_n F hl 1 rfl rfl dX2_put_4 ?_
    refine r_aload_n F hl 0 rfl rfl dX2_put_5 ?_
    refine r_get F X 1 (by decide) (eK_1 G _) rfl gl_RX2 0 (by decide) rfl gf_RX2_9 rfl dX2_put_6 ?_
    refine r_alen F X 2 (by decide) 0 (eK_2 G _) rfl 72 rfl dX2_put_9 ?_
    refine r_icmp_ge F 20 (by decide) (by omega) (by omega) dX2_put_10 (fun c2 => ?_) (fun c2 => ?_)
    · omega
    · skip
      refine r_aload_n F hl 0 rfl rfl dX2_put_13 ?_
      refine r_get F X 1 (by decide) (eK_1 G _) rfl gl_RX2 0 (by decide) rfl gf_RX2_9 rfl dX2_put_14 ?_
      refine r_iload_n F hl 1 rfl rfl dX2_put_17 ?_
      refine r_iload_n F hl 2 rfl rfl dX2_put_18 ?_
      refine r_iast F X 2 (by decide) (eK_2 G) (by omega) (by decide) dX2_put_19 (fun H locs X => ?_)
      obtain ⟨σ3, eσ3⟩ : ∃ x : St, x = up σ 2 (upI (σ 2) a v) := ⟨_, rfl⟩
      rw [← eσ3] at X
      exact r_vret F X hr hk dX2_put_20 (by rw [eσ3])
theorem c_X2_exchange (l : Launch) (G : GT) (σ : St) (w : Int) (a : Int) (v : Int) (h : 0 ≤ a ∧ a < 72) (hv : σ 2 a = w) : Ct l yX2_exchange cX2_exchange 4 (some .int) 2 G [.ref (gY G 1), .int (I a), .int (I v)] σ (QI G (fun x τ => x = w ∧ τ = up σ 2 (upI (σ 2) a v))) := by
  refine mt (own := RX2) rfl rfl (Nat.le_of_ble_eq_true rfl) ?_
  intro p e s m args below meth c ls F hr hk X hl
  have hl : lv_has ls 4 [(0, .ref (gY G 1)), (1, .int (I a)), (2, .int (I v))] := hl
  refine r_aload_n F hl 0 rfl rfl dX2_exchange_0 ?_
  refine r_iload_n F hl 1 rfl rfl dX2_exchange_1 ?_
  refine d_cVI F X 1 (by decide) (eK_1 G _) rfl (c_X2_get l G σ w a (by omega) (hv)) gv_RX2_24 rfl nd_X2_get rfl (rest := []) rfl (Nat.le_of_ble_eq_true rfl) ⟨Nat.le_of_ble_eq_true rfl, Nat.le_of_ble_eq_true rfl⟩ ⟨Nat.zero_le _, Nat.zero_le _⟩ hl.1 dX2_exchange_2 (fun H locs X => ?_)
  refine r_istore_n F hl [(3, .int (I w)), (0, .ref (gY G 1)), (1, .int (I a)), (2, .int (I v))] rfl (by decide) rfl dX2_exchange_5 (fun ls hl => ?_)
  refine r_aload_n F hl 1 rfl rfl dX2_exchange_6 ?_
  refine r_iload_n F hl 2 rfl rfl dX2_exchange_7 ?_
  refine r_iload_n F hl 3 rfl rfl dX2_exchange_8 ?_
  refine d_cVV F X 1 (by decide) (eK_1 G _) rfl (c_X2_put l G σ a v (by omega)) gv_RX2_28 rfl nd_X2_put rfl (rest := []) rfl (Nat.le_of_ble_eq_true rfl) ⟨Nat.le_of_ble_eq_true rfl, Nat.le_of_ble_eq_true rfl⟩ ⟨Nat.zero_le _, Nat.zero_le _⟩ hl.1 dX2_exchange_9 (fun H locs X => ?_)
  obtain ⟨σ1, eσ1⟩ : ∃ x : St, x = up σ 2 (upI (σ 2) a v) := ⟨_, rfl⟩
  rw [← eσ1] at X
  refine r_iload_n F hl 0 rfl rfl dX2_exchange_12 ?_
  exact r_iret F X hr hk dX2_exchange_13 (⟨rfl, by rw [eσ1]⟩)
theorem c_X2_hasStep (l : Launch) (G : GT) (σ : St) (N : Int) (r : Int → Int) (a : Int) (hP : PL σ N r) (hW : WF N r) (ha : -2147483648 ≤ a ∧ a < 2147483648) : Ct l yX2_hasStep cX2_hasStep 2 (some .boolean) 2 G [.ref (gY G 1), .int (I a)] σ (QI G (fun x τ => x = (if 0 ≤ a ∧ a < N then 1 else 0) ∧ τ = σ)) := by
  refine mt (own := RX2) rfl rfl (Nat.le_of_ble_eq_true rfl) ?_
  intro p e s m args below meth c ls F hr hk X hl
  have hl : lv_has ls 2 [(0, .ref (gY G 1)), (1, .int (I a))] := hl
  have hw := hW.num
  refine r_iload_n F hl 1 rfl rfl dX2_hasStep_0 ?_
  refine r_if_lt F 17 (by decide) (by omega) dX2_hasStep_1 (fun c1 => ?_) (fun c1 => ?_)
  · skip
    refine r_iconst F dX2_hasStep_17 ?_
    exact r_zret F X hr hk (by omega) dX2_hasStep_18 (⟨by first | rw [if_pos (by omega)] | rw [if_neg (by omega)], rfl⟩)
  · skip
    refine r_iload_n F hl 1 rfl rfl dX2_hasStep_4 ?_
    refine r_aload_n F hl 0 rfl rfl dX2_hasStep_5 ?_
    refine r_iconst F dX2_hasStep_6 ?_
    refine d_cVI F X 1 (by decide) (eK_1 G _) rfl (c_X2_get l G σ N 0 (by omega) (hP.st)) gv_RX2_24 rfl nd_X2_get rfl (rest := [.int (I a)]) rfl (Nat.le_of_ble_eq_true rfl) ⟨Nat.le_of_ble_eq_true rfl, Nat.le_of_ble_eq_true rfl⟩ ⟨Nat.zero_le _, Nat.zero_le _⟩ hl.1 dX2_hasStep_7 (fun H locs X => ?_)
    refine r_icmp_ge F 17 (by decide) (by omega) (by omega) dX2_hasStep_10 (fun c2 => ?_) (fun c2 => ?_)
    · skip
      refine r_iconst F dX2_hasStep_17 ?_
      exact r_zret F X hr hk (by omega) dX2_hasStep_18 (⟨by first | rw [if_pos (by omega)] | rw [if_neg (by omega)], rfl⟩)
    · skip
      refine r_iconst F dX2_hasStep_13 ?_
      refine r_goto F 18 (by decide) dX2_hasStep_14 ?_
      exact r_zret F X hr hk (by omega) dX2_hasStep_18 (⟨by first | rw [if_pos (by omega)] | rw [if_neg (by omega)], rfl⟩)
theorem c_X2_hasSegment (l : Launch) (G : GT) (σ : St) (N : Int) (r : Int → Int) (a : Int) (hP : PL σ N r) (hW : WF N r) (ha : -2147483648 ≤ a ∧ a < 2147483648) : Ct l yX2_hasSegment cX2_hasSegment 2 (some .boolean) 2 G [.ref (gY G 1), .int (I a)] σ (QI G (fun x τ => x = (if 0 ≤ a ∧ a < r 60 then 1 else 0) ∧ τ = σ)) := by
  refine mt (own := RX2) rfl rfl (Nat.le_of_ble_eq_true rfl) ?_
  intro p e s m args below meth c ls F hr hk X hl
  have hl : lv_has ls 2 [(0, .ref (gY G 1)), (1, .int (I a))] := hl
  have hw := hW.num
  refine r_iload_n F hl 1 rfl rfl dX2_hasSegment_0 ?_
  refine r_if_lt F 17 (by decide) (by omega) dX2_hasSegment_1 (fun c1 => ?_) (fun c1 => ?_)
  · skip
    refine r_iconst F dX2_hasSegment_17 ?_
    exact r_zret F X hr hk (by omega) dX2_hasSegment_18 (⟨by first | rw [if_pos (by omega)] | rw [if_neg (by omega)], rfl⟩)
  · skip
    refine r_iload_n F hl 1 rfl rfl dX2_hasSegment_4 ?_
    refine r_aload_n F hl 0 rfl rfl dX2_hasSegment_5 ?_
    refine r_iconst F dX2_hasSegment_6 ?_
    refine d_cVI F X 1 (by decide) (eK_1 G _) rfl (c_X2_get l G σ (r 60) 1 (by omega) (hP.se)) gv_RX2_24 rfl nd_X2_get rfl (rest := [.int (I a)]) rfl (Nat.le_of_ble_eq_true rfl) ⟨Nat.le_of_ble_eq_true rfl, Nat.le_of_ble_eq_true rfl⟩ ⟨Nat.zero_le _, Nat.zero_le _⟩ hl.1 dX2_hasSegment_7 (fun H locs X => ?_)
    refine r_icmp_ge F 17 (by decide) (by omega) (by omega) dX2_hasSegment_10 (fun c2 => ?_) (fun c2 => ?_)
    · skip
      refine r_iconst F dX2_hasSegment_17 ?_
      exact r_zret F X hr hk (by omega) dX2_hasSegment_18 (⟨by first | rw [if_pos (by omega)] | rw [if_neg (by omega)], rfl⟩)
    · skip
      refine r_iconst F dX2_hasSegment_13 ?_
      refine r_goto F 18 (by decide) dX2_hasSegment_14 ?_
      exact r_zret F X hr hk (by omega) dX2_hasSegment_18 (⟨by first | rw [if_pos (by omega)] | rw [if_neg (by omega)], rfl⟩)
theorem c_X2_hasMark (l : Launch) (G : GT) (σ : St) (N : Int) (r : Int → Int) (a : Int) (hP : PL σ N r) (hW : WF N r) (ha : -2147483648 ≤ a ∧ a < 2147483648) : Ct l yX2_hasMark cX2_hasMark 2 (some .boolean) 2 G [.ref (gY G 1), .int (I a)] σ (QI G (fun x τ => x = (if 0 ≤ a ∧ a < r 61 then 1 else 0) ∧ τ = σ)) := by
  refine mt (own := RX2) rfl rfl (Nat.le_of_ble_eq_true rfl) ?_
  intro p e s m args below meth c ls F hr hk X hl
  have hl : lv_has ls 2 [(0, .ref (gY G 1)), (1, .int (I a))] := hl
  have hw := hW.num
  refine r_iload_n F hl 1 rfl rfl dX2_hasMark_0 ?_
  refine r_if_lt F 18 (by decide) (by omega) dX2_hasMark_1 (fun c1 => ?_) (fun c1 => ?_)
  · skip
    refine r_iconst F dX2_hasMark_18 ?_
    exact r_zret F X hr hk (by omega) dX2_hasMark_19 (⟨by first | rw [if_pos (by omega)] | rw [if_neg (by omega)], rfl⟩)
  · skip
    refine r_iload_n F hl 1 rfl rfl dX2_hasMark_4 ?_
    refine r_aload_n F hl 0 rfl rfl dX2_hasMark_5 ?_
    refine r_bipush F (by decide) dX2_hasMark_6 ?_
    refine d_cVI F X 1 (by decide) (eK_1 G _) rfl (c_X2_get l G σ (r 61) 11 (by omega) (hP.ma)) gv_RX2_24 rfl nd_X2_get rfl (rest := [.int (I a)]) rfl (Nat.le_of_ble_eq_true rfl) ⟨Nat.le_of_ble_eq_true rfl, Nat.le_of_ble_eq_true rfl⟩ ⟨Nat.zero_le _, Nat.zero_le _⟩ hl.1 dX2_hasMark_8 (fun H locs X => ?_)
    refine r_icmp_ge F 18 (by decide) (by omega) (by omega) dX2_hasMark_11 (fun c2 => ?_) (fun c2 => ?_)
    · skip
      refine r_iconst F dX2_hasMark_18 ?_
      exact r_zret F X hr hk (by omega) dX2_hasMark_19 (⟨by first | rw [if_pos (by omega)] | rw [if_neg (by omega)], rfl⟩)
    · skip
      refine r_iconst F dX2_hasMark_14 ?_
      refine r_goto F 19 (by decide) dX2_hasMark_15 ?_
      exact r_zret F X hr hk (by omega) dX2_hasMark_19 (⟨by first | rw [if_pos (by omega)] | rw [if_neg (by omega)], rfl⟩)
theorem c_X2_origin (l : Launch) (G : GT) (σ : St) (N : Int) (r : Int → Int) (a : Int) (hP : PL σ N r) (hW : WF N r) (ha : 0 ≤ a ∧ a < 12) : Ct l yX2_origin cX2_origin 2 (some .int) 2 G [.ref (gY G 1), .int (I a)] σ (QI G (fun x τ => x = (og r a) ∧ τ = σ)) := by
  refine mt (own := RX2) rfl rfl (Nat.le_of_ble_eq_true rfl) ?_
  intro p e s m args below meth c ls F hr hk X hl
  have hl : lv_has ls 2 [(0, .ref (gY G 1)), (1, .int (I a))] := hl
  refine r_aload_n F hl 0 rfl rfl dX2_origin_0 ?_
  refine r_iload_n F hl 1 rfl rfl dX2_origin_1 ?_
  refine r_if_ne F 9 (by decide) (by omega) dX2_origin_2 (fun c1 => ?_) (fun c1 => ?_)
  · skip
    refine r_iload_n F hl 1 rfl rfl dX2_origin_9 ?_
    refine r_iconst F dX2_origin_10 ?_
    refine r_isub F dX2_origin_11 ?_
    refine r_iconst F dX2_origin_12 ?_
    refine d_cSI F X (c_X2_placeOf l G σ (a - 1) 1) gv_RX2_36 nd_X2_placeOf rfl (rest := [.ref (gY G 1)]) rfl (Nat.le_of_ble_eq_true rfl) ⟨Nat.le_of_ble_eq_true rfl, Nat.le_of_ble_eq_true rfl⟩ ⟨Nat.zero_le _, Nat.zero_le _⟩ hl.1 dX2_origin_13 (fun H locs X => ?_)
    refine d_cVI F X 1 (by decide) (eK_1 G _) rfl (c_X2_get l G σ (og r a) (12 + 3 * (a - 1) + 1) (by omega) (by unfold og; first | (rw [if_pos (by omega)]; exact hP.set 2 (by omega) (by omega)) | (rw [if_neg (by omega)]; exact hP.en (i := a - 1) (by omega) (by omega)))) gv_RX2_24 rfl nd_X2_get rfl (rest := []) rfl (Nat.le_of_ble_eq_true rfl) ⟨Nat.le_of_ble_eq_true rfl, Nat.le_of_ble_eq_true rfl⟩ ⟨Nat.zero_le _, Nat.zero_le _⟩ hl.1 dX2_origin_16 (fun H locs X => ?_)
    exact r_iret F X hr hk dX2_origin_19 (⟨rfl, rfl⟩)
  · skip
    refine r_iconst F dX2_origin_5 ?_
    refine r_goto F 16 (by decide) dX2_origin_6 ?_
    refine d_cVI F X 1 (by decide) (eK_1 G _) rfl (c_X2_get l G σ (og r a) 2 (by omega) (by unfold og; first | (rw [if_pos (by omega)]; exact hP.set 2 (by omega) (by omega)) | (rw [if_neg (by omega)]; exact hP.en (i := a - 1) (by omega) (by omega)))) gv_RX2_24 rfl nd_X2_get rfl (rest := []) rfl (Nat.le_of_ble_eq_true rfl) ⟨Nat.le_of_ble_eq_true rfl, Nat.le_of_ble_eq_true rfl⟩ ⟨Nat.zero_le _, Nat.zero_le _⟩ hl.1 dX2_origin_16 (fun H locs X => ?_)
    exact r_iret F X hr hk dX2_origin_19 (⟨rfl, rfl⟩)
theorem c_X2_longAheadOf (l : Launch) (G : GT) (σ : St) (N : Int) (r : Int → Int) (a : Int) (hP : PL σ N r) (hW : WF N r) (ha : 0 ≤ a ∧ a ≤ 12) : Ct l yX2_longAheadOf cX2_longAheadOf 4 (some .int) 2 G [.ref (gY G 1), .int (I a)] σ (QI G (fun x τ => x = (bgI r a) ∧ τ = σ)) := by
  refine mt (own := RX2) rfl rfl (Nat.le_of_ble_eq_true rfl) ?_
  intro p e s m args below meth c ls F hr hk X hl
  have hl : lv_has ls 4 [(0, .ref (gY G 1)), (1, .int (I a))] := hl
  refine r_iconst F dX2_longAheadOf_0 ?_
  refine r_istore_n F hl [(2, .int (I 0)), (0, .ref (gY G 1)), (1, .int (I a))] rfl (by decide) rfl dX2_longAheadOf_1 (fun ls hl => ?_)
  refine r_iconst F dX2_longAheadOf_2 ?_
  refine r_istore_n F hl [(3, .int (I 0)), (2, .int (I 0)), (0, .ref (gY G 1)), (1, .int (I a))] rfl (by decide) rfl dX2_longAheadOf_3 (fun ls hl => ?_)
  have loop4 : ∀ (n : Nat) (i : Int) (ls : Array Slot) (H : Heap) (locs : List Loc) (hn : a - i < n) (hi : 0 ≤ i ∧ i ≤ a) (X : HX G σ s H locs) (hl : lv_has ls 4 [(0, .ref (gY G 1)), (1, .int (I a)), (2, .int (I (bgI r i))), (3, .int (I i))]), W p l e (rmd 2) s m args below meth c H locs 0 0 (MQ below (QI G (fun x τ => x = (bgI r a) ∧ τ = σ)) args s 0 0 (gA G)) (F0 m 4 ls []) := by
    intro n
    induction n with
    | zero => intro i ls H locs hn hi X hl; omega
    | succ n ih4 =>
      intro i ls H locs hn hi X hl
      refine r_iload_n F hl 3 rfl rfl dX2_longAheadOf_4 ?_
      refine r_iload_n F hl 1 rfl rfl dX2_longAheadOf_5 ?_
      refine r_icmp_ge F 27 (by decide) (by omega) (by omega) dX2_longAheadOf_6 (fun c1 => ?_) (fun c1 => ?_)
      · skip
        refine r_iload_n F hl 2 rfl rfl dX2_longAheadOf_27 ?_
        exact r_iret F X hr hk dX2_longAheadOf_28 (⟨by rw [show i = a by omega], rfl⟩)
      · skip
        refine r_iload_n F hl 2 rfl rfl dX2_longAheadOf_9 ?_
        refine r_aload_n F hl 0 rfl rfl dX2_longAheadOf_10 ?_
        refine r_iload_n F hl 3 rfl rfl dX2_longAheadOf_11 ?_
        refine r_iconst F dX2_longAheadOf_12 ?_
        refine d_cSI F X (c_X2_placeOf l G σ i 0) gv_RX2_36 nd_X2_placeOf rfl (rest := [.ref (gY G 1), .int (I (bgI r i))]) rfl (Nat.le_of_ble_eq_true rfl) ⟨Nat.le_of_ble_eq_true rfl, Nat.le_of_ble_eq_true rfl⟩ ⟨Nat.zero_le _, Nat.zero_le _⟩ hl.1 dX2_longAheadOf_13 (fun H locs X => ?_)
        refine d_cVI F X 1 (by decide) (eK_1 G _) rfl (c_X2_get l G σ (r i) (12 + 3 * i + 0) (by omega) (hP.lo (by omega) (by omega))) gv_RX2_24 rfl nd_X2_get rfl (rest := [.int (I (bgI r i))]) rfl (Nat.le_of_ble_eq_true rfl) ⟨Nat.le_of_ble_eq_true rfl, Nat.le_of_ble_eq_true rfl⟩ ⟨Nat.zero_le _, Nat.zero_le _⟩ hl.1 dX2_longAheadOf_16 (fun H locs X => ?_)
        refine r_iadd F dX2_longAheadOf_19 ?_
        refine r_eqI (b := bgI r (i + 1)) (bgI_succ r (by omega) |>.symm) ?_
        refine r_istore_n F hl [(2, .int (I (bgI r (i + 1)))), (0, .ref (gY G 1)), (1, .int (I a)), (3, .int (I i))] rfl (by decide) rfl dX2_longAheadOf_20 (fun ls hl => ?_)
        refine r_iinc F hl [(3, .int (I (i + 1))), (2, .int (I (bgI r (i + 1)))), (0, .ref (gY G 1)), (1, .int (I a))] 3 rfl (by decide) rfl dX2_longAheadOf_21 (fun ls hl => ?_)
        refine r_goto F 4 (by decide) dX2_longAheadOf_24 ?_
        exact ih4 (i + 1) _ _ _ (by omega) (by omega) X (lv_sub hl [2, 3, 1, 0] rfl)
  exact loop4 ((a - 0 + 1).toNat) 0 _ _ _ (by omega) (by omega) X (lv_sub hl [2, 3, 1, 0] rfl)
theorem c_X2_dwells (l : Launch) (G : GT) (σ : St) (N : Int) (r : Int → Int) (a : Int) (hP : PL σ N r) (hW : WF N r) (ha : 0 ≤ a ∧ a < 12) : Ct l yX2_dwells cX2_dwells 2 (some .boolean) 3 G [.ref (gY G 1), .int (I a)] σ (QI G (fun x τ => x = (if dwl r a = true then 1 else 0) ∧ τ = σ)) := by
  refine mt (own := RX2) rfl rfl (Nat.le_of_ble_eq_true rfl) ?_
  intro p e s m args below meth c ls F hr hk X hl
  have hl : lv_has ls 2 [(0, .ref (gY G 1)), (1, .int (I a))] := hl
  have h1 := hW.en (i := a) (by omega) (by omega)
  have h2 := hW.ogr (s := a) (by omega) (by omega)
  refine r_aload_n F hl 0 rfl rfl dX2_dwells_0 ?_
  refine r_iload_n F hl 1 rfl rfl dX2_dwells_1 ?_
  refine r_iconst F dX2_dwells_2 ?_
  refine d_cSI F X (c_X2_placeOf l G σ a 1) gv_RX2_36 nd_X2_placeOf rfl (rest := [.ref (gY G 1)]) rfl (Nat.le_of_ble_eq_true rfl) ⟨Nat.le_of_ble_eq_true rfl, Nat.le_of_ble_eq_true rfl⟩ ⟨Nat.zero_le _, Nat.zero_le _⟩ hl.1 dX2_dwells_3 (fun H locs X => ?_)
  refine d_cVI F X 1 (by decide) (eK_1 G _) rfl (c_X2_get l G σ (r (12 + a)) (12 + 3 * a + 1) (by omega) (hP.en (by omega) (by omega))) gv_RX2_24 rfl nd_X2_get rfl (rest := []) rfl (Nat.le_of_ble_eq_true rfl) ⟨Nat.le_of_ble_eq_true rfl, Nat.le_of_ble_eq_true rfl⟩ ⟨Nat.zero_le _, Nat.zero_le _⟩ hl.1 dX2_dwells_6 (fun H locs X => ?_)
  refine r_aload_n F hl 0 rfl rfl dX2_dwells_9 ?_
  refine r_iload_n F hl 1 rfl rfl dX2_dwells_10 ?_
  refine d_cVI F X 1 (by decide) (eK_1 G _) rfl (c_X2_origin l G σ N r a hP hW (by omega)) gv_RX2_39 rfl nd_X2_origin rfl (rest := [.int (I (r (12 + a)))]) rfl (Nat.le_of_ble_eq_true rfl) ⟨Nat.le_of_ble_eq_true rfl, Nat.le_of_ble_eq_true rfl⟩ ⟨Nat.zero_le _, Nat.zero_le _⟩ hl.1 dX2_dwells_11 (fun H locs X => ?_)
  refine r_icmp_ne F 21 (by decide) (by omega) (by omega) dX2_dwells_14 (fun c1 => ?_) (fun c1 => ?_)
  · skip
    refine r_iconst F dX2_dwells_21 ?_
    exact r_zret F X hr hk (by omega) dX2_dwells_22 (⟨by first | rw [if_pos (by unfold dwl; exact decide_eq_true (by omega))] | rw [if_neg (by unfold dwl; exact fun q => absurd (of_decide_eq_true q) (by omega))], rfl⟩)
  · skip
    refine r_iconst F dX2_dwells_17 ?_
    refine r_goto F 22 (by decide) dX2_dwells_18 ?_
    exact r_zret F X hr hk (by omega) dX2_dwells_22 (⟨by first | rw [if_pos (by unfold dwl; exact decide_eq_true (by omega))] | rw [if_neg (by unfold dwl; exact fun q => absurd (of_decide_eq_true q) (by omega))], rfl⟩)
theorem c_X2_countMoving (l : Launch) (G : GT) (σ : St) (N : Int) (r : Int → Int) (hP : PL σ N r) (hW : WF N r) : Ct l yX2_countMoving cX2_countMoving 3 (some .int) 4 G [.ref (gY G 1)] σ (QI G (fun x τ => x = (mvI r (r 60)) ∧ τ = σ)) := by
  refine mt (own := RX2) rfl rfl (Nat.le_of_ble_eq_true rfl) ?_
  intro p e s m args below meth c ls F hr hk X hl
  have hl : lv_has ls 3 [(0, .ref (gY G 1))] := hl
  have hw := hW.num
  refine r_iconst F dX2_countMoving_0 ?_
  refine r_istore_n F hl [(1, .int (I 0)), (0, .ref (gY G 1))] rfl (by decide) rfl dX2_countMoving_1 (fun ls hl => ?_)
  refine r_iconst F dX2_countMoving_2 ?_
  refine r_istore_n F hl [(2, .int (I 0)), (1, .int (I 0)), (0, .ref (gY G 1))] rfl (by decide) rfl dX2_countMoving_3 (fun ls hl => ?_)
  have loop4 : ∀ (n : Nat) (i : Int) (ls : Array Slot) (H : Heap) (locs : List Loc) (hn : r 60 - i < n) (hi : 0 ≤ i ∧ i ≤ r 60) (X : HX G σ s H locs) (hl : lv_has ls 3 [(0, .ref (gY G 1)), (1, .int (I (mvI r i))), (2, .int (I i))]), W p l e (rmd 4) s m args below meth c H locs 0 0 (MQ below (QI G (fun x τ => x = (mvI r (r 60)) ∧ τ = σ)) args s 0 0 (gA G)) (F0 m 4 ls []) := by
    intro n
    induction n with
    | zero => intro i ls H locs hn hi X hl; omega
    | succ n ih4 =>
      intro i ls H locs hn hi X hl
      refine r_iload_n F hl 2 rfl rfl dX2_countMoving_4 ?_
      refine r_aload_n F hl 0 rfl rfl dX2_countMoving_5 ?_
      refine r_iconst F dX2_countMoving_6 ?_
      refine d_cVI F X 1 (by decide) (eK_1 G _) rfl (c_X2_get l G σ (r 60) 1 (by omega) (hP.se)) gv_RX2_24 rfl nd_X2_get rfl (rest := [.int (I i)]) rfl (Nat.le_of_ble_eq_true rfl) ⟨Nat.le_of_ble_eq_true rfl, Nat.le_of_ble_eq_true rfl⟩ ⟨Nat.zero_le _, Nat.zero_le _⟩ hl.1 dX2_countMoving_7 (fun H locs X => ?_)
      refine r_icmp_ge F 35 (by decide) (by omega) (by omega) dX2_countMoving_10 (fun c1 => ?_) (fun c1 => ?_)
      · skip
        refine r_iload_n F hl 1 rfl rfl dX2_countMoving_35 ?_
        exact r_iret F X hr hk dX2_countMoving_36 (⟨by rw [show i = r 60 by omega], rfl⟩)
      · skip
        refine r_iload_n F hl 1 rfl rfl dX2_countMoving_13 ?_
        refine r_aload_n F hl 0 rfl rfl dX2_countMoving_14 ?_
        refine r_iload_n F hl 2 rfl rfl dX2_countMoving_15 ?_
        refine d_cVI F X 1 (by decide) (eK_1 G _) rfl (c_X2_dwells l G σ N r i hP hW (by omega)) gv_RX2_42 rfl nd_X2_dwells rfl (rest := [.int (I (mvI r i))]) rfl (Nat.le_of_ble_eq_true rfl) ⟨Nat.le_of_ble_eq_true rfl, Nat.le_of_ble_eq_true rfl⟩ ⟨Nat.zero_le _, Nat.zero_le _⟩ hl.1 dX2_countMoving_16 (fun H locs X => ?_)
        refine r_bz_eq F 26 (dwl r i = true) rfl (by decide) dX2_countMoving_19 (fun c2 => ?_) (fun c2 => ?_)
        · skip
          refine r_iconst F dX2_countMoving_26 ?_
          refine r_iadd F dX2_countMoving_27 ?_
          refine r_eqI (b := mvI r (i + 1)) (by rw [mvI_succ r (by omega)]; first | rw [if_pos (by assumption)] | rw [if_neg (by assumption)]) ?_
          refine r_istore_n F hl [(1, .int (I (mvI r (i + 1)))), (0, .ref (gY G 1)), (2, .int (I i))] rfl (by decide) rfl dX2_countMoving_28 (fun ls hl => ?_)
          refine r_iinc F hl [(2, .int (I (i + 1))), (1, .int (I (mvI r (i + 1)))), (0, .ref (gY G 1))] 2 rfl (by decide) rfl dX2_countMoving_29 (fun ls hl => ?_)
          refine r_goto F 4 (by decide) dX2_countMoving_32 ?_
          exact ih4 (i + 1) _ _ _ (by omega) (by omega) X (lv_sub hl [2, 1, 0] rfl)
        · skip
          refine r_iconst F dX2_countMoving_22 ?_
          refine r_goto F 27 (by decide) dX2_countMoving_23 ?_
          refine r_iadd F dX2_countMoving_27 ?_
          refine r_eqI (b := mvI r (i + 1)) (by rw [mvI_succ r (by omega)]; first | rw [if_pos (by assumption)] | rw [if_neg (by assumption)]) ?_
          refine r_istore_n F hl [(1, .int (I (mvI r (i + 1)))), (0, .ref (gY G 1)), (2, .int (I i))] rfl (by decide) rfl dX2_countMoving_28 (fun ls hl => ?_)
          refine r_iinc F hl [(2, .int (I (i + 1))), (1, .int (I (mvI r (i + 1)))), (0, .ref (gY G 1))] 2 rfl (by decide) rfl dX2_countMoving_29 (fun ls hl => ?_)
          refine r_goto F 4 (by decide) dX2_countMoving_32 ?_
          exact ih4 (i + 1) _ _ _ (by omega) (by omega) X (lv_sub hl [2, 1, 0] rfl)
  exact loop4 ((r 60 - 0 + 1).toNat) 0 _ _ _ (by omega) (by omega) X (lv_sub hl [2, 1, 0] rfl)
theorem c_X2_isWhole (l : Launch) (G : GT) (σ : St) (N : Int) (r : Int → Int) (hP : PL σ N r) (hW : WF N r) : Ct l yX2_isWhole cX2_isWhole 2 (some .boolean) 3 G [.ref (gY G 1)] σ (QI G (fun x τ => x = (if whl N r = true then 1 else 0) ∧ τ = σ)) := by
  refine mt (own := RX2) rfl rfl (Nat.le_of_ble_eq_true rfl) ?_
  intro p e s m args below meth c ls F hr hk X hl
  have hl : lv_has ls 2 [(0, .ref (gY G 1))] := hl
  have hw := hW.num
  have hbg := hW.bgr (s := r 60) (by omega) (by omega)
  refine r_aload_n F hl 0 rfl rfl dX2_isWhole_0 ?_
  refine r_iconst F dX2_isWhole_1 ?_
  refine d_cVI F X 1 (by decide) (eK_1 G _) rfl (c_X2_get l G σ (r 60) 1 (by omega) (hP.se)) gv_RX2_24 rfl nd_X2_get rfl (rest := []) rfl (Nat.le_of_ble_eq_true rfl) ⟨Nat.le_of_ble_eq_true rfl, Nat.le_of_ble_eq_true rfl⟩ ⟨Nat.zero_le _, Nat.zero_le _⟩ hl.1 dX2_isWhole_2 (fun H locs X => ?_)
  refine r_istore_n F hl [(1, .int (I (r 60))), (0, .ref (gY G 1))] rfl (by decide) rfl dX2_isWhole_5 (fun ls hl => ?_)
  refine r_iload_n F hl 0 rfl rfl dX2_isWhole_6 ?_
  refine r_if_le F 46 (by decide) (by omega) dX2_isWhole_7 (fun c1 => ?_) (fun c1 => ?_)
  · skip
    refine r_iconst F dX2_isWhole_46 ?_
    exact r_zret F X hr hk (by omega) dX2_isWhole_47 (⟨by first | rw [if_pos (by rw [whl_iff]; omega)] | rw [if_neg (by rw [whl_iff]; omega)], rfl⟩)
  · skip
    refine r_aload_n F hl 1 rfl rfl dX2_isWhole_10 ?_
    refine r_iload_n F hl 0 rfl rfl dX2_isWhole_11 ?_
    refine d_cVI F X 1 (by decide) (eK_1 G _) rfl (c_X2_longAheadOf l G σ N r (r 60) hP hW (by omega)) gv_RX2_46 rfl nd_X2_longAheadOf rfl (rest := []) rfl (Nat.le_of_ble_eq_true rfl) ⟨Nat.le_of_ble_eq_true rfl, Nat.le_of_ble_eq_true rfl⟩ ⟨Nat.zero_le _, Nat.zero_le _⟩ hl.1 dX2_isWhole_12 (fun H locs X => ?_)
    refine r_aload_n F hl 1 rfl rfl dX2_isWhole_15 ?_
    refine r_iconst F dX2_isWhole_16 ?_
    refine d_cVI F X 1 (by decide) (eK_1 G _) rfl (c_X2_get l G σ N 0 (by omega) (hP.st)) gv_RX2_24 rfl nd_X2_get rfl (rest := [.int (I (bgI r (r 60)))]) rfl (Nat.le_of_ble_eq_true rfl) ⟨Nat.le_of_ble_eq_true rfl, Nat.le_of_ble_eq_true rfl⟩ ⟨Nat.zero_le _, Nat.zero_le _⟩ hl.1 dX2_isWhole_17 (fun H locs X => ?_)
    refine r_icmp_ne F 46 (by decide) (by omega) (by omega) dX2_isWhole_20 (fun c2 => ?_) (fun c2 => ?_)
    · skip
      refine r_iconst F dX2_isWhole_46 ?_
      exact r_zret F X hr hk (by omega) dX2_isWhole_47 (⟨by first | rw [if_pos (by rw [whl_iff]; omega)] | rw [if_neg (by rw [whl_iff]; omega)], rfl⟩)
    · skip
      have h1 := hW.en (i := r 60 - 1) (by omega) (by omega)
      refine r_aload_n F hl 1 rfl rfl dX2_isWhole_23 ?_
      refine r_iload_n F hl 0 rfl rfl dX2_isWhole_24 ?_
      refine r_iconst F dX2_isWhole_25 ?_
      refine r_isub F dX2_isWhole_26 ?_
      refine r_iconst F dX2_isWhole_27 ?_
      refine d_cSI F X (c_X2_placeOf l G σ ((r 60) - 1) 1) gv_RX2_36 nd_X2_placeOf rfl (rest := [.ref (gY G 1)]) rfl (Nat.le_of_ble_eq_true rfl) ⟨Nat.le_of_ble_eq_true rfl, Nat.le_of_ble_eq_true rfl⟩ ⟨Nat.zero_le _, Nat.zero_le _⟩ hl.1 dX2_isWhole_28 (fun H locs X => ?_)
      refine d_cVI F X 1 (by decide) (eK_1 G _) rfl (c_X2_get l G σ (r (12 + (r 60 - 1))) (12 + 3 * ((r 60) - 1) + 1) (by omega) (hP.en (by omega) (by omega))) gv_RX2_24 rfl nd_X2_get rfl (rest := []) rfl (Nat.le_of_ble_eq_true rfl) ⟨Nat.le_of_ble_eq_true rfl, Nat.le_of_ble_eq_true rfl⟩ ⟨Nat.zero_le _, Nat.zero_le _⟩ hl.1 dX2_isWhole_31 (fun H locs X => ?_)
      refine r_aload_n F hl 1 rfl rfl dX2_isWhole_34 ?_
      refine r_iconst F dX2_isWhole_35 ?_
      refine d_cVI F X 1 (by decide) (eK_1 G _) rfl (c_X2_get l G σ (r 62) 2 (by omega) (hP.set 2 (by omega) (by omega))) gv_RX2_24 rfl nd_X2_get rfl (rest := [.int (I (r (12 + (r 60 - 1))))]) rfl (Nat.le_of_ble_eq_true rfl) ⟨Nat.le_of_ble_eq_true rfl, Nat.le_of_ble_eq_true rfl⟩ ⟨Nat.zero_le _, Nat.zero_le _⟩ hl.1 dX2_isWhole_36 (fun H locs X => ?_)
      refine r_icmp_ne F 46 (by decide) (by omega) (by omega) dX2_isWhole_39 (fun c3 => ?_) (fun c3 => ?_)
      · skip
        refine r_iconst F dX2_isWhole_46 ?_
        exact r_zret F X hr hk (by omega) dX2_isWhole_47 (⟨by first | rw [if_pos (by rw [whl_iff]; omega)] | rw [if_neg (by rw [whl_iff]; omega)], rfl⟩)
      · skip
        refine r_iconst F dX2_isWhole_42 ?_
        refine r_goto F 47 (by decide) dX2_isWhole_43 ?_
        exact r_zret F X hr hk (by omega) dX2_isWhole_47 (⟨by first | rw [if_pos (by rw [whl_iff]; omega)] | rw [if_neg (by rw [whl_iff]; omega)], rfl⟩)
end
