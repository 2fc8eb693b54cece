section
-- ===== PART A: goes FIRST, ahead of the names: the tables' words, and 'selects' of the private methods out of them =====
/-- a private method of a class that the tables say can be made, by its rows of tables_1 -/
def lw_okq (q : MethodName × Nat) : Prop := (q.1.cls ≠ "java/lang/invoke/MethodHandle" ∧ q.1.cls ≠ "java/lang/invoke/VarHandle") ∧ Cond.instantiable q.1.cls q.2 ∈ tables_1 ∧ Cond.privateMethod q.1 ∈ tables_1 ∧ Cond.instanceMethod q.1 ∈ tables_1
theorem lw_p0 : lw_okq (⟨"SquopPiles", "tryFlight", "(III)V"⟩, 7) := ⟨⟨by decide +kernel, by decide +kernel⟩, List.mem_of_getElem? (i := 21) (by decide +kernel), List.mem_of_getElem? (i := 241) (by decide +kernel), List.mem_of_getElem? (i := 242) (by decide +kernel)⟩
theorem lw_p1 : lw_okq (⟨"SquopPiles$Mat", "setCells", "(II)V"⟩, 3) := ⟨⟨by decide +kernel, by decide +kernel⟩, List.mem_of_getElem? (i := 35) (by decide +kernel), List.mem_of_getElem? (i := 275) (by decide +kernel), List.mem_of_getElem? (i := 276) (by decide +kernel)⟩
theorem lw_p2 : lw_okq (⟨"SquopPiles$Mat", "separate", "(I)V"⟩, 3) := ⟨⟨by decide +kernel, by decide +kernel⟩, List.mem_of_getElem? (i := 35) (by decide +kernel), List.mem_of_getElem? (i := 279) (by decide +kernel), List.mem_of_getElem? (i := 280) (by decide +kernel)⟩
theorem lw_p3 : lw_okq (⟨"SquopPiles$Mat", "isBottom", "(I)Z"⟩, 3) := ⟨⟨by decide +kernel, by decide +kernel⟩, List.mem_of_getElem? (i := 35) (by decide +kernel), List.mem_of_getElem? (i := 322) (by decide +kernel), List.mem_of_getElem? (i := 323) (by decide +kernel)⟩
theorem lw_p4 : lw_okq (⟨"java/lang/Throwable", "fillInStackTrace", "(I)Ljava/lang/Throwable;"⟩, 6) := ⟨⟨by decide +kernel, by decide +kernel⟩, List.mem_of_getElem? (i := 403) (by decide +kernel), List.mem_of_getElem? (i := 401) (by decide +kernel), List.mem_of_getElem? (i := 402) (by decide +kernel)⟩
theorem lw_p5 : lw_okq (⟨"SquopPiles", "withWinks", "(J)J"⟩, 7) := ⟨⟨by decide +kernel, by decide +kernel⟩, List.mem_of_getElem? (i := 21) (by decide +kernel), List.mem_of_getElem? (i := 437) (by decide +kernel), List.mem_of_getElem? (i := 438) (by decide +kernel)⟩
theorem lw_p6 : lw_okq (⟨"SquopPiles$Routes", "search", "(II)I"⟩, 3) := ⟨⟨by decide +kernel, by decide +kernel⟩, List.mem_of_getElem? (i := 128) (by decide +kernel), List.mem_of_getElem? (i := 495) (by decide +kernel), List.mem_of_getElem? (i := 496) (by decide +kernel)⟩
theorem lw_p7 : lw_okq (⟨"SquopPiles", "withColours", "(J)J"⟩, 7) := ⟨⟨by decide +kernel, by decide +kernel⟩, List.mem_of_getElem? (i := 21) (by decide +kernel), List.mem_of_getElem? (i := 503) (by decide +kernel), List.mem_of_getElem? (i := 504) (by decide +kernel)⟩
theorem lw_p8 : lw_okq (⟨"SquopPiles$Mat", "liesBelow", "(II)Z"⟩, 3) := ⟨⟨by decide +kernel, by decide +kernel⟩, List.mem_of_getElem? (i := 35) (by decide +kernel), List.mem_of_getElem? (i := 522) (by decide +kernel), List.mem_of_getElem? (i := 523) (by decide +kernel)⟩
theorem lw_p9 : lw_okq (⟨"SquopPiles", "withPiles", "(J)J"⟩, 7) := ⟨⟨by decide +kernel, by decide +kernel⟩, List.mem_of_getElem? (i := 21) (by decide +kernel), List.mem_of_getElem? (i := 526) (by decide +kernel), List.mem_of_getElem? (i := 527) (by decide +kernel)⟩
theorem lw_p10 : lw_okq (⟨"SquopPiles", "withText", "(J)J"⟩, 7) := ⟨⟨by decide +kernel, by decide +kernel⟩, List.mem_of_getElem? (i := 21) (by decide +kernel), List.mem_of_getElem? (i := 556) (by decide +kernel), List.mem_of_getElem? (i := 557) (by decide +kernel)⟩
theorem lw_p11 : lw_okq (⟨"SquopPiles$State", "passTurn", "()V"⟩, 7) := ⟨⟨by decide +kernel, by decide +kernel⟩, List.mem_of_getElem? (i := 29) (by decide +kernel), List.mem_of_getElem? (i := 604) (by decide +kernel), List.mem_of_getElem? (i := 605) (by decide +kernel)⟩
theorem lw_p12 : lw_okq (⟨"SquopPiles", "doParts", "()I"⟩, 7) := ⟨⟨by decide +kernel, by decide +kernel⟩, List.mem_of_getElem? (i := 21) (by decide +kernel), List.mem_of_getElem? (i := 680) (by decide +kernel), List.mem_of_getElem? (i := 681) (by decide +kernel)⟩
theorem lw_p13 : lw_okq (⟨"SquopPiles", "doFlightPart", "(I)Z"⟩, 7) := ⟨⟨by decide +kernel, by decide +kernel⟩, List.mem_of_getElem? (i := 21) (by decide +kernel), List.mem_of_getElem? (i := 684) (by decide +kernel), List.mem_of_getElem? (i := 685) (by decide +kernel)⟩
theorem lw_p14 : lw_okq (⟨"SquopPiles", "doLiftPart", "(I)Z"⟩, 7) := ⟨⟨by decide +kernel, by decide +kernel⟩, List.mem_of_getElem? (i := 21) (by decide +kernel), List.mem_of_getElem? (i := 688) (by decide +kernel), List.mem_of_getElem? (i := 689) (by decide +kernel)⟩
theorem lw_p15 : lw_okq (⟨"SquopPilesModel", "fails", "(I)I"⟩, 12) := ⟨⟨by decide +kernel, by decide +kernel⟩, List.mem_of_getElem? (i := 751) (by decide +kernel), List.mem_of_getElem? (i := 808) (by decide +kernel), List.mem_of_getElem? (i := 809) (by decide +kernel)⟩
def lw_privs_1 : List (MethodName × Nat) := [(⟨"SquopPiles", "tryFlight", "(III)V"⟩, 7), (⟨"SquopPiles$Mat", "setCells", "(II)V"⟩, 3), (⟨"SquopPiles$Mat", "separate", "(I)V"⟩, 3), (⟨"SquopPiles$Mat", "isBottom", "(I)Z"⟩, 3), (⟨"java/lang/Throwable", "fillInStackTrace", "(I)Ljava/lang/Throwable;"⟩, 6), (⟨"SquopPiles", "withWinks", "(J)J"⟩, 7), (⟨"SquopPiles$Routes", "search", "(II)I"⟩, 3), (⟨"SquopPiles", "withColours", "(J)J"⟩, 7), (⟨"SquopPiles$Mat", "liesBelow", "(II)Z"⟩, 3), (⟨"SquopPiles", "withPiles", "(J)J"⟩, 7), (⟨"SquopPiles", "withText", "(J)J"⟩, 7), (⟨"SquopPiles$State", "passTurn", "()V"⟩, 7), (⟨"SquopPiles", "doParts", "()I"⟩, 7), (⟨"SquopPiles", "doFlightPart", "(I)Z"⟩, 7), (⟨"SquopPiles", "doLiftPart", "(I)Z"⟩, 7), (⟨"SquopPilesModel", "fails", "(I)I"⟩, 12)]
theorem lw_r1 : ∀ q ∈ lw_privs_1, lw_okq q := List.forall_mem_cons.mpr ⟨lw_p0, List.forall_mem_cons.mpr ⟨lw_p1, List.forall_mem_cons.mpr ⟨lw_p2, List.forall_mem_cons.mpr ⟨lw_p3, List.forall_mem_cons.mpr ⟨lw_p4, List.forall_mem_cons.mpr ⟨lw_p5, List.forall_mem_cons.mpr ⟨lw_p6, List.forall_mem_cons.mpr ⟨lw_p7, List.forall_mem_cons.mpr ⟨lw_p8, List.forall_mem_cons.mpr ⟨lw_p9, List.forall_mem_cons.mpr ⟨lw_p10, List.forall_mem_cons.mpr ⟨lw_p11, List.forall_mem_cons.mpr ⟨lw_p12, List.forall_mem_cons.mpr ⟨lw_p13, List.forall_mem_cons.mpr ⟨lw_p14, List.forall_mem_cons.mpr ⟨lw_p15, fun _ h => absurd h List.not_mem_nil⟩⟩⟩⟩⟩⟩⟩⟩⟩⟩⟩⟩⟩⟩⟩⟩
theorem lw_p16 : lw_okq (⟨"SquopPilesModel", "whyNot", "(I)I"⟩, 12) := ⟨⟨by decide +kernel, by decide +kernel⟩, List.mem_of_getElem? (i := 751) (by decide +kernel), List.mem_of_getElem? (i := 812) (by decide +kernel), List.mem_of_getElem? (i := 813) (by decide +kernel)⟩
theorem lw_p17 : lw_okq (⟨"SquopPilesModel", "isOver", "()Z"⟩, 12) := ⟨⟨by decide +kernel, by decide +kernel⟩, List.mem_of_getElem? (i := 751) (by decide +kernel), List.mem_of_getElem? (i := 816) (by decide +kernel), List.mem_of_getElem? (i := 817) (by decide +kernel)⟩
theorem lw_p18 : lw_okq (⟨"SquopPilesModel", "pottedOf", "(I)I"⟩, 12) := ⟨⟨by decide +kernel, by decide +kernel⟩, List.mem_of_getElem? (i := 751) (by decide +kernel), List.mem_of_getElem? (i := 820) (by decide +kernel), List.mem_of_getElem? (i := 821) (by decide +kernel)⟩
theorem lw_p19 : lw_okq (⟨"SquopPilesModel", "isPotted", "(I)Z"⟩, 12) := ⟨⟨by decide +kernel, by decide +kernel⟩, List.mem_of_getElem? (i := 751) (by decide +kernel), List.mem_of_getElem? (i := 824) (by decide +kernel), List.mem_of_getElem? (i := 825) (by decide +kernel)⟩
theorem lw_p20 : lw_okq (⟨"SquopPilesModel", "isCovered", "(I)Z"⟩, 12) := ⟨⟨by decide +kernel, by decide +kernel⟩, List.mem_of_getElem? (i := 751) (by decide +kernel), List.mem_of_getElem? (i := 828) (by decide +kernel), List.mem_of_getElem? (i := 829) (by decide +kernel)⟩
theorem lw_p21 : lw_okq (⟨"SquopPilesModel", "lying", "(I)I"⟩, 12) := ⟨⟨by decide +kernel, by decide +kernel⟩, List.mem_of_getElem? (i := 751) (by decide +kernel), List.mem_of_getElem? (i := 832) (by decide +kernel), List.mem_of_getElem? (i := 833) (by decide +kernel)⟩
theorem lw_p22 : lw_okq (⟨"SquopPilesModel", "record", "()V"⟩, 12) := ⟨⟨by decide +kernel, by decide +kernel⟩, List.mem_of_getElem? (i := 751) (by decide +kernel), List.mem_of_getElem? (i := 836) (by decide +kernel), List.mem_of_getElem? (i := 837) (by decide +kernel)⟩
theorem lw_p23 : lw_okq (⟨"SquopPilesModel", "flies", "(III)I"⟩, 12) := ⟨⟨by decide +kernel, by decide +kernel⟩, List.mem_of_getElem? (i := 751) (by decide +kernel), List.mem_of_getElem? (i := 840) (by decide +kernel), List.mem_of_getElem? (i := 841) (by decide +kernel)⟩
theorem lw_p24 : lw_okq (⟨"SquopPilesModel", "lay", "(II)V"⟩, 12) := ⟨⟨by decide +kernel, by decide +kernel⟩, List.mem_of_getElem? (i := 751) (by decide +kernel), List.mem_of_getElem? (i := 856) (by decide +kernel), List.mem_of_getElem? (i := 857) (by decide +kernel)⟩
theorem lw_p25 : lw_okq (⟨"SquopPilesModel", "pass", "()V"⟩, 12) := ⟨⟨by decide +kernel, by decide +kernel⟩, List.mem_of_getElem? (i := 751) (by decide +kernel), List.mem_of_getElem? (i := 860) (by decide +kernel), List.mem_of_getElem? (i := 861) (by decide +kernel)⟩
theorem lw_p26 : lw_okq (⟨"SquopPilesModel", "whyNotLifted", "(III)I"⟩, 12) := ⟨⟨by decide +kernel, by decide +kernel⟩, List.mem_of_getElem? (i := 751) (by decide +kernel), List.mem_of_getElem? (i := 871) (by decide +kernel), List.mem_of_getElem? (i := 872) (by decide +kernel)⟩
theorem lw_p27 : lw_okq (⟨"SquopPilesModel", "winkAt", "(II)I"⟩, 12) := ⟨⟨by decide +kernel, by decide +kernel⟩, List.mem_of_getElem? (i := 751) (by decide +kernel), List.mem_of_getElem? (i := 875) (by decide +kernel), List.mem_of_getElem? (i := 876) (by decide +kernel)⟩
theorem lw_p28 : lw_okq (⟨"SquopPilesModel", "lifts", "(III)I"⟩, 12) := ⟨⟨by decide +kernel, by decide +kernel⟩, List.mem_of_getElem? (i := 751) (by decide +kernel), List.mem_of_getElem? (i := 882) (by decide +kernel), List.mem_of_getElem? (i := 883) (by decide +kernel)⟩
theorem lw_p29 : lw_okq (⟨"SquopPilesModel", "isWhole", "()Z"⟩, 12) := ⟨⟨by decide +kernel, by decide +kernel⟩, List.mem_of_getElem? (i := 751) (by decide +kernel), List.mem_of_getElem? (i := 906) (by decide +kernel), List.mem_of_getElem? (i := 907) (by decide +kernel)⟩
theorem lw_p30 : lw_okq (⟨"SquopPilesModel", "part", "()Z"⟩, 12) := ⟨⟨by decide +kernel, by decide +kernel⟩, List.mem_of_getElem? (i := 751) (by decide +kernel), List.mem_of_getElem? (i := 910) (by decide +kernel), List.mem_of_getElem? (i := 911) (by decide +kernel)⟩
theorem lw_p31 : lw_okq (⟨"SquopPilesModel", "takes", "(II)Z"⟩, 12) := ⟨⟨by decide +kernel, by decide +kernel⟩, List.mem_of_getElem? (i := 751) (by decide +kernel), List.mem_of_getElem? (i := 914) (by decide +kernel), List.mem_of_getElem? (i := 915) (by decide +kernel)⟩
def lw_privs_2 : List (MethodName × Nat) := [(⟨"SquopPilesModel", "whyNot", "(I)I"⟩, 12), (⟨"SquopPilesModel", "isOver", "()Z"⟩, 12), (⟨"SquopPilesModel", "pottedOf", "(I)I"⟩, 12), (⟨"SquopPilesModel", "isPotted", "(I)Z"⟩, 12), (⟨"SquopPilesModel", "isCovered", "(I)Z"⟩, 12), (⟨"SquopPilesModel", "lying", "(I)I"⟩, 12), (⟨"SquopPilesModel", "record", "()V"⟩, 12), (⟨"SquopPilesModel", "flies", "(III)I"⟩, 12), (⟨"SquopPilesModel", "lay", "(II)V"⟩, 12), (⟨"SquopPilesModel", "pass", "()V"⟩, 12), (⟨"SquopPilesModel", "whyNotLifted", "(III)I"⟩, 12), (⟨"SquopPilesModel", "winkAt", "(II)I"⟩, 12), (⟨"SquopPilesModel", "lifts", "(III)I"⟩, 12), (⟨"SquopPilesModel", "isWhole", "()Z"⟩, 12), (⟨"SquopPilesModel", "part", "()Z"⟩, 12), (⟨"SquopPilesModel", "takes", "(II)Z"⟩, 12)]
theorem lw_r2 : ∀ q ∈ lw_privs_2, lw_okq q := List.forall_mem_cons.mpr ⟨lw_p16, List.forall_mem_cons.mpr ⟨lw_p17, List.forall_mem_cons.mpr ⟨lw_p18, List.forall_mem_cons.mpr ⟨lw_p19, List.forall_mem_cons.mpr ⟨lw_p20, List.forall_mem_cons.mpr ⟨lw_p21, List.forall_mem_cons.mpr ⟨lw_p22, List.forall_mem_cons.mpr ⟨lw_p23, List.forall_mem_cons.mpr ⟨lw_p24, List.forall_mem_cons.mpr ⟨lw_p25, List.forall_mem_cons.mpr ⟨lw_p26, List.forall_mem_cons.mpr ⟨lw_p27, List.forall_mem_cons.mpr ⟨lw_p28, List.forall_mem_cons.mpr ⟨lw_p29, List.forall_mem_cons.mpr ⟨lw_p30, List.forall_mem_cons.mpr ⟨lw_p31, fun _ h => absurd h List.not_mem_nil⟩⟩⟩⟩⟩⟩⟩⟩⟩⟩⟩⟩⟩⟩⟩⟩
theorem lw_p32 : lw_okq (⟨"SquopPilesModel", "does", "(I)Z"⟩, 12) := ⟨⟨by decide +kernel, by decide +kernel⟩, List.mem_of_getElem? (i := 751) (by decide +kernel), List.mem_of_getElem? (i := 922) (by decide +kernel), List.mem_of_getElem? (i := 923) (by decide +kernel)⟩
theorem lw_p33 : lw_okq (⟨"SquopPilesModel", "pottedInAll", "()I"⟩, 12) := ⟨⟨by decide +kernel, by decide +kernel⟩, List.mem_of_getElem? (i := 751) (by decide +kernel), List.mem_of_getElem? (i := 930) (by decide +kernel), List.mem_of_getElem? (i := 931) (by decide +kernel)⟩
theorem lw_p34 : lw_okq (⟨"SquopPilesModel", "ofWink", "(II)I"⟩, 12) := ⟨⟨by decide +kernel, by decide +kernel⟩, List.mem_of_getElem? (i := 751) (by decide +kernel), List.mem_of_getElem? (i := 946) (by decide +kernel), List.mem_of_getElem? (i := 947) (by decide +kernel)⟩
theorem lw_p35 : lw_okq (⟨"SquopPilesModel", "ofPile", "(II)I"⟩, 12) := ⟨⟨by decide +kernel, by decide +kernel⟩, List.mem_of_getElem? (i := 751) (by decide +kernel), List.mem_of_getElem? (i := 954) (by decide +kernel), List.mem_of_getElem? (i := 955) (by decide +kernel)⟩
theorem lw_p36 : lw_okq (⟨"SquopPilesModel", "colours", "(I)I"⟩, 12) := ⟨⟨by decide +kernel, by decide +kernel⟩, List.mem_of_getElem? (i := 751) (by decide +kernel), List.mem_of_getElem? (i := 958) (by decide +kernel), List.mem_of_getElem? (i := 959) (by decide +kernel)⟩
theorem lw_p37 : lw_okq (⟨"SquopPilesModel", "ofColour", "(II)I"⟩, 12) := ⟨⟨by decide +kernel, by decide +kernel⟩, List.mem_of_getElem? (i := 751) (by decide +kernel), List.mem_of_getElem? (i := 966) (by decide +kernel), List.mem_of_getElem? (i := 967) (by decide +kernel)⟩
theorem lw_p38 : lw_okq (⟨"SquopPilesModel", "coveredOf", "(I)I"⟩, 12) := ⟨⟨by decide +kernel, by decide +kernel⟩, List.mem_of_getElem? (i := 751) (by decide +kernel), List.mem_of_getElem? (i := 970) (by decide +kernel), List.mem_of_getElem? (i := 971) (by decide +kernel)⟩
theorem lw_p39 : lw_okq (⟨"SquopPilesModel", "points", "(I)I"⟩, 12) := ⟨⟨by decide +kernel, by decide +kernel⟩, List.mem_of_getElem? (i := 751) (by decide +kernel), List.mem_of_getElem? (i := 974) (by decide +kernel), List.mem_of_getElem? (i := 975) (by decide +kernel)⟩
theorem lw_p40 : lw_okq (⟨"SquopPilesModel", "below", "(I)I"⟩, 12) := ⟨⟨by decide +kernel, by decide +kernel⟩, List.mem_of_getElem? (i := 751) (by decide +kernel), List.mem_of_getElem? (i := 978) (by decide +kernel), List.mem_of_getElem? (i := 979) (by decide +kernel)⟩
theorem lw_p41 : lw_okq (⟨"SquopPilesModel", "number", "(I)I"⟩, 12) := ⟨⟨by decide +kernel, by decide +kernel⟩, List.mem_of_getElem? (i := 751) (by decide +kernel), List.mem_of_getElem? (i := 986) (by decide +kernel), List.mem_of_getElem? (i := 987) (by decide +kernel)⟩
theorem lw_p42 : lw_okq (⟨"SquopPilesModel", "covered", "()I"⟩, 12) := ⟨⟨by decide +kernel, by decide +kernel⟩, List.mem_of_getElem? (i := 751) (by decide +kernel), List.mem_of_getElem? (i := 990) (by decide +kernel), List.mem_of_getElem? (i := 991) (by decide +kernel)⟩
theorem lw_p43 : lw_okq (⟨"SquopPilesModel", "piles", "()I"⟩, 12) := ⟨⟨by decide +kernel, by decide +kernel⟩, List.mem_of_getElem? (i := 751) (by decide +kernel), List.mem_of_getElem? (i := 994) (by decide +kernel), List.mem_of_getElem? (i := 995) (by decide +kernel)⟩
theorem lw_p44 : lw_okq (⟨"SquopPilesModel", "highest", "()I"⟩, 12) := ⟨⟨by decide +kernel, by decide +kernel⟩, List.mem_of_getElem? (i := 751) (by decide +kernel), List.mem_of_getElem? (i := 998) (by decide +kernel), List.mem_of_getElem? (i := 999) (by decide +kernel)⟩
theorem lw_p45 : lw_okq (⟨"SquopPilesModel", "team", "(I)I"⟩, 12) := ⟨⟨by decide +kernel, by decide +kernel⟩, List.mem_of_getElem? (i := 751) (by decide +kernel), List.mem_of_getElem? (i := 1002) (by decide +kernel), List.mem_of_getElem? (i := 1003) (by decide +kernel)⟩
theorem lw_p46 : lw_okq (⟨"SquopPilesModel", "landing", "(III)I"⟩, 12) := ⟨⟨by decide +kernel, by decide +kernel⟩, List.mem_of_getElem? (i := 751) (by decide +kernel), List.mem_of_getElem? (i := 1014) (by decide +kernel), List.mem_of_getElem? (i := 1015) (by decide +kernel)⟩
theorem lw_p47 : lw_okq (⟨"SquopPilesModel", "brings", "(IIII)I"⟩, 12) := ⟨⟨by decide +kernel, by decide +kernel⟩, List.mem_of_getElem? (i := 751) (by decide +kernel), List.mem_of_getElem? (i := 1022) (by decide +kernel), List.mem_of_getElem? (i := 1023) (by decide +kernel)⟩
def lw_privs_3 : List (MethodName × Nat) := [(⟨"SquopPilesModel", "does", "(I)Z"⟩, 12), (⟨"SquopPilesModel", "pottedInAll", "()I"⟩, 12), (⟨"SquopPilesModel", "ofWink", "(II)I"⟩, 12), (⟨"SquopPilesModel", "ofPile", "(II)I"⟩, 12), (⟨"SquopPilesModel", "colours", "(I)I"⟩, 12), (⟨"SquopPilesModel", "ofColour", "(II)I"⟩, 12), (⟨"SquopPilesModel", "coveredOf", "(I)I"⟩, 12), (⟨"SquopPilesModel", "points", "(I)I"⟩, 12), (⟨"SquopPilesModel", "below", "(I)I"⟩, 12), (⟨"SquopPilesModel", "number", "(I)I"⟩, 12), (⟨"SquopPilesModel", "covered", "()I"⟩, 12), (⟨"SquopPilesModel", "piles", "()I"⟩, 12), (⟨"SquopPilesModel", "highest", "()I"⟩, 12), (⟨"SquopPilesModel", "team", "(I)I"⟩, 12), (⟨"SquopPilesModel", "landing", "(III)I"⟩, 12), (⟨"SquopPilesModel", "brings", "(IIII)I"⟩, 12)]
theorem lw_r3 : ∀ q ∈ lw_privs_3, lw_okq q := List.forall_mem_cons.mpr ⟨lw_p32, List.forall_mem_cons.mpr ⟨lw_p33, List.forall_mem_cons.mpr ⟨lw_p34, List.forall_mem_cons.mpr ⟨lw_p35, List.forall_mem_cons.mpr ⟨lw_p36, List.forall_mem_cons.mpr ⟨lw_p37, List.forall_mem_cons.mpr ⟨lw_p38, List.forall_mem_cons.mpr ⟨lw_p39, List.forall_mem_cons.mpr ⟨lw_p40, List.forall_mem_cons.mpr ⟨lw_p41, List.forall_mem_cons.mpr ⟨lw_p42, List.forall_mem_cons.mpr ⟨lw_p43, List.forall_mem_cons.mpr ⟨lw_p44, List.forall_mem_cons.mpr ⟨lw_p45, List.forall_mem_cons.mpr ⟨lw_p46, List.forall_mem_cons.mpr ⟨lw_p47, fun _ h => absurd h List.not_mem_nil⟩⟩⟩⟩⟩⟩⟩⟩⟩⟩⟩⟩⟩⟩⟩⟩
theorem lw_p48 : lw_okq (⟨"SquopPilesModel", "putAside", "()V"⟩, 12) := ⟨⟨by decide +kernel, by decide +kernel⟩, List.mem_of_getElem? (i := 751) (by decide +kernel), List.mem_of_getElem? (i := 1026) (by decide +kernel), List.mem_of_getElem? (i := 1027) (by decide +kernel)⟩
theorem lw_p49 : lw_okq (⟨"SquopPilesModel", "takeBack", "()V"⟩, 12) := ⟨⟨by decide +kernel, by decide +kernel⟩, List.mem_of_getElem? (i := 751) (by decide +kernel), List.mem_of_getElem? (i := 1030) (by decide +kernel), List.mem_of_getElem? (i := 1031) (by decide +kernel)⟩
theorem lw_p50 : lw_okq (⟨"SquopPilesModel", "bestFlight", "()I"⟩, 12) := ⟨⟨by decide +kernel, by decide +kernel⟩, List.mem_of_getElem? (i := 751) (by decide +kernel), List.mem_of_getElem? (i := 1038) (by decide +kernel), List.mem_of_getElem? (i := 1039) (by decide +kernel)⟩
theorem lw_p51 : lw_okq (⟨"SquopPilesModel", "fewest", "(I)I"⟩, 12) := ⟨⟨by decide +kernel, by decide +kernel⟩, List.mem_of_getElem? (i := 751) (by decide +kernel), List.mem_of_getElem? (i := 1046) (by decide +kernel), List.mem_of_getElem? (i := 1047) (by decide +kernel)⟩
theorem lw_p52 : lw_okq (⟨"SquopPilesModel", "ofWinks", "(J)J"⟩, 12) := ⟨⟨by decide +kernel, by decide +kernel⟩, List.mem_of_getElem? (i := 751) (by decide +kernel), List.mem_of_getElem? (i := 1065) (by decide +kernel), List.mem_of_getElem? (i := 1066) (by decide +kernel)⟩
theorem lw_p53 : lw_okq (⟨"SquopPilesModel", "ofCells", "(J)J"⟩, 12) := ⟨⟨by decide +kernel, by decide +kernel⟩, List.mem_of_getElem? (i := 751) (by decide +kernel), List.mem_of_getElem? (i := 1069) (by decide +kernel), List.mem_of_getElem? (i := 1070) (by decide +kernel)⟩
def lw_privs_4 : List (MethodName × Nat) := [(⟨"SquopPilesModel", "putAside", "()V"⟩, 12), (⟨"SquopPilesModel", "takeBack", "()V"⟩, 12), (⟨"SquopPilesModel", "bestFlight", "()I"⟩, 12), (⟨"SquopPilesModel", "fewest", "(I)I"⟩, 12), (⟨"SquopPilesModel", "ofWinks", "(J)J"⟩, 12), (⟨"SquopPilesModel", "ofCells", "(J)J"⟩, 12)]
theorem lw_r4 : ∀ q ∈ lw_privs_4, lw_okq q := List.forall_mem_cons.mpr ⟨lw_p48, List.forall_mem_cons.mpr ⟨lw_p49, List.forall_mem_cons.mpr ⟨lw_p50, List.forall_mem_cons.mpr ⟨lw_p51, List.forall_mem_cons.mpr ⟨lw_p52, List.forall_mem_cons.mpr ⟨lw_p53, fun _ h => absurd h List.not_mem_nil⟩⟩⟩⟩⟩⟩
def lw_privs : List (MethodName × Nat) := lw_privs_1 ++ (lw_privs_2 ++ (lw_privs_3 ++ (lw_privs_4)))
def lw_tbl : List Cond := k2_sels lw_privs ++ tables_1
theorem lw_privs_ok : ∀ q ∈ lw_privs, lw_okq q := by
  show ∀ q ∈ lw_privs_1 ++ (lw_privs_2 ++ (lw_privs_3 ++ (lw_privs_4))), lw_okq q
  exact List.forall_mem_append.mpr ⟨lw_r1, List.forall_mem_append.mpr ⟨lw_r2, List.forall_mem_append.mpr ⟨lw_r3, lw_r4⟩⟩⟩
/-- the streams that the claim lets the run draw from -/
abbrev lw_cs : List Choice := [Jvm.Choice.named "NaN.bits"]
theorem lw_bits : nanBits ∈ lw_cs := by first | decide | exact List.mem_cons_self | simp [lw_cs, nanBits]
end
section
/-! ===== BEGIN words of one list among another's, by their places ===== -/
theorem goodIn_r {big : List Cond} (ws : List Cond) (ps : List Nat) (hp : ws = ps.filterMap (fun i => big[i]?)) (h : ws.all goodWord = true) : GoodIn big ws := by
  intro w hw
  have h1 := List.all_eq_true.mp h w hw
  rw [hp] at hw
  obtain ⟨i, -, hi⟩ := List.mem_filterMap.mp hw
  have hm : w ∈ big := by first | exact List.mem_of_getElem? hi | exact List.getElem?_mem hi
  exact ⟨hm, good_of_word h1⟩
theorem goodIn_app {big a b : List Cond} (ha : GoodIn big a) (hb : GoodIn big b) : GoodIn big (a ++ b) := fun w h => (List.mem_append.mp h).elim (ha w) (hb w)
theorem goodIn_ca {big a b : List Cond} {c : Cond} (ha : GoodIn big (c :: a)) (hb : GoodIn big b) : GoodIn big (c :: (a ++ b)) := fun w h => (List.mem_cons.mp h).elim (fun e => ha w (List.mem_cons.mpr (Or.inl e))) (fun h => (List.mem_append.mp h).elim (fun h => ha w (List.mem_cons.mpr (Or.inr h))) (hb w))
theorem goodIn_sub {big ws : List Cond} (hm : ∀ w ∈ ws, w ∈ big) (h : ws.all goodWord = true) : GoodIn big ws := fun w hw => ⟨hm w hw, good_of_word (List.all_eq_true.mp h w hw)⟩
/-! ===== END ===== -/

/-! ===== BEGIN exceptions that leave a method, and their catching by the caller (launches without stack traces) ===== -/
section VXA
/-! The laws vx_back, vx_callV, vx_callS, vx_callSW, vx_throw0, vx_throwS follow proofs of the library, with one case more: JvmDerived/Free/Laws.lean (Back.of_free), Shelf42/LK1.lean (callV, callS), Shelf/KitTraced.lean (throwNew0V, throwNewS). -/
/-- where a method has thrown q: the class by its name, the cell, what was written, the world -/
def vx_T (XC : String → State → State → Prop) (st : State) (q : Addr) (t : State) (mc ms : Nat) (free : Addr → Prop) : Prop :=
  ∃ (E : String) (ce : Cell) (L : List Loc), XC E st t ∧ t.heap[q]? = some ce ∧ ce.vm = .none ∧ st.vm.findClass E = some ce.cls ∧ st.WarmedH t.vm ∧ st.sameButNew ({ t with vm := st.vm } : State) L mc ms ∧ ∀ z ∈ L, free z.base
def vx_Q (Qc : Array Value → State → Outcome → State → Prop) (XC : String → State → State → Prop) (mc ms : Nat) (free : Addr → Prop) : Array Value → State → Outcome → State → Prop := fun a st o t =>
  (Qc a st o t ∧ ∃ L, FrameEnd st o t L mc ms ∧ ∀ q ∈ L, free q.base) ∨ ∃ q, o = .threw q ∧ vx_T XC st q t mc ms free
/-- a callee that returns or throws -/
def vx_Met (l : Launch) (y : MethodName) (ws : List Cond) (rm : Room) (Pc : Array Value → State → Prop) (Qc : Array Value → State → Outcome → State → Prop) (XC : String → State → State → Prop) (mc ms : Nat) (free : Addr → Prop) : Prop :=
  MetFree l y (headSpec ws rm) Pc (fun _ _ _ _ _ => True) (vx_Q Qc XC mc ms free)
def vx_Post (XC : String → State → State → Prop) (mc ms : Nat) (free : Addr → Prop) : Pt → Array Value → Addr → Pt → Prop := fun A a q B =>
  ∃ (g : JFrame) (mk : MethodId) (t : State) (L : List Loc) (E : String) (ce : Cell), B.U.heap = t.heap ∧ B.U.vm = t.vm ∧ XC E (A.U.calling g mk a) t ∧ t.heap[q]? = some ce ∧ ce.vm = .none ∧ A.U.vm.findClass E = some ce.cls ∧ B.locs = A.locs ++ L ∧ (∀ z ∈ L, free z.base) ∧ B.cells = A.cells + mc ∧ B.slots = A.slots + ms
def vx_Back (l : Launch) (R : Room) (p : Program) (e : Env) (below : List Frame) (s : State) (sargs : Array Value) (y : MethodName) (len W9 : Nat)
    (Pre : Pt → Array Value → Prop) (Post : Pt → Array Value → Option Value → Pt → Prop) (PostX : Pt → Array Value → Addr → Pt → Prop) : Prop :=
  ∀ (m : MethodId) (meth : Method) (c : Code) (A : Pt) (g : JFrame) (ig : Instr) (mk : MethodId) (a : Array Value),
    Stand p l e R s m sargs below meth c A.U A.locs A.cells A.slots → g.method = m → g.locals.size = c.maxLocals → decode c.code g.pc = .ok (ig, len) →
    2 * g.monitorRoom + (g.stack.map fun v => v.category).sum ≤ W9 → A.U.methodNamed? y = some mk → Pre A a →
    (∃ (v : Option Value) (B : Pt), Stand p l e R s m sargs below meth c B.U B.locs B.cells B.slots ∧ Post A a v B ∧
      Steps p.tables e below (doInvoke e (A.U.setTop g) [] mk a).1 (B.U.setTop { g with pc := g.pc + len, stack := v.toList ++ g.stack })) ∨
    (∃ (q : Addr) (B : Pt), Stand p l e R s m sargs below meth c B.U B.locs B.cells B.slots ∧ PostX A a q B ∧
      Steps p.tables e below (doInvoke e (A.U.setTop g) [] mk a).1 ((B.U.setTop g).pushFrame (.throwing q)))
section Payer
variable {l : Launch} {R : Room} {p : Program} {e : Env} {below : List Frame} {s : State} {sargs : Array Value} {y : MethodName} {len W9 : Nat}
theorem vx_back {ws : List Cond} {rm : Room} {Pc : Array Value → State → Prop} {Qc : Array Value → State → Outcome → State → Prop} {XC : String → State → State → Prop} {mc ms : Nat} {free : Addr → Prop} {bytes : ByteArray} {maxL : Nat} {ret : Option FieldType}
    (hM : vx_Met l y ws rm Pc Qc XC mc ms free) (hblind : FrameBlind Pc) (hrc : rm.cells = mc) (hrs : rm.slots = ms)
    (hframes : rm.frames + 1 ≤ R.frames) (hlocals : W9 + (maxL + 11) + rm.locals ≤ R.locals)
    (hws : ∀ w ∈ ws, ∀ a' U, s.WarmedH U.vm → w.before a' U = true) (hcode : Cond.code y bytes maxL ret ∈ ws) (hinit : ∀ a' U, s.WarmedH U.vm → (Cond.initialized y.cls).before a' U = true) :
    vx_Back l R p e below s sargs y len W9 (PreOf R mc ms Pc) (PostOf Qc mc ms free) (vx_Post XC mc ms free) := by
  intro m meth c A g ig mk a X hg hsize hdg hW hn hp
  have h1 : (headSpec ws rm).pre.before a A.U = true := atoms_intro fun w hw => hws w hw _ _ X.warmed
  have h2 : (Cond.code y bytes maxL ret).before a A.U = true := hws _ hcode _ _ X.warmed
  have h3 : (Cond.initialized y.cls).before a A.U = true := hinit _ _ X.warmed
  have h4 : A.cells + (headSpec ws rm).room.cells ≤ R.cells := by rw [show (headSpec ws rm).room.cells = mc from hrc]; exact hp.1
  have h5 : A.slots + (headSpec ws rm).room.slots ≤ R.slots := by rw [show (headSpec ws rm).room.slots = ms from hrs]; exact hp.2.1
  have hPc : Pc a (A.U.calling g mk a) := hblind _ _ _ _ hp.2.2
  obtain ⟨U, Ls, c0, s0⟩ := A
  dsimp only [Pt.U, Pt.locs, Pt.cells, Pt.slots] at h1 h2 h3 h4 h5 X hn hPc ⊢
  obtain ⟨methY, cY, hmY, hcY, -, hlY, -, -, -, -⟩ := Cond.code_spec hn h2
  obtain ⟨kY, hkY, -⟩ := className_of_methodNamed hn
  have hinitY : kY.init = .initialized := Cond.initialized_spec (findClass_of_methodNamed hn) hkY h3
  have h : At U g.method c below := by rw [hg]; exact X.here
  have hlocals9 : W9 + (maxL + 11) + (headSpec ws rm).room.locals ≤ R.locals := hlocals
  have happ : (headSpec ws rm).appliesLoose y e.platform (U.calling g mk a) = true :=
    Spec.appliesLoose_calling (g := g) h hdg hn hkY hinitY
      (X.room_calling (g := g) (R' := (headSpec ws rm).room) hsize hmY hcY hframes (by rw [hlY]; omega) h4 h5) h1
  obtain ⟨mid, hmid⟩ := h.above
  have hfr : (U.setTop g).frames = (.java g :: mid) ++ below := by rw [State.frames_setTop' g h.top, hmid]; rfl
  obtain ⟨o, s₂, hsteps, -, hend, hq⟩ := Steps.callFree hM p X.admits X.cas X.clock (acts := []) hfr happ hPc trivial
  have hq' : vx_Q Qc XC mc ms free a (U.calling g mk a) o s₂ := hq
  rw [State.frames_setTop' g h.top] at hend
  obtain ⟨g₀, hg0⟩ := Option.isSome_iff_exists.mp h.top
  obtain ⟨r, hr⟩ := State.topJava?_eq_some.mp hg0
  have hr' : (({ U with heap := s₂.heap, slotsUsed := s₂.slotsUsed } : State).setVm s₂.vm).frames = .java g₀ :: r := hr
  rcases hq' with ⟨hqc, L, hfe, hL⟩ | ⟨q, rfl, E, ce, L, hx, hce, hcv, hcl, hW₂, hsm, hL⟩
  · obtain ⟨⟨v, rfl⟩, hW₂, e2, q2, q3, q4, q5, q6⟩ := id hfe
    have e3 : s₂ = ({ (U.calling g mk a).setFrames s₂.frames with heap := s₂.heap, slotsUsed := s₂.slotsUsed } : State).setVm s₂.vm := by
      have : s₂ = ({ s₂ with vm := (U.calling g mk a).vm } : State).setVm s₂.vm := rfl
      rw [e2] at this
      exact this
    obtain ⟨c₂, i₂, len₂, hc₂, hd₂, hf₂⟩ := hend
    have hW' : U.WarmedH s₂.vm := hW₂
    have hcc : c₂ = c := by
      have h1 : s₂.code? g.method = U.code? g.method := by
        rw [State.code?_eq, State.code?_eq, hW'.alike.method?]
      exact Option.some.inj (hc₂.symm.trans (h1.trans h.code))
    subst hcc
    have hlen : len₂ = len := by rw [hdg] at hd₂; cases hd₂; rfl
    subst hlen
    have hs₂ : s₂ = (({ U with heap := s₂.heap, slotsUsed := s₂.slotsUsed } : State).setVm s₂.vm).setTop { g with pc := g.pc + len₂, stack := v.toList ++ g.stack } := by
      refine e3.trans ?_
      rw [hf₂, State.calling_eq h.top, State.setFrames_setFrames, State.setTop_of_frames _ hr', hr]
      rfl
    have hsame : U.sameButNew ({ U with heap := s₂.heap, slotsUsed := s₂.slotsUsed } : State) L mc ms := by
      refine ⟨?_, q2, q3, q4, q5, q6⟩
      obtain ⟨t, ht, -⟩ := State.frames_cons hr
      show ({ U with heap := s₂.heap, slotsUsed := s₂.slotsUsed } : State) = { U.setFrames U.frames with heap := s₂.heap, slotsUsed := s₂.slotsUsed }
      rw [State.setFrames_self ht]
    subst hg
    refine Or.inl ⟨v, ⟨(({ U with heap := s₂.heap, slotsUsed := s₂.slotsUsed } : State).setVm s₂.vm), Ls ++ L, c0 + mc, s0 + ms⟩,
      ⟨X.admits, X.cas, X.clock, X.frames, X.room, X.hears, X.method, X.code, (X.here.setHeapUsed s₂.heap s₂.slotsUsed).setVm hW'.alike, X.tail, State.WarmedH.trans X.warmed hW', X.limits, X.bytes, X.same.trans (hsame.setVm s.vm)⟩,
      ⟨g, mk, s₂, L, rfl, rfl, hqc, rfl, hL, rfl, rfl⟩, ?_⟩
    show Steps p.tables e below _ ((({ U with heap := s₂.heap, slotsUsed := s₂.slotsUsed } : State).setVm s₂.vm).setTop { g with pc := g.pc + len₂, stack := v.toList ++ g.stack })
    rw [← hs₂]
    exact hsteps
  · obtain ⟨e2, q2, q3, q4, q5, q6⟩ := id hsm
    have e3 : s₂ = ({ (U.calling g mk a).setFrames s₂.frames with heap := s₂.heap, slotsUsed := s₂.slotsUsed } : State).setVm s₂.vm := by
      have : s₂ = ({ s₂ with vm := (U.calling g mk a).vm } : State).setVm s₂.vm := rfl
      rw [e2] at this
      exact this
    have hf₂ : s₂.frames = .throwing q :: .java g :: U.frames.tail := hend
    have hW' : U.WarmedH s₂.vm := hW₂
    have hs₂ : s₂ = ((({ U with heap := s₂.heap, slotsUsed := s₂.slotsUsed } : State).setVm s₂.vm).setTop g).pushFrame (.throwing q) := by
      refine e3.trans ?_
      rw [hf₂, State.calling_eq h.top, State.setFrames_setFrames, State.pushFrame, State.frames_setTop _ hr', State.setTop_of_frames _ hr', State.setFrames_setFrames, hr]
      rfl
    have hsame : U.sameButNew ({ U with heap := s₂.heap, slotsUsed := s₂.slotsUsed } : State) L mc ms := by
      refine ⟨?_, q2, q3, q4, q5, q6⟩
      obtain ⟨t, ht, -⟩ := State.frames_cons hr
      show ({ U with heap := s₂.heap, slotsUsed := s₂.slotsUsed } : State) = { U.setFrames U.frames with heap := s₂.heap, slotsUsed := s₂.slotsUsed }
      rw [State.setFrames_self ht]
    subst hg
    refine Or.inr ⟨q, ⟨(({ U with heap := s₂.heap, slotsUsed := s₂.slotsUsed } : State).setVm s₂.vm), Ls ++ L, c0 + mc, s0 + ms⟩,
      ⟨X.admits, X.cas, X.clock, X.frames, X.room, X.hears, X.method, X.code, (X.here.setHeapUsed s₂.heap s₂.slotsUsed).setVm hW'.alike, X.tail, State.WarmedH.trans X.warmed hW', X.limits, X.bytes, X.same.trans (hsame.setVm s.vm)⟩,
      ⟨g, mk, s₂, L, E, ce, rfl, rfl, hx, hce, hcv, hcl, rfl, hL, rfl, rfl⟩, ?_⟩
    show Steps p.tables e below _ (((({ U with heap := s₂.heap, slotsUsed := s₂.slotsUsed } : State).setVm s₂.vm).setTop g).pushFrame (.throwing q))
    rw [← hs₂]
    exact hsteps
end Payer
section Calls
variable {p : Program} {l : Launch} {e : Env} {R : Room} {s : State} {m : MethodId} {args : Array Value} {below : List Frame} {meth : Method} {c : Code} {T : State} {locs : List Loc} {cells slots : Nat}
theorem vx_callV (X : Stand p l e R s m args below meth c T locs cells slots) (hexec : p.tables.exec = Jvm.exec) {own C : String} {index : Nat} {y : MethodName} {bytes : ByteArray} {maxL : Nat} {ret : Option FieldType}
    (hown : s.vm.findClass own = some m.cls) (hlink : (Cond.methodLink own index y).before args s = true) (hinst : (Cond.instanceMethod y).before args s = true) (hsel : (Cond.selects C y y).before args s = true)
    (hcode : (Cond.code y bytes maxL ret).before args s = true) (hy : y.cls ≠ "java/lang/invoke/MethodHandle" ∧ y.cls ≠ "java/lang/invoke/VarHandle")
    {W9 : Nat} {Pre : Pt → Array Value → Prop} {Post : Pt → Array Value → Option Value → Pt → Prop} {PostX : Pt → Array Value → Addr → Pt → Prop} (hK : vx_Back l R p e below s args y 3 W9 Pre Post PostX)
    {b : Addr} {cellB : Cell} (hcell : T.heap[b]? = some cellB) (hobj : cellB.vm.isStatics = false) (hcls : s.vm.findClass C = some cellB.cls)
    {g : JFrame} (hg : g.method = m) (hsize : g.locals.size = c.maxLocals) {argsL rest : List Value} (hlen : ∀ sig, parseMethodDescriptor y.desc = some sig → argsL.length = sig.parameters.length)
    (hstack : g.stack = argsL.reverse ++ .ref b :: rest) (hW : 2 * g.monitorRoom + (rest.map fun v => v.category).sum ≤ W9) (hdg : decode c.code g.pc = .ok (.invokevirtual index, 3))
    (hpre : ∀ vm₁, s.WarmedH vm₁ → Pre ⟨T.setVm vm₁, locs, cells, slots⟩ (Value.ref b :: argsL).toArray) :
    (∃ (v : Option Value) (vm₁ : Vm) (B : Pt), s.WarmedH vm₁ ∧ Stand p l e R s m args below meth c B.U B.locs B.cells B.slots ∧ Post ⟨T.setVm vm₁, locs, cells, slots⟩ (Value.ref b :: argsL).toArray v B ∧
      ∀ target, Steps p.tables e below (B.U.setTop { g with pc := g.pc + 3, stack := v.toList ++ rest }) target → Steps p.tables e below (T.setTop g) target) ∨
    (∃ (q : Addr) (vm₁ : Vm) (B : Pt), s.WarmedH vm₁ ∧ Stand p l e R s m args below meth c B.U B.locs B.cells B.slots ∧ PostX ⟨T.setVm vm₁, locs, cells, slots⟩ (Value.ref b :: argsL).toArray q B ∧
      Steps p.tables e below (T.setTop g) ((B.U.setTop { g with stack := rest }).pushFrame (.throwing q))) := by
  obtain ⟨mk, methM, hnamed, hmethM, hstM, habM⟩ := Cond.instanceMethod_spec hinst
  obtain ⟨methM', cM, hmethM', -, -, -, -, -, -, hsigM⟩ := Cond.code_spec hnamed hcode
  cases hmethM.symm.trans hmethM'
  obtain ⟨c2, r2, m2, q1, q2, q3, q4, kP, hkP, hkPi⟩ := Cond.selects_spec hsel
  cases hcls.symm.trans q1
  cases (State.methodFound?_of_named hnamed hy).symm.trans q2
  cases hnamed.symm.trans q3
  have hselP : selectMethod e.platform s.vm cellB.cls mk = .method mk := by rw [Launch.admits_selectMethod X.admits]; exact q4
  obtain ⟨vm₁, X₁, hstep₁⟩ := X.invokevirtual hexec hown hlink hnamed hmethM hstM hkP hkPi hy (a := b) (cell := cellB) hcell
    (fun z h => by rw [h] at hobj; cases hobj) hselP hmethM habM hkP hkPi (g := g) hg (argsL := argsL) (rest := rest) (hlen _ hsigM) hstack hdg
  rcases hK m meth c ⟨T.setVm vm₁, locs, cells, slots⟩ { g with stack := rest } (.invokevirtual index) mk (Value.ref b :: argsL).toArray X₁ hg hsize hdg hW (X₁.named hnamed) (hpre vm₁ X₁.warmed) with ⟨v, B, X', hpost, hsteps⟩ | ⟨q, B, X', hpost, hsteps⟩
  · exact Or.inl ⟨v, vm₁, B, X₁.warmed, X', hpost, fun target h => hstep₁ _ fun acts => by rw [doInvoke_state]; exact hsteps.trans h⟩
  · exact Or.inr ⟨q, vm₁, B, X₁.warmed, X', hpost, hstep₁ _ fun acts => by rw [doInvoke_state]; exact hsteps⟩
theorem vx_callS (X : Stand p l e R s m args below meth c T locs cells slots) (hexec : p.tables.exec = Jvm.exec) {own : String} {index : Nat} {y : MethodName} {bytes : ByteArray} {maxL : Nat} {ret : Option FieldType}
    (hown : s.vm.findClass own = some m.cls) (hlink : (Cond.methodLink own index y).before args s = true) (hstat : (Cond.static y).before args s = true) (hinit : (Cond.initialized y.cls).before args s = true)
    (hcode : (Cond.code y bytes maxL ret).before args s = true) (hy : y.cls ≠ "java/lang/invoke/MethodHandle" ∧ y.cls ≠ "java/lang/invoke/VarHandle")
    {W9 : Nat} {Pre : Pt → Array Value → Prop} {Post : Pt → Array Value → Option Value → Pt → Prop} {PostX : Pt → Array Value → Addr → Pt → Prop} (hK : vx_Back l R p e below s args y 3 W9 Pre Post PostX)
    {g : JFrame} (hg : g.method = m) (hsize : g.locals.size = c.maxLocals) {argsL rest : List Value} (hlen : ∀ sig, parseMethodDescriptor y.desc = some sig → argsL.length = sig.parameters.length)
    (hstack : g.stack = argsL.reverse ++ rest) (hW : 2 * g.monitorRoom + (rest.map fun v => v.category).sum ≤ W9) (hdg : decode c.code g.pc = .ok (.invokestatic index, 3))
    (hpre : ∀ vm₁, s.WarmedH vm₁ → Pre ⟨T.setVm vm₁, locs, cells, slots⟩ argsL.toArray) :
    (∃ (v : Option Value) (vm₁ : Vm) (B : Pt), s.WarmedH vm₁ ∧ Stand p l e R s m args below meth c B.U B.locs B.cells B.slots ∧ Post ⟨T.setVm vm₁, locs, cells, slots⟩ argsL.toArray v B ∧
      ∀ target, Steps p.tables e below (B.U.setTop { g with pc := g.pc + 3, stack := v.toList ++ rest }) target → Steps p.tables e below (T.setTop g) target) ∨
    (∃ (q : Addr) (vm₁ : Vm) (B : Pt), s.WarmedH vm₁ ∧ Stand p l e R s m args below meth c B.U B.locs B.cells B.slots ∧ PostX ⟨T.setVm vm₁, locs, cells, slots⟩ argsL.toArray q B ∧
      Steps p.tables e below (T.setTop g) ((B.U.setTop { g with stack := rest }).pushFrame (.throwing q))) := by
  obtain ⟨mk, hnamed⟩ := Cond.code_named hcode
  obtain ⟨methM, cM, hmethM, -, -, -, -, -, -, hsigM⟩ := Cond.code_spec hnamed hcode
  have hstatic : methM.isStatic = true := Cond.static_spec hnamed hmethM hstat
  obtain ⟨kP, hkP, -⟩ := className_of_methodNamed hnamed
  have hinitP : kP.init = .initialized := Cond.initialized_spec (findClass_of_methodNamed hnamed) hkP hinit
  obtain ⟨vm₁, X₁, hstep₁⟩ := X.invokestatic hexec hown hlink hnamed hmethM hstatic hkP hinitP hy (g := g) hg (argsL := argsL) (rest := rest) (hlen _ hsigM) hstack hdg
  rcases hK m meth c ⟨T.setVm vm₁, locs, cells, slots⟩ { g with stack := rest } (.invokestatic index) mk argsL.toArray X₁ hg hsize hdg hW (X₁.named hnamed) (hpre vm₁ X₁.warmed) with ⟨v, B, X', hpost, hsteps⟩ | ⟨q, B, X', hpost, hsteps⟩
  · exact Or.inl ⟨v, vm₁, B, X₁.warmed, X', hpost, fun target h => hstep₁ _ fun acts => by rw [doInvoke_state]; exact hsteps.trans h⟩
  · exact Or.inr ⟨q, vm₁, B, X₁.warmed, X', hpost, hstep₁ _ fun acts => by rw [doInvoke_state]; exact hsteps⟩
end Calls
theorem vx_cls {s : State} {T : State} {vm₁ : Vm} {E : String} {k : ClassId} (hW : s.WarmedH vm₁) (h : (T.setVm vm₁).vm.findClass E = some k) : s.vm.findClass E = some k := by
  have h1 : vm₁.findClass E = some k := h
  rw [hW.alike.findClass] at h1
  exact h1
/-- the method's frame g, with q thrown over it -/
def vx_W (p : Program) (l : Launch) (e : Env) (R : Room) (s : State) (m : MethodId) (args : Array Value) (below : List Frame) (meth : Method) (c : Code) (H : Heap) (locs : List Loc) (cells slots : Nat) (Q : State → Prop) (g : JFrame) (q : Addr) : Prop :=
  ∀ T : State, T.heap = H → Stand p l e R s m args below meth c T locs cells slots → ∃ t, Steps p.tables e below ((T.setTop g).pushFrame (.throwing q)) t ∧ Q t
def vx_Run (p : Program) (l : Launch) (e : Env) (R : Room) (s : State) (m : MethodId) (args : Array Value) (below : List Frame) (meth : Method) (c : Code) (H : Heap) (locs : List Loc) (cells slots mc ms : Nat) (g : JFrame) (rest : List Value) (Qa : State → Outcome → State → Prop) (XC : String → State → State → Prop) (free : Addr → Prop) : Prop :=
  ∀ T : State, T.heap = H → Stand p l e R s m args below meth c T locs cells slots →
    (∃ (v : Option Value) (st₀ t T' : State) (L : List Loc), st₀.heap = H ∧ Stand p l e R s m args below meth c T' (locs ++ L) (cells + mc) (slots + ms) ∧ (∀ q ∈ L, free q.base) ∧ T'.heap = t.heap ∧ T'.vm = t.vm ∧ Qa st₀ (.returned v) t ∧
      Goes p e below T g T' { g with pc := g.pc + 3, stack := v.toList ++ rest }) ∨
    (∃ (q : Addr) (st₀ t T' : State) (L : List Loc) (E : String) (ce : Cell), st₀.heap = H ∧ Stand p l e R s m args below meth c T' (locs ++ L) (cells + mc) (slots + ms) ∧ (∀ z ∈ L, free z.base) ∧ T'.heap = t.heap ∧ T'.vm = t.vm ∧ XC E st₀ t ∧ t.heap[q]? = some ce ∧ ce.vm = .none ∧ s.vm.findClass E = some ce.cls ∧
      Steps p.tables e below (T.setTop g) ((T'.setTop { g with stack := rest }).pushFrame (.throwing q)))
def vx_X {S : Type} (px : S → Prop) (B : String → S → State → Prop) (A : Nat → Prop) : String → State → State → Prop := fun E st t => ∃ u : S, px u ∧ B E u t ∧ va_F A st t
section Runs
variable {p : Program} {l : Launch} {e : Env} {R : Room} {s : State} {m : MethodId} {args : Array Value} {below : List Frame} {meth : Method} {c : Code} {H : Heap} {locs : List Loc} {cells slots : Nat}
variable {y : MethodName} {bytes cc : ByteArray} {maxL nL mc ms n index : Nat} {ret : Option FieldType} {ws : List Cond} {rm : Room} {Pc : Array Value → State → Prop} {Qc : Array Value → State → Outcome → State → Prop} {XC : String → State → State → Prop} {free : Addr → Prop} {Ts : List Cond} {own C : String} {b : Addr} {As rest : List Value} {g : JFrame}
theorem vx_callBack (cb : CallB R s args own index y bytes maxL ret ws rm mc ms n) (hM : vx_Met l y ws rm Pc Qc XC mc ms free) (hbl : FrameBlind Pc) : vx_Back l R p e below s args y 3 8 (PreOf R mc ms Pc) (PostOf Qc mc ms free) (vx_Post XC mc ms free) := by
  obtain ⟨hrc, hrs, hfr, hlo, hws, hcw, -, hini, -⟩ := cb
  exact vx_back (bytes := bytes) (maxL := maxL) (ret := ret) hM hbl hrc hrs hfr hlo hws hcw (fun a' U hW => word_at hW (Or.inl (by first | rfl | simp [Cond.onTables, Cond.keeps, Cond.steady])) hini)
theorem vx_runV (S : CallFix p m c cc nL s args Ts own) (hM : vx_Met l y ws rm Pc Qc XC mc ms free) (cw : CallW R s args own C index y bytes maxL ret ws rm mc ms n) (hp : PreV s H C b Pc As)
    (hg : g.method = m) (hn : As.length = n) (hsize : g.locals.size = nL) (hstack : g.stack = As.reverse ++ .ref b :: rest) (hW : 2 * g.monitorRoom + (rest.map fun v => v.category).sum ≤ 8) (hdg : decode cc g.pc = .ok (.invokevirtual index, 3)) (hf : cells + mc ≤ R.cells ∧ slots + ms ≤ R.slots) :
    vx_Run p l e R s m args below meth c H locs cells slots mc ms g rest (Qc (Value.ref b :: As).toArray) XC free := by
  have hK : vx_Back l R p e below s args y 3 8 (PreOf R mc ms Pc) (PostOf Qc mc ms free) (vx_Post XC mc ms free) := vx_callBack cw.1 hM hp.1
  obtain ⟨⟨-, -, -, -, -, -, hcode, -, hy, hlen, hl⟩, hin, hse⟩ := cw
  obtain ⟨hx, hb, hml, ho, -⟩ := S
  obtain ⟨-, ⟨cellB, hcB, hoB, hclB⟩, hPc⟩ := hp
  intro T hT X
  rcases vx_callV X hx (C := C) (bytes := bytes) (maxL := maxL) (ret := ret) ho hl hin hse hcode hy hK (by rw [hT]; exact hcB) hoB hclB hg (hsize.trans hml.symm) (argsL := As) (rest := rest) (fun sig h => hn.trans (hlen sig h)) hstack hW (by rw [hb]; exact hdg)
    (fun vm₁ hW₁ => ⟨hf.1, hf.2, hPc (T.setVm vm₁) hT hW₁⟩) with ⟨v, vm₁, ⟨U', l2, c2, s2⟩, hW₁, X', ⟨g', mk, t, L, e1, e2, hq, h1, hL, h2, h3⟩, st⟩ | ⟨q, vm₁, ⟨U', l2, c2, s2⟩, hW₁, X', ⟨g', mk, t, L, E, ce, e1, e2, hq, hce, hcv, hcl, h1, hL, h2, h3⟩, st⟩
  · dsimp only [Pt.U, Pt.locs, Pt.cells, Pt.slots] at X' e1 e2 h1 h2 h3 st
    subst h1; subst h2; subst h3
    exact Or.inl ⟨v, (T.setVm vm₁).calling g' mk (Value.ref b :: As).toArray, t, U', L, hT, X', hL, e1, e2, hq, st⟩
  · dsimp only [Pt.U, Pt.locs, Pt.cells, Pt.slots] at X' e1 e2 h1 h2 h3 st hcl
    subst h1; subst h2; subst h3
    exact Or.inr ⟨q, (T.setVm vm₁).calling g' mk (Value.ref b :: As).toArray, t, U', L, E, ce, hT, X', hL, e1, e2, hq, hce, hcv, vx_cls hW₁ hcl, st⟩
theorem vx_runS (S : CallFix p m c cc nL s args Ts own) (hM : vx_Met l y ws rm Pc Qc XC mc ms free) (cw : CallB R s args own index y bytes maxL ret ws rm mc ms n ∧ (Cond.static y).before args s = true) (hp : PreS s H Pc As)
    (hg : g.method = m) (hn : As.length = n) (hsize : g.locals.size = nL) (hstack : g.stack = As.reverse ++ rest) (hW : 2 * g.monitorRoom + (rest.map fun v => v.category).sum ≤ 8) (hdg : decode cc g.pc = .ok (.invokestatic index, 3)) (hf : cells + mc ≤ R.cells ∧ slots + ms ≤ R.slots) :
    vx_Run p l e R s m args below meth c H locs cells slots mc ms g rest (Qc As.toArray) XC free := by
  have hK : vx_Back l R p e below s args y 3 8 (PreOf R mc ms Pc) (PostOf Qc mc ms free) (vx_Post XC mc ms free) := vx_callBack cw.1 hM hp.1
  obtain ⟨⟨-, -, -, -, -, -, hcode, hini, hy, hlen, hl⟩, hstt⟩ := cw
  obtain ⟨hx, hb, hml, ho, -⟩ := S
  intro T hT X
  rcases vx_callS X hx (bytes := bytes) (maxL := maxL) (ret := ret) ho hl hstt hini hcode hy hK hg (hsize.trans hml.symm) (argsL := As) (rest := rest) (fun sig h => hn.trans (hlen sig h)) hstack hW (by rw [hb]; exact hdg)
    (fun vm₁ hW₁ => ⟨hf.1, hf.2, hp.2 (T.setVm vm₁) hT hW₁⟩) with ⟨v, vm₁, ⟨U', l2, c2, s2⟩, hW₁, X', ⟨g', mk, t, L, e1, e2, hq, h1, hL, h2, h3⟩, st⟩ | ⟨q, vm₁, ⟨U', l2, c2, s2⟩, hW₁, X', ⟨g', mk, t, L, E, ce, e1, e2, hq, hce, hcv, hcl, h1, hL, h2, h3⟩, st⟩
  · dsimp only [Pt.U, Pt.locs, Pt.cells, Pt.slots] at X' e1 e2 h1 h2 h3 st
    subst h1; subst h2; subst h3
    exact Or.inl ⟨v, (T.setVm vm₁).calling g' mk As.toArray, t, U', L, hT, X', hL, e1, e2, hq, st⟩
  · dsimp only [Pt.U, Pt.locs, Pt.cells, Pt.slots] at X' e1 e2 h1 h2 h3 st hcl
    subst h1; subst h2; subst h3
    exact Or.inr ⟨q, (T.setVm vm₁).calling g' mk As.toArray, t, U', L, E, ce, hT, X', hL, e1, e2, hq, hce, hcv, vx_cls hW₁ hcl, st⟩
end Runs
section Rows
variable {p : Program} {l : Launch} {e : Env} {R : Room} {s : State} {m : MethodId} {args : Array Value} {below : List Frame} {meth : Method} {c : Code} {H : Heap} {locs : List Loc} {cells slots : Nat} {Q : State → Prop}
variable {mc ms : Nat} {free : Addr → Prop} {A0 A1 : Nat → Prop} {H0 : Heap} {a : Array Value} {pc : Nat} {ls : Array Slot} {st0 rest : List Value}
theorem vx_keep {st₀ t T' : State} {L : List Loc} (h0 : st₀.heap = H) (e1 : T'.heap = t.heap) (hS : va_S A0 H0 H locs) (hA : ∀ q, q < H.size → A1 q → A0 q) (hf : ∀ q, free q → A0 q) (hL : ∀ q ∈ L, free q.base) (hF : va_F A1 st₀ t) :
    H.size ≤ T'.heap.size ∧ (∀ q : Nat, q < H.size → ¬ A1 q → T'.heap[q]? = H[q]?) ∧ va_S A0 H0 T'.heap (locs ++ L) := by
  obtain ⟨hz, hk⟩ := hF
  rw [h0] at hz hk
  exact ⟨by rw [e1]; exact hz, fun q h1 h2 => by rw [e1]; exact hk q h1 h2,
    ⟨Nat.le_trans hS.1 (by rw [e1]; exact hz), fun q h1 h2 => by rw [e1, hk q (Nat.lt_of_lt_of_le h1 hS.1) (fun z => h2 (hA q (Nat.lt_of_lt_of_le h1 hS.1) z))]; exact hS.2.1 q h1 h2, fun q hq => by
      rcases List.mem_append.mp hq with h | h
      · exact hS.2.2 q h
      · exact hf _ (hL q h)⟩⟩
theorem vx_calli {S SX : Type} {post : Int32 → S → Prop} {px : SX → Prop} {B : S → State → Prop} {BX : String → SX → State → Prop} {AX : Nat → Prop} (hr : vx_Run p l e R s m args below meth c H locs cells slots mc ms (F0 m pc ls st0) rest (va_Qi post B A1 a) (vx_X px BX AX) free) (hS : va_S A0 H0 H locs) (hA : ∀ q, q < H.size → A1 q → A0 q) (hf : ∀ q, free q → A0 q) (hAX : ∀ q, q < H.size → AX q → A0 q)
    (kx : ∀ (E : String) (ce : Cell) (q9 : Addr) (u : SX) (t : State) (H1 : Heap) (locs1 : List Loc), t.heap = H1 → s.vm.Alike t.vm → px u → BX E u t → H.size ≤ H1.size → (∀ q : Nat, q < H.size → ¬ AX q → H1[q]? = H[q]?) → va_S A0 H0 H1 locs1 → H1[q9]? = some ce → ce.vm = .none → s.vm.findClass E = some ce.cls → vx_W p l e R s m args below meth c H1 locs1 (cells + mc) (slots + ms) Q (F0 m pc ls rest) q9)
    (kk : ∀ (r : Int32) (u : S) (t : State) (H1 : Heap) (locs1 : List Loc), t.heap = H1 → s.vm.Alike t.vm → post r u → B u t → H.size ≤ H1.size → (∀ q : Nat, q < H.size → ¬ A1 q → H1[q]? = H[q]?) → va_S A0 H0 H1 locs1 → W p l e R s m args below meth c H1 locs1 (cells + mc) (slots + ms) Q (F0 m (pc + 3) ls (.int r :: rest))) : W p l e R s m args below meth c H locs cells slots Q (F0 m pc ls st0) := by
  intro T hT X
  rcases hr T hT X with ⟨v, st₀, t, T', L, h0, X', hL, e1, e2, ⟨⟨r, u, hv, hp, hb⟩, hF⟩, st⟩ | ⟨q, st₀, t, T', L, E, ce, h0, X', hL, e1, e2, ⟨u, hp, hb, hF⟩, hce, hcv, hcl, st⟩
  · cases hv
    obtain ⟨k1, k2, k3⟩ := vx_keep h0 e1 hS hA hf hL hF
    obtain ⟨t2, a1, b1⟩ := kk r u t T'.heap (locs ++ L) e1.symm (by rw [← e2]; exact X'.warmed.alike) hp hb k1 k2 k3 T' rfl X'
    exact ⟨t2, st t2 a1, b1⟩
  · obtain ⟨k1, k2, k3⟩ := vx_keep h0 e1 hS hAX hf hL hF
    obtain ⟨t2, a1, b1⟩ := kx E ce q u t T'.heap (locs ++ L) e1.symm (by rw [← e2]; exact X'.warmed.alike) hp hb k1 k2 k3 (by rw [e1]; exact hce) hcv hcl T' rfl X'
    exact ⟨t2, st.trans a1, b1⟩
theorem vx_calll {S SX : Type} {post : Int64 → S → Prop} {px : SX → Prop} {B : S → State → Prop} {BX : String → SX → State → Prop} {AX : Nat → Prop} (hr : vx_Run p l e R s m args below meth c H locs cells slots mc ms (F0 m pc ls st0) rest (va_Ql post B A1 a) (vx_X px BX AX) free) (hS : va_S A0 H0 H locs) (hA : ∀ q, q < H.size → A1 q → A0 q) (hf : ∀ q, free q → A0 q) (hAX : ∀ q, q < H.size → AX q → A0 q)
    (kx : ∀ (E : String) (ce : Cell) (q9 : Addr) (u : SX) (t : State) (H1 : Heap) (locs1 : List Loc), t.heap = H1 → s.vm.Alike t.vm → px u → BX E u t → H.size ≤ H1.size → (∀ q : Nat, q < H.size → ¬ AX q → H1[q]? = H[q]?) → va_S A0 H0 H1 locs1 → H1[q9]? = some ce → ce.vm = .none → s.vm.findClass E = some ce.cls → vx_W p l e R s m args below meth c H1 locs1 (cells + mc) (slots + ms) Q (F0 m pc ls rest) q9)
    (kk : ∀ (r : Int64) (u : S) (t : State) (H1 : Heap) (locs1 : List Loc), t.heap = H1 → s.vm.Alike t.vm → post r u → B u t → H.size ≤ H1.size → (∀ q : Nat, q < H.size → ¬ A1 q → H1[q]? = H[q]?) → va_S A0 H0 H1 locs1 → W p l e R s m args below meth c H1 locs1 (cells + mc) (slots + ms) Q (F0 m (pc + 3) ls (.long r :: rest))) : W p l e R s m args below meth c H locs cells slots Q (F0 m pc ls st0) := by
  intro T hT X
  rcases hr T hT X with ⟨v, st₀, t, T', L, h0, X', hL, e1, e2, ⟨⟨r, u, hv, hp, hb⟩, hF⟩, st⟩ | ⟨q, st₀, t, T', L, E, ce, h0, X', hL, e1, e2, ⟨u, hp, hb, hF⟩, hce, hcv, hcl, st⟩
  · cases hv
    obtain ⟨k1, k2, k3⟩ := vx_keep h0 e1 hS hA hf hL hF
    obtain ⟨t2, a1, b1⟩ := kk r u t T'.heap (locs ++ L) e1.symm (by rw [← e2]; exact X'.warmed.alike) hp hb k1 k2 k3 T' rfl X'
    exact ⟨t2, st t2 a1, b1⟩
  · obtain ⟨k1, k2, k3⟩ := vx_keep h0 e1 hS hAX hf hL hF
    obtain ⟨t2, a1, b1⟩ := kx E ce q u t T'.heap (locs ++ L) e1.symm (by rw [← e2]; exact X'.warmed.alike) hp hb k1 k2 k3 (by rw [e1]; exact hce) hcv hcl T' rfl X'
    exact ⟨t2, st.trans a1, b1⟩
theorem vx_callf {S SX : Type} {post : UInt32 → S → Prop} {px : SX → Prop} {B : S → State → Prop} {BX : String → SX → State → Prop} {AX : Nat → Prop} (hr : vx_Run p l e R s m args below meth c H locs cells slots mc ms (F0 m pc ls st0) rest (va_Qf post B A1 a) (vx_X px BX AX) free) (hS : va_S A0 H0 H locs) (hA : ∀ q, q < H.size → A1 q → A0 q) (hf : ∀ q, free q → A0 q) (hAX : ∀ q, q < H.size → AX q → A0 q)
    (kx : ∀ (E : String) (ce : Cell) (q9 : Addr) (u : SX) (t : State) (H1 : Heap) (locs1 : List Loc), t.heap = H1 → s.vm.Alike t.vm → px u → BX E u t → H.size ≤ H1.size → (∀ q : Nat, q < H.size → ¬ AX q → H1[q]? = H[q]?) → va_S A0 H0 H1 locs1 → H1[q9]? = some ce → ce.vm = .none → s.vm.findClass E = some ce.cls → vx_W p l e R s m args below meth c H1 locs1 (cells + mc) (slots + ms) Q (F0 m pc ls rest) q9)
    (kk : ∀ (r : UInt32) (u : S) (t : State) (H1 : Heap) (locs1 : List Loc), t.heap = H1 → s.vm.Alike t.vm → post r u → B u t → H.size ≤ H1.size → (∀ q : Nat, q < H.size → ¬ A1 q → H1[q]? = H[q]?) → va_S A0 H0 H1 locs1 → W p l e R s m args below meth c H1 locs1 (cells + mc) (slots + ms) Q (F0 m (pc + 3) ls (.float r :: rest))) : W p l e R s m args below meth c H locs cells slots Q (F0 m pc ls st0) := by
  intro T hT X
  rcases hr T hT X with ⟨v, st₀, t, T', L, h0, X', hL, e1, e2, ⟨⟨r, u, hv, hp, hb⟩, hF⟩, st⟩ | ⟨q, st₀, t, T', L, E, ce, h0, X', hL, e1, e2, ⟨u, hp, hb, hF⟩, hce, hcv, hcl, st⟩
  · cases hv
    obtain ⟨k1, k2, k3⟩ := vx_keep h0 e1 hS hA hf hL hF
    obtain ⟨t2, a1, b1⟩ := kk r u t T'.heap (locs ++ L) e1.symm (by rw [← e2]; exact X'.warmed.alike) hp hb k1 k2 k3 T' rfl X'
    exact ⟨t2, st t2 a1, b1⟩
  · obtain ⟨k1, k2, k3⟩ := vx_keep h0 e1 hS hAX hf hL hF
    obtain ⟨t2, a1, b1⟩ := kx E ce q u t T'.heap (locs ++ L) e1.symm (by rw [← e2]; exact X'.warmed.alike) hp hb k1 k2 k3 (by rw [e1]; exact hce) hcv hcl T' rfl X'
    exact ⟨t2, st.trans a1, b1⟩
theorem vx_calld {S SX : Type} {post : UInt64 → S → Prop} {px : SX → Prop} {B : S → State → Prop} {BX : String → SX → State → Prop} {AX : Nat → Prop} (hr : vx_Run p l e R s m args below meth c H locs cells slots mc ms (F0 m pc ls st0) rest (va_Qd post B A1 a) (vx_X px BX AX) free) (hS : va_S A0 H0 H locs) (hA : ∀ q, q < H.size → A1 q → A0 q) (hf : ∀ q, free q → A0 q) (hAX : ∀ q, q < H.size → AX q → A0 q)
    (kx : ∀ (E : String) (ce : Cell) (q9 : Addr) (u : SX) (t : State) (H1 : Heap) (locs1 : List Loc), t.heap = H1 → s.vm.Alike t.vm → px u → BX E u t → H.size ≤ H1.size → (∀ q : Nat, q < H.size → ¬ AX q → H1[q]? = H[q]?) → va_S A0 H0 H1 locs1 → H1[q9]? = some ce → ce.vm = .none → s.vm.findClass E = some ce.cls → vx_W p l e R s m args below meth c H1 locs1 (cells + mc) (slots + ms) Q (F0 m pc ls rest) q9)
    (kk : ∀ (r : UInt64) (u : S) (t : State) (H1 : Heap) (locs1 : List Loc), t.heap = H1 → s.vm.Alike t.vm → post r u → B u t → H.size ≤ H1.size → (∀ q : Nat, q < H.size → ¬ A1 q → H1[q]? = H[q]?) → va_S A0 H0 H1 locs1 → W p l e R s m args below meth c H1 locs1 (cells + mc) (slots + ms) Q (F0 m (pc + 3) ls (.double r :: rest))) : W p l e R s m args below meth c H locs cells slots Q (F0 m pc ls st0) := by
  intro T hT X
  rcases hr T hT X with ⟨v, st₀, t, T', L, h0, X', hL, e1, e2, ⟨⟨r, u, hv, hp, hb⟩, hF⟩, st⟩ | ⟨q, st₀, t, T', L, E, ce, h0, X', hL, e1, e2, ⟨u, hp, hb, hF⟩, hce, hcv, hcl, st⟩
  · cases hv
    obtain ⟨k1, k2, k3⟩ := vx_keep h0 e1 hS hA hf hL hF
    obtain ⟨t2, a1, b1⟩ := kk r u t T'.heap (locs ++ L) e1.symm (by rw [← e2]; exact X'.warmed.alike) hp hb k1 k2 k3 T' rfl X'
    exact ⟨t2, st t2 a1, b1⟩
  · obtain ⟨k1, k2, k3⟩ := vx_keep h0 e1 hS hAX hf hL hF
    obtain ⟨t2, a1, b1⟩ := kx E ce q u t T'.heap (locs ++ L) e1.symm (by rw [← e2]; exact X'.warmed.alike) hp hb k1 k2 k3 (by rw [e1]; exact hce) hcv hcl T' rfl X'
    exact ⟨t2, st.trans a1, b1⟩
theorem vx_callv {S SX : Type} {post : S → Prop} {px : SX → Prop} {B : S → State → Prop} {BX : String → SX → State → Prop} {AX : Nat → Prop} (hr : vx_Run p l e R s m args below meth c H locs cells slots mc ms (F0 m pc ls st0) rest (va_Qv post B A1 a) (vx_X px BX AX) free) (hS : va_S A0 H0 H locs) (hA : ∀ q, q < H.size → A1 q → A0 q) (hf : ∀ q, free q → A0 q) (hAX : ∀ q, q < H.size → AX q → A0 q)
    (kx : ∀ (E : String) (ce : Cell) (q9 : Addr) (u : SX) (t : State) (H1 : Heap) (locs1 : List Loc), t.heap = H1 → s.vm.Alike t.vm → px u → BX E u t → H.size ≤ H1.size → (∀ q : Nat, q < H.size → ¬ AX q → H1[q]? = H[q]?) → va_S A0 H0 H1 locs1 → H1[q9]? = some ce → ce.vm = .none → s.vm.findClass E = some ce.cls → vx_W p l e R s m args below meth c H1 locs1 (cells + mc) (slots + ms) Q (F0 m pc ls rest) q9)
    (kk : ∀ (u : S) (t : State) (H1 : Heap) (locs1 : List Loc), t.heap = H1 → s.vm.Alike t.vm → post u → B u t → H.size ≤ H1.size → (∀ q : Nat, q < H.size → ¬ A1 q → H1[q]? = H[q]?) → va_S A0 H0 H1 locs1 → W p l e R s m args below meth c H1 locs1 (cells + mc) (slots + ms) Q (F0 m (pc + 3) ls (rest))) : W p l e R s m args below meth c H locs cells slots Q (F0 m pc ls st0) := by
  intro T hT X
  rcases hr T hT X with ⟨v, st₀, t, T', L, h0, X', hL, e1, e2, ⟨⟨u, hv, hp, hb⟩, hF⟩, st⟩ | ⟨q, st₀, t, T', L, E, ce, h0, X', hL, e1, e2, ⟨u, hp, hb, hF⟩, hce, hcv, hcl, st⟩
  · cases hv
    obtain ⟨k1, k2, k3⟩ := vx_keep h0 e1 hS hA hf hL hF
    obtain ⟨t2, a1, b1⟩ := kk u t T'.heap (locs ++ L) e1.symm (by rw [← e2]; exact X'.warmed.alike) hp hb k1 k2 k3 T' rfl X'
    exact ⟨t2, st t2 a1, b1⟩
  · obtain ⟨k1, k2, k3⟩ := vx_keep h0 e1 hS hAX hf hL hF
    obtain ⟨t2, a1, b1⟩ := kx E ce q u t T'.heap (locs ++ L) e1.symm (by rw [← e2]; exact X'.warmed.alike) hp hb k1 k2 k3 (by rw [e1]; exact hce) hcv hcl T' rfl X'
    exact ⟨t2, st.trans a1, b1⟩
/-- caught by the row x of this method's table; the rows ahead don't take it -/
theorem vx_catch {own name : String} {E : String} {ce : Cell} {q : Addr} (hown : s.vm.findClass own = some m.cls) (pre : List ExceptionTableEntry) (x : ExceptionTableEntry) (suf : List ExceptionTableEntry) (hsplit : c.exceptionTable.toList = pre ++ x :: suf)
    (hpass : ∀ z ∈ pre, covers z pc = false ∨ (z.catchType ≠ 0 ∧ ∃ nm : String, (Cond.classLink own z.catchType nm).before args s = true ∧ va_Nc E nm s)) (hx : covers x pc = true) (h0 : x.catchType ≠ 0)
    (hlink : (Cond.classLink own x.catchType name).before args s = true) (hcast : (Cond.castable E name).before args s = true) (hcell : H[q]? = some ce) (hv : ce.vm = .none) (hcl : s.vm.findClass E = some ce.cls)
    (kk : W p l e R s m args below meth c H locs cells slots Q (F0 m x.handlerPc ls [.ref q])) : vx_W p l e R s m args below meth c H locs cells slots Q (F0 m pc ls rest) q := by
  intro T hT X
  have hpl : e.platform.magicAccessors = ({} : Platform).magicAccessors := by rw [X.admits.platform]
  obtain ⟨c3, c4, hc3, hc4, hasg⟩ := Cond.castable_spec hcast
  cases Option.some.inj (hc3.symm.trans hcl)
  obtain ⟨c5, hc5, hcl5⟩ := Cond.classLink_spec hown hlink e.platform hpl
  cases Option.some.inj (hc4.symm.trans hc5)
  obtain ⟨vm', X', st⟩ := X.thenCaughtThrough q (g := F0 m pc ls rest) rfl (Steps.refl _) (by rw [hT]; exact hcell) (by rw [hv]; rfl) (by obtain ⟨k9, h9, -⟩ := Vm.findClass_spec hcl; exact ⟨k9, h9⟩) pre x suf hsplit
    (fun z hz => by
      rcases hpass z hz with h | ⟨hz0, nm, hl1, hn1⟩
      · exact Or.inl h
      · obtain ⟨c6, hc6, hcl6⟩ := Cond.classLink_spec hown hl1 e.platform hpl
        obtain ⟨a8, b8, h1, h2, h3⟩ := hn1
        cases Option.some.inj (h1.symm.trans hcl)
        cases Option.some.inj (h2.symm.trans hc6)
        exact Or.inr ⟨hz0, _, hcl6, h3⟩) hx (Or.inr ⟨h0, c4, hcl5, hasg⟩)
  obtain ⟨t, a1, b1⟩ := kk (T.setVm vm') hT X'
  exact ⟨t, st.trans a1, b1⟩
end Rows
section Ends
variable {p : Program} {l : Launch} {e : Env} {R : Room} {s : State} {m : MethodId} {args : Array Value} {below : List Frame} {meth : Method} {c : Code} {H : Heap} {locs : List Loc} {cells slots : Nat} {Q : State → Prop}
variable {mc ms : Nat} {free : Addr → Prop} {A0 A1 : Nat → Prop} {H0 : Heap} {a : Array Value} {ls : Array Slot} {st0 rest : List Value}
variable {Qc : Array Value → State → Outcome → State → Prop} {XC : String → State → State → Prop}
/-- what a body that may throw owes at its end -/
def vx_MQ (below : List Frame) (Qc : Array Value → State → Outcome → State → Prop) (XC : String → State → State → Prop) (a : Array Value) (s : State) (mc ms : Nat) (free : Addr → Prop) : State → Prop := fun t =>
  ∃ o, t.status = .running ∧ Ended t below o ∧ vx_Q Qc XC mc ms free a s o t
theorem vx_ret {g : JFrame} {mc ms : Nat} (k : W p l e R s m args below meth c H locs cells slots (MQ below Qc args s mc ms free) g) : W p l e R s m args below meth c H locs cells slots (vx_MQ below Qc XC args s mc ms free) g := by
  intro T hT X
  obtain ⟨t, a1, o, b1, b2, b3, b4⟩ := k T hT X
  exact ⟨t, a1, o, b1, b2, Or.inl ⟨b3, b4⟩⟩
/-- not caught here: it goes on to the caller -/
theorem vx_widen {g : JFrame} {q : Addr} {k n : Nat} (h1 : cells ≤ k) (h2 : slots ≤ n) (kk : vx_W p l e R s m args below meth c H locs k n Q g q) : vx_W p l e R s m args below meth c H locs cells slots Q g q := fun T hT X => kk T hT (stand_widen X h1 h2)
theorem vx_out {pc : Nat} {E : String} {ce : Cell} {q : Addr} {mc ms : Nat} (hout : ∀ x ∈ c.exceptionTable.toList, covers x pc = false) (hlocks : meth.locks = false) (hcell : H[q]? = some ce) (hv : ce.vm = .none) (hcl : s.vm.findClass E = some ce.cls)
    (hx : ∀ t : State, t.heap = H → s.vm.Alike t.vm → XC E s t) (hf : ∀ z ∈ locs, free z.base) (hc : cells ≤ mc) (hs : slots ≤ ms) :
    vx_W p l e R s m args below meth c H locs cells slots (vx_MQ below Qc XC args s mc ms free) (F0 m pc ls rest) q := by
  intro T hT X
  obtain ⟨st1, hrun, hend, hW, hsm⟩ := X.leaveThrown q (g := F0 m pc ls rest) rfl rfl rfl hout hlocks
  have hcell9 : (T.setFrames (.throwing q :: below)).heap[q]? = some ce := by
    show T.heap[q]? = some ce
    rw [hT]; exact hcell
  exact ⟨_, st1, .threw q, hrun, hend, Or.inr ⟨q, rfl, E, ce, locs, hx _ hT hW.alike, hcell9, hv, hcl, hW, hsm.mono hc hs, hf⟩⟩
theorem vx_frame {U : State} {k n : Nat} (h : s.sameButNew ({ U with vm := s.vm } : State) locs k n) : s.heap.size ≤ U.heap.size ∧ ∀ q : Nat, q < s.heap.size → (∀ z ∈ locs, z.base ≠ q) → U.heap[q]? = s.heap[q]? := by
  obtain ⟨-, h2, -, -, -, h6⟩ := h
  refine ⟨h2, fun q hq hz => ?_⟩
  obtain ⟨c9, e1, e2, e3, e4⟩ := h6 q _ (Array.getElem?_eq_getElem hq)
  have hs : c9.slots = (s.heap[q]).slots := Array.ext_getElem? fun i => e4 i fun hm => hz _ hm rfl
  have h9 : c9 = s.heap[q] := by
    rw [hs] at e2
    exact e2
  have e5 : U.heap[q]? = some c9 := e1
  rw [e5, h9, Array.getElem?_eq_getElem hq]
/-- the words of a throw but the four that speak of the heap -/
def vx_no (w : Cond) : Bool := decide (w ≠ .isRef (.static Bundle.tN "UNASSIGNED_STACK" Bundle.steD)) && decide (w ≠ .isRef (.static Bundle.tN "SUPPRESSED_SENTINEL" Bundle.listD)) && decide (w ≠ .laysStatic Bundle.tN "UNASSIGNED_STACK" Bundle.steD) && decide (w ≠ .laysStatic Bundle.tN "SUPPRESSED_SENTINEL" Bundle.listD)
def vx_at0 (own : String) (ic : Nat) (X : String) (names : List String) : List Cond := (Bundle.ownAtoms0 own ic X names).filter vx_no
def vx_atS (own : String) (ic : Nat) (X : String) (names : List String) : List Cond := (Bundle.ownAtoms own ic X names).filter vx_no
/-- a word that the tables alone decide, or a good one -/
def vx_ot (w : Cond) : Bool := w.onTables || goodWord w
theorem vx_ot_at {args a' : Array Value} {s U : State} {w : Cond} (hW : s.WarmedH U.vm) (hvm : s.vm = U.vm) (hg : vx_ot w = true) (h : w.before args s = true) : w.before a' U = true := by
  simp only [vx_ot, Bool.or_eq_true] at hg
  rcases hg with hg | hg
  · exact va_tabs hg hvm h
  · exact word_at hW (good_of_word hg) h
/-- a list's words: the good ones out of the method's own list, the others by premises of their own -/
theorem vx_hat {args : Array Value} {s : State} {L B : List Cond} (h1 : ∀ w ∈ L.filter goodWord, w.before args s = true) (h2 : ∀ w ∈ L.filter (fun w => !goodWord w), w ∈ B) (h3 : ∀ w ∈ B, w.before args s = true) : ∀ w ∈ L, w.before args s = true := by
  intro w hw
  by_cases g : goodWord w = true
  · exact h1 w (List.mem_filter.mpr ⟨hw, g⟩)
  · refine h3 w (h2 w (List.mem_filter.mpr ⟨hw, ?_⟩))
    show (!goodWord w) = true
    cases hgw : goodWord w
    · rfl
    · exact absurd hgw g
theorem vx_c {args : Array Value} {s : State} {w : Cond} {B : List Cond} (h : w.before args s = true) (t : ∀ w ∈ B, w.before args s = true) : ∀ w' ∈ w :: B, w'.before args s = true := fun w' h' => (List.mem_cons.mp h').elim (fun e => by rw [e]; exact h) (t w')
theorem vx_n {args : Array Value} {s : State} : ∀ w ∈ ([] : List Cond), w.before args s = true := fun _ h => nomatch h
theorem vx_own {args : Array Value} {s : State} {L : List Cond} (h1 : ∀ w ∈ L.filter vx_no, w.before args s = true)
    (hU : (Cond.isRef (.static Bundle.tN "UNASSIGNED_STACK" Bundle.steD)).before args s = true) (hN : (Cond.isRef (.static Bundle.tN "SUPPRESSED_SENTINEL" Bundle.listD)).before args s = true)
    (lU : (Cond.laysStatic Bundle.tN "UNASSIGNED_STACK" Bundle.steD).before args s = true) (lN : (Cond.laysStatic Bundle.tN "SUPPRESSED_SENTINEL" Bundle.listD).before args s = true) : ∀ w ∈ L, w.before args s = true := by
  intro w hw
  by_cases e1 : w = .isRef (.static Bundle.tN "UNASSIGNED_STACK" Bundle.steD)
  · rw [e1]; exact hU
  · by_cases e2 : w = .isRef (.static Bundle.tN "SUPPRESSED_SENTINEL" Bundle.listD)
    · rw [e2]; exact hN
    · by_cases e3 : w = .laysStatic Bundle.tN "UNASSIGNED_STACK" Bundle.steD
      · rw [e3]; exact lU
      · by_cases e4 : w = .laysStatic Bundle.tN "SUPPRESSED_SENTINEL" Bundle.listD
        · rw [e4]; exact lN
        · exact h1 w (List.mem_filter.mpr ⟨hw, by unfold vx_no; rw [decide_eq_true e1, decide_eq_true e2, decide_eq_true e3, decide_eq_true e4]; rfl⟩)
/-- where a static field lies, its class's statics cell in H -/
def vx_L (C n d : String) (A : Nat → Prop) (U : State) (H : Heap) : Prop := ∃ (c : ClassId) (k : Class) (i : Nat) (f : Field) (a : Nat) (cell : Cell), U.vm.findClass C = some c ∧ U.fieldFound? C n d = some (c, k, i, f) ∧ f.isStatic = true ∧ k.statics = some a ∧ H[a]? = some cell ∧ cell.vm.isStatics = true ∧ cell.cls = c ∧ f.slot < cell.slots.size ∧ k.staticTypes[f.slot]? = some f.type ∧ ¬ A a
theorem vx_L.moved {C n d : String} {A : Nat → Prop} {u U : State} {H : Heap} (hvm : u.vm.Alike U.vm) (h : vx_L C n d A u H) : vx_L C n d A U H := by
  obtain ⟨c, k, i, f, a, cell, h1, h2, h3, h4, h5, h6, h7, h8, h9, h10⟩ := h
  obtain ⟨k', hi', he⟩ := State.fieldFound?_setVm hvm h2
  exact ⟨c, k', i, f, a, cell, by rw [hvm.findClass]; exact h1, hi', h3, by rw [he]; exact h4, h5, h6, h7, h8, by rw [he]; exact h9, h10⟩
theorem vx_L.kept {C n d : String} {A : Nat → Prop} {U : State} {H H1 : Heap} (h : vx_L C n d A U H) (hq : ∀ a : Nat, a < H.size → ¬ A a → H1[a]? = H[a]?) : vx_L C n d A U H1 := by
  obtain ⟨c, k, i, f, a, cell, h1, h2, h3, h4, h5, h6, h7, h8, h9, h10⟩ := h
  exact ⟨c, k, i, f, a, cell, h1, h2, h3, h4, by rw [hq a (Array.getElem?_eq_some_iff.mp h5).1 h10]; exact h5, h6, h7, h8, h9, h10⟩
theorem vx_L.narrow {C n d : String} {A B : Nat → Prop} {U : State} {H : Heap} (h : vx_L C n d A U H) (hAB : ∀ q, B q → A q) : vx_L C n d B U H := by
  obtain ⟨c, k, i, f, a, cell, h1, h2, h3, h4, h5, h6, h7, h8, h9, h10⟩ := h
  exact ⟨c, k, i, f, a, cell, h1, h2, h3, h4, h5, h6, h7, h8, h9, fun z => h10 (hAB _ z)⟩
theorem vx_L.word {C n d : String} {A : Nat → Prop} {s : State} {args : Array Value} (h : vx_L C n d A s s.heap) : (Cond.laysStatic C n d).before args s = true := by
  obtain ⟨c, k, i, f, a, cell, h1, h2, h3, h4, h5, h6, h7, h8, h9, -⟩ := h
  show (Cond.laysStatic C n d).holds args s none s [] = true
  exact Cond.laysStatic_of h1 h2 h3 h4 h5 h6 h7 h8 h9
/-- .. and what it holds: null or some reference -/
def vx_Zq (C n d : String) (A : Nat → Prop) (U : State) (H : Heap) : Prop := va_Zq C n d A U H ∧ vx_L C n d A U H
theorem vx_Zq.moved {C n d : String} {A : Nat → Prop} {u U : State} {H : Heap} (hvm : u.vm.Alike U.vm) (h : vx_Zq C n d A u H) : vx_Zq C n d A U H := ⟨va_Zq.moved hvm h.1, vx_L.moved hvm h.2⟩
theorem vx_Zq.kept {C n d : String} {A : Nat → Prop} {U : State} {H H1 : Heap} (h : vx_Zq C n d A U H) (hq : ∀ a : Nat, a < H.size → ¬ A a → H1[a]? = H[a]?) : vx_Zq C n d A U H1 := ⟨va_Zq.kept h.1 hq, vx_L.kept h.2 hq⟩
theorem vx_Zq.narrow {C n d : String} {A B : Nat → Prop} {U : State} {H : Heap} (h : vx_Zq C n d A U H) (hAB : ∀ q, B q → A q) : vx_Zq C n d B U H := ⟨va_Zq.narrow h.1 hAB, vx_L.narrow h.2 hAB⟩
theorem vx_Zqof {args : Array Value} {s : State} {C n d : String} {A : Nat → Prop} (hl : (Cond.laysStatic C n d).before args s = true) (hini : (Cond.initialized C).before args s = true) (h : (Cond.isRef (.static C n d)).before args s = true) (hA : ∀ a : Nat, a < s.heap.size → ¬ A a) : vx_Zq C n d A s s.heap := by
  refine ⟨va_Zqof hl hini h hA, ?_⟩
  obtain ⟨c, k, i, f, a, cell, h1, h2, h3, h4, h5, h6, h7, h8, h9⟩ := Cond.laysStatic_spec hl
  exact ⟨c, k, i, f, a, cell, h1, h2, h3, h4, h5, h6, h7, h8, h9, hA a (Array.getElem?_eq_some_iff.mp h5).1⟩
theorem vx_isRef {C n d : String} {v : Value} {A : Nat → Prop} {s : State} {args : Array Value} (h : va_Z C n d v A s s.heap) (hv : v.isRef = true) : (Cond.isRef (.static C n d)).before args s = true := by
  obtain ⟨cf, kf, fi, f, a, cell, h1, h2, h3, h4, h5, h6, h7, -⟩ := h
  have he : (Term.static C n d).eval args s none [] s = some v := by
    simp [Term.eval, State.fieldNamed?, h1, h2, h4, h5, h6, h7]
  simp only [Cond.before, Cond.holds, Cond.value, he]
  cases v <;> simp_all [Value.isRef]
theorem vx_isRefq {C n d : String} {A : Nat → Prop} {s : State} {args : Array Value} (h : va_Zq C n d A s s.heap) : (Cond.isRef (.static C n d)).before args s = true := by
  rcases h with h | ⟨t, h⟩
  · exact vx_isRef h rfl
  · exact vx_isRef h rfl
/-- the same frame, seen from here: as if the method were called anew in this heap -/
theorem vx_rebase {T : State} (X : Stand p l e R s m args below meth c T locs cells slots) {R' : Room} (hf : R'.frames ≤ R.frames) (hl : R'.locals ≤ R.locals) (hc : cells + R'.cells ≤ R.cells) (hs : slots + R'.slots ≤ R.slots) :
    Stand p l e R' ((T.setVm s.vm).setFrames (.invoking m args :: below)) m args below meth c T [] 0 0 := by
  have htop : (T.setVm s.vm).topJava?.isSome := X.here.top
  have hF : ((T.setVm s.vm).setFrames (.invoking m args :: below)).frames = .invoking m args :: below := State.frames_setFrames _ (State.cur_lt_of_top htop)
  obtain ⟨g₀, hg0⟩ := Option.isSome_iff_exists.mp htop
  obtain ⟨r, hr⟩ := State.topJava?_eq_some.mp hg0
  have hl9 : e.platform.stackLimits (T.setVm s.vm).me = e.platform.stackLimits s.me := X.limits
  have hb9 : (T.setVm s.vm).me.stackBytes = s.me.stackBytes := X.bytes
  refine ⟨X.admits, X.cas, X.clock, hF, ?_, X.hears, X.method, X.code, X.here, X.tail, X.warmed, ?_, ?_, ?_⟩
  · have h := X.room
    have hU : ((T.setVm s.vm).setFrames (.invoking m args :: below)).localsInUse = s.localsInUse := by
      rw [State.localsInUse_invoking hF (meth := meth) (c := c) X.method X.code, State.localsInUse_invoking X.frames X.method X.code]
    simp only [State.hasRoom, Bool.and_eq_true, decide_eq_true_eq] at h ⊢
    obtain ⟨⟨⟨⟨h1, h2, h3, h4, h5, h6⟩, h7⟩, h8⟩, h9⟩ := h
    rw [X.frames, List.length_cons] at h2 h3
    have q1 := X.heapSize
    have q2 := X.used
    simp only [hF, hU, List.length_cons, State.stackLimits_setFrames, State.stackBytes_setFrames, hl9, hb9]
    refine ⟨⟨⟨⟨by omega, by omega, by omega, by omega, by omega, h6⟩, ?_⟩, ?_⟩, X.book⟩
    · show T.heap.size + R'.cells ≤ e.platform.maxCells
      omega
    · show T.slotsUsed + R'.slots ≤ e.platform.maxSlots
      omega
  · rw [State.stackLimits_setFrames]; rfl
  · rw [State.stackBytes_setFrames]; rfl
  · refine ⟨?_, Nat.le_refl _, Nat.le_refl _, ?_, ?_, fun a c9 h9 => ⟨c9, h9, rfl, rfl, fun _ _ => rfl⟩⟩
    · obtain ⟨t, ht, -⟩ := State.frames_cons hr
      show T.setVm s.vm = { ((T.setVm s.vm).setFrames (.invoking m args :: below)).setFrames (T.setVm s.vm).frames with heap := T.heap, slotsUsed := T.slotsUsed }
      rw [State.setFrames_setFrames, State.setFrames_self ht]
      rfl
    · show T.slotsUsed = T.slotsUsed + ((T.heap.toList.drop T.heap.size).map (·.slots.size)).sum
      rw [List.drop_eq_nil_of_le (Nat.le_of_eq Array.length_toList)]
      rfl
    · show ((T.heap.toList.drop T.heap.size).map (·.slots.size)).sum ≤ 0
      rw [List.drop_eq_nil_of_le (Nat.le_of_eq Array.length_toList)]
      exact Nat.le_refl _
/-- 'throw new E()': new; dup; invokespecial; athrow -/
theorem vx_throw0 {cc : ByteArray} {pc : Nat} (hexec : p.tables.exec = Jvm.exec) (hb : c.code = cc) (hl : l.stackTraces = false) {own cls : String} {names : List String} {ik ic mc ms : Nat} {A : Nat → Prop}
    (hown : s.vm.findClass own = some m.cls) (hcls : Bundle.fit cls = true) (hnames : ∀ n ∈ names, Bundle.fit n = true)
    (hk : (Cond.classLink own ik cls).before args s = true) (hini : (Cond.initialized cls).before args s = true) (hat : ∀ w ∈ vx_at0 own ic cls names, w.before args s = true)
    (hgood : ∀ w ∈ Cond.classLink own ik cls :: Cond.initialized cls :: vx_at0 own ic cls names, vx_ot w = true)
    (hU : vx_Zq Bundle.tN "UNASSIGNED_STACK" Bundle.steD A s s.heap) (hN : vx_Zq Bundle.tN "SUPPRESSED_SENTINEL" Bundle.listD A s s.heap) (hS : va_S A s.heap H locs) (hsize : ls.size = c.maxLocals)
    (d0 : decode cc pc = .ok (.new ik, 3)) (d3 : decode cc (pc + 3) = .ok (.dup, 1)) (d4 : decode cc (pc + 4) = .ok (.invokespecial ic, 3)) (d7 : decode cc (pc + 7) = .ok (.athrow, 1))
    (hout : ∀ x ∈ c.exceptionTable.toList, covers x (pc + 7) = false)
    (hRframes : names.length + 3 < R.frames) (hRlocals : (rest.map fun v => v.category).sum + (13 * (names.length + 1) + 42) ≤ R.locals) (hRcells : cells + 1 ≤ R.cells) (hRslots : slots + 6 ≤ R.slots) (hlocks : meth.locks = false)
    (hx : ∀ t : State, s.vm.Alike t.vm → H.size ≤ t.heap.size → (∀ q : Nat, q < H.size → t.heap[q]? = H[q]?) → XC cls s t)
    (hf : ∀ z ∈ locs, free z.base) (hc : cells + 1 ≤ mc) (hs : slots + 6 ≤ ms) :
    W p l e R s m args below meth c H locs cells slots (vx_MQ below Qc XC args s mc ms free) (F0 m pc ls rest) := by
  intro T hT X
  have htr : e.platform.stackTraces = false := (show e.platform.stackTraces = l.stackTraces by rw [X.admits.platform]).trans hl
  have Y := vx_rebase X (R' := { frames := R.frames, locals := R.locals, cells := 1, slots := 6 }) (Nat.le_refl _) (Nat.le_refl _) hRcells hRslots
  obtain ⟨s', hA⟩ : ∃ z, z = (T.setVm s.vm).setFrames (.invoking m args :: below) := ⟨_, rfl⟩
  rw [← hA] at Y
  have hvm : s'.vm = s.vm := by rw [hA]; rfl
  have hhp : s'.heap = H := by rw [hA]; exact hT
  have hW0 : s.WarmedH s'.vm := by rw [hvm]; exact State.WarmedH.refl s
  have hat' : ∀ w ∈ vx_at0 own ic cls names, w.before args s' = true := fun w hw => vx_ot_at hW0 hvm.symm (hgood w (List.mem_cons_of_mem _ (List.mem_cons_of_mem _ hw))) (hat w hw)
  have hk' : (Cond.classLink own ik cls).before args s' = true := vx_ot_at hW0 hvm.symm (hgood _ List.mem_cons_self) hk
  have hini' : (Cond.initialized cls).before args s' = true := vx_ot_at hW0 hvm.symm (hgood _ (List.mem_cons_of_mem _ List.mem_cons_self)) hini
  have hU' : vx_Zq Bundle.tN "UNASSIGNED_STACK" Bundle.steD A s' s'.heap := by rw [hhp]; exact vx_Zq.moved hW0.alike (hU.kept hS.2.1)
  have hN' : vx_Zq Bundle.tN "SUPPRESSED_SENTINEL" Bundle.listD A s' s'.heap := by rw [hhp]; exact vx_Zq.moved hW0.alike (hN.kept hS.2.1)
  have h : ∀ w ∈ Bundle.ownAtoms0 own ic cls names, w.before args s' = true := vx_own hat' (vx_isRefq hU'.1) (vx_isRefq hN'.1) hU'.2.word hN'.2.word
  have hown' : s'.vm.findClass own = some m.cls := by rw [hvm]; exact hown
  have hins : (Cond.instantiable cls 6).before args s' = true := h _ (by simp [Bundle.ownAtoms0])
  obtain ⟨vm₁, cX, kX, hfX, hkX, -, -, X₁, st1⟩ := Y.newCold hexec (own := own) (C := cls) (index := ik) (n := 6) hown' hk' hins hini'
    (g := F0 m pc ls rest) rfl (by rw [hb]; exact d0) (Nat.le_refl _) (Nat.le_refl _)
  generalize hT1 : (T.setVm vm₁).pushCell { cls := cX, slots := kX.instanceTypes.map defaultValue, vm := .none } = T1 at X₁ st1
  have hcat : (Value.ref T.heap.size).category = 1 := rfl
  have hcellA : T1.heap[T.heap.size]? = some (freshCell cX kX) := by rw [← hT1]; exact State.heap_pushCell_size _ _
  have d3' : decode c.code (pc + 3) = .ok (.dup, 1) := by rw [hb]; exact d3
  obtain ⟨U, hsteps, hrun, hend, hW, hsame, ce, hce, hO⟩ := X₁.ctorThrow0 hexec htr (own := own) (cls := cls) (names := names) (ic := ic) hown' hcls hnames h (fun x hx => nomatch hx) hfX hkX hcellA (by rw [hhp, hT]; exact Nat.le_refl _)
    (g := { method := m, pc := pc + 4, locals := ls, stack := .ref T.heap.size :: .ref T.heap.size :: rest, locked := none }) rfl hsize rfl rfl (rest := rest) rfl
    (by rw [hb]; exact d4) (by rw [hb]; exact d7) hout hRframes (by simp only [List.map_cons, List.sum_cons, hcat]; omega) hlocks
  obtain ⟨f1, f2⟩ := vx_frame hsame
  rw [hhp] at f1 f2
  have hWs : s.WarmedH U.vm := State.WarmedH.trans hW0 hW
  have hcl : s.vm.findClass cls = some ce.cls := by
    have h9 := hO.cls
    rw [hvm] at h9
    exact h9
  have hall : s.sameButNew ({ U with vm := s.vm } : State) locs mc ms := by
    subst hA
    obtain ⟨e1, e2⟩ := hsame
    rw [State.setFrames_setFrames] at e1
    have h2 : (T.setVm s.vm).sameButNew ({ U with vm := s.vm } : State) [] (0 + 1) (0 + 6) := ⟨e1, e2⟩
    have h3 := X.same.trans h2
    rw [List.append_nil] at h3
    exact h3.mono hc hs
  refine ⟨U, ?_, .threw T.heap.size, hrun, hend, Or.inr ⟨T.heap.size, rfl, cls, ce, locs, hx U hWs.alike f1 (fun q hq => f2 q hq (fun z hz => nomatch hz)), hce, hO.vm, hcl, hWs, hall, hf⟩⟩
  refine st1 _ ?_
  show Steps p.tables e below (T1.setTop { method := m, pc := pc + 3, locals := ls, stack := .ref T.heap.size :: rest, locked := none }) _
  jvm_step X₁.here [X₁.here.top, hexec, d3', Value.category]
  exact hsteps
/-- 'throw new E("text")': new; dup; ldc; invokespecial; athrow -/
theorem vx_throwS {cc : ByteArray} {pc : Nat} (hexec : p.tables.exec = Jvm.exec) (hb : c.code = cc) (hl : l.stackTraces = false) {own cls text : String} {names : List String} {ik is ic mc ms sa : Nat} {A : Nat → Prop}
    (hown : s.vm.findClass own = some m.cls) (hcls : Bundle.fit cls = true) (hnames : ∀ n ∈ names, Bundle.fit n = true)
    (hk : (Cond.classLink own ik cls).before args s = true) (hini : (Cond.initialized cls).before args s = true) (hstr : vk_R own is text sa s) (hat : ∀ w ∈ vx_atS own ic cls names, w.before args s = true)
    (hgood : ∀ w ∈ Cond.classLink own ik cls :: Cond.initialized cls :: vx_atS own ic cls names, vx_ot w = true)
    (hU : vx_Zq Bundle.tN "UNASSIGNED_STACK" Bundle.steD A s s.heap) (hN : vx_Zq Bundle.tN "SUPPRESSED_SENTINEL" Bundle.listD A s s.heap) (hS : va_S A s.heap H locs) (hsize : ls.size = c.maxLocals)
    (d0 : decode cc pc = .ok (.new ik, 3)) (d3 : decode cc (pc + 3) = .ok (.dup, 1)) (d4 : decode cc (pc + 4) = .ok (.ldc is, 2)) (d6 : decode cc (pc + 6) = .ok (.invokespecial ic, 3)) (d9 : decode cc (pc + 9) = .ok (.athrow, 1))
    (hout : ∀ x ∈ c.exceptionTable.toList, covers x (pc + 9) = false)
    (hRframes : names.length + 3 < R.frames) (hRlocals : (rest.map fun v => v.category).sum + (13 * (names.length + 1) + 43) ≤ R.locals) (hRcells : cells + 1 ≤ R.cells) (hRslots : slots + 6 ≤ R.slots) (hlocks : meth.locks = false)
    (hx : ∀ t : State, s.vm.Alike t.vm → H.size ≤ t.heap.size → (∀ q : Nat, q < H.size → t.heap[q]? = H[q]?) → XC cls s t)
    (hf : ∀ z ∈ locs, free z.base) (hc : cells + 1 ≤ mc) (hs : slots + 6 ≤ ms) :
    W p l e R s m args below meth c H locs cells slots (vx_MQ below Qc XC args s mc ms free) (F0 m pc ls rest) := by
  intro T hT X
  have htr : e.platform.stackTraces = false := (show e.platform.stackTraces = l.stackTraces by rw [X.admits.platform]).trans hl
  have Y := vx_rebase X (R' := { frames := R.frames, locals := R.locals, cells := 1, slots := 6 }) (Nat.le_refl _) (Nat.le_refl _) hRcells hRslots
  obtain ⟨s', hA⟩ : ∃ z, z = (T.setVm s.vm).setFrames (.invoking m args :: below) := ⟨_, rfl⟩
  rw [← hA] at Y
  have hvm : s'.vm = s.vm := by rw [hA]; rfl
  have hhp : s'.heap = H := by rw [hA]; exact hT
  have hW0 : s.WarmedH s'.vm := by rw [hvm]; exact State.WarmedH.refl s
  have hat' : ∀ w ∈ vx_atS own ic cls names, w.before args s' = true := fun w hw => vx_ot_at hW0 hvm.symm (hgood w (List.mem_cons_of_mem _ (List.mem_cons_of_mem _ hw))) (hat w hw)
  have hk' : (Cond.classLink own ik cls).before args s' = true := vx_ot_at hW0 hvm.symm (hgood _ List.mem_cons_self) hk
  have hini' : (Cond.initialized cls).before args s' = true := vx_ot_at hW0 hvm.symm (hgood _ (List.mem_cons_of_mem _ List.mem_cons_self)) hini
  have hU' : vx_Zq Bundle.tN "UNASSIGNED_STACK" Bundle.steD A s' s'.heap := by rw [hhp]; exact vx_Zq.moved hW0.alike (hU.kept hS.2.1)
  have hN' : vx_Zq Bundle.tN "SUPPRESSED_SENTINEL" Bundle.listD A s' s'.heap := by rw [hhp]; exact vx_Zq.moved hW0.alike (hN.kept hS.2.1)
  have h : ∀ w ∈ Bundle.ownAtoms own ic cls names, w.before args s' = true := vx_own hat' (vx_isRefq hU'.1) (vx_isRefq hN'.1) hU'.2.word hN'.2.word
  have hown' : s'.vm.findClass own = some m.cls := by rw [hvm]; exact hown
  have hins : (Cond.instantiable cls 6).before args s' = true := h _ (by simp [Bundle.ownAtoms])
  obtain ⟨vm₁, cX, kX, hfX, hkX, -, -, X₁, st1⟩ := Y.newCold hexec (own := own) (C := cls) (index := ik) (n := 6) hown' hk' hins hini'
    (g := F0 m pc ls rest) rfl (by rw [hb]; exact d0) (Nat.le_refl _) (Nat.le_refl _)
  generalize hT1 : (T.setVm vm₁).pushCell { cls := cX, slots := kX.instanceTypes.map defaultValue, vm := .none } = T1 at X₁ st1
  have hcat : (Value.ref T.heap.size).category = 1 := rfl
  have hcellA : T1.heap[T.heap.size]? = some (freshCell cX kX) := by rw [← hT1]; exact State.heap_pushCell_size _ _
  have d3' : decode c.code (pc + 3) = .ok (.dup, 1) := by rw [hb]; exact d3
  have d4' : decode c.code (pc + 4) = .ok (.ldc is, 2) := by rw [hb]; exact d4
  have hstr' : vk_R own is text sa s' := vk_R.warm hW0 hstr
  obtain ⟨U, hsteps, hrun, hend, hW, hsame, ce, hce, hO⟩ := X₁.ctorThrowS hexec htr (own := own) (cls := cls) (names := names) (ic := ic) hown' hcls hnames h (fun x hx => nomatch hx) hfX hkX hcellA (by rw [hhp, hT]; exact Nat.le_refl _) (msg := .ref sa) rfl
    (g := { method := m, pc := pc + 6, locals := ls, stack := .ref sa :: .ref T.heap.size :: .ref T.heap.size :: rest, locked := none }) rfl hsize rfl rfl (rest := rest) rfl
    (by rw [hb]; exact d6) (by rw [hb]; exact d9) hout hRframes (by simp only [List.map_cons, List.sum_cons, hcat]; omega) hlocks
  obtain ⟨f1, f2⟩ := vx_frame hsame
  rw [hhp] at f1 f2
  have hWs : s.WarmedH U.vm := State.WarmedH.trans hW0 hW
  have hcl : s.vm.findClass cls = some ce.cls := by
    have h9 := hO.cls
    rw [hvm] at h9
    exact h9
  have hall : s.sameButNew ({ U with vm := s.vm } : State) locs mc ms := by
    subst hA
    obtain ⟨e1, e2⟩ := hsame
    rw [State.setFrames_setFrames] at e1
    have h2 : (T.setVm s.vm).sameButNew ({ U with vm := s.vm } : State) [] (0 + 1) (0 + 6) := ⟨e1, e2⟩
    have h3 := X.same.trans h2
    rw [List.append_nil] at h3
    exact h3.mono hc hs
  refine ⟨U, ?_, .threw T.heap.size, hrun, hend, Or.inr ⟨T.heap.size, rfl, cls, ce, locs, hx U hWs.alike f1 (fun q hq => f2 q hq (fun z hz => nomatch hz)), hce, hO.vm, hcl, hWs, hall, hf⟩⟩
  refine st1 _ ?_
  show Steps p.tables e below (T1.setTop { method := m, pc := pc + 3, locals := ls, stack := .ref T.heap.size :: rest, locked := none }) _
  jvm_step X₁.here [X₁.here.top, hexec, d3', Value.category]
  exact X₁.ldcString hexec (own := own) (text := text) (index := is) (a := sa) hown' hstr'.1 hstr'.2
    (g := { method := m, pc := pc + 4, locals := ls, stack := .ref T.heap.size :: .ref T.heap.size :: rest, locked := none }) rfl d4' _ hsteps
/-- 'throw new E("text")', the text by a wide index -/
theorem vx_throwSW {cc : ByteArray} {pc : Nat} (hexec : p.tables.exec = Jvm.exec) (hb : c.code = cc) (hl : l.stackTraces = false) {own cls text : String} {names : List String} {ik is ic mc ms sa : Nat} {A : Nat → Prop}
    (hown : s.vm.findClass own = some m.cls) (hcls : Bundle.fit cls = true) (hnames : ∀ n ∈ names, Bundle.fit n = true)
    (hk : (Cond.classLink own ik cls).before args s = true) (hini : (Cond.initialized cls).before args s = true) (hstr : vk_R own is text sa s) (hat : ∀ w ∈ vx_atS own ic cls names, w.before args s = true)
    (hgood : ∀ w ∈ Cond.classLink own ik cls :: Cond.initialized cls :: vx_atS own ic cls names, vx_ot w = true)
    (hU : vx_Zq Bundle.tN "UNASSIGNED_STACK" Bundle.steD A s s.heap) (hN : vx_Zq Bundle.tN "SUPPRESSED_SENTINEL" Bundle.listD A s s.heap) (hS : va_S A s.heap H locs) (hsize : ls.size = c.maxLocals)
    (d0 : decode cc pc = .ok (.new ik, 3)) (d3 : decode cc (pc + 3) = .ok (.dup, 1)) (d4 : decode cc (pc + 4) = .ok (.ldc_w is, 3)) (d7 : decode cc (pc + 7) = .ok (.invokespecial ic, 3)) (d10 : decode cc (pc + 10) = .ok (.athrow, 1))
    (hout : ∀ x ∈ c.exceptionTable.toList, covers x (pc + 10) = false)
    (hRframes : names.length + 3 < R.frames) (hRlocals : (rest.map fun v => v.category).sum + (13 * (names.length + 1) + 43) ≤ R.locals) (hRcells : cells + 1 ≤ R.cells) (hRslots : slots + 6 ≤ R.slots) (hlocks : meth.locks = false)
    (hx : ∀ t : State, s.vm.Alike t.vm → H.size ≤ t.heap.size → (∀ q : Nat, q < H.size → t.heap[q]? = H[q]?) → XC cls s t)
    (hf : ∀ z ∈ locs, free z.base) (hc : cells + 1 ≤ mc) (hs : slots + 6 ≤ ms) :
    W p l e R s m args below meth c H locs cells slots (vx_MQ below Qc XC args s mc ms free) (F0 m pc ls rest) := by
  intro T hT X
  have htr : e.platform.stackTraces = false := (show e.platform.stackTraces = l.stackTraces by rw [X.admits.platform]).trans hl
  have Y := vx_rebase X (R' := { frames := R.frames, locals := R.locals, cells := 1, slots := 6 }) (Nat.le_refl _) (Nat.le_refl _) hRcells hRslots
  obtain ⟨s', hA⟩ : ∃ z, z = (T.setVm s.vm).setFrames (.invoking m args :: below) := ⟨_, rfl⟩
  rw [← hA] at Y
  have hvm : s'.vm = s.vm := by rw [hA]; rfl
  have hhp : s'.heap = H := by rw [hA]; exact hT
  have hW0 : s.WarmedH s'.vm := by rw [hvm]; exact State.WarmedH.refl s
  have hat' : ∀ w ∈ vx_atS own ic cls names, w.before args s' = true := fun w hw => vx_ot_at hW0 hvm.symm (hgood w (List.mem_cons_of_mem _ (List.mem_cons_of_mem _ hw))) (hat w hw)
  have hk' : (Cond.classLink own ik cls).before args s' = true := vx_ot_at hW0 hvm.symm (hgood _ List.mem_cons_self) hk
  have hini' : (Cond.initialized cls).before args s' = true := vx_ot_at hW0 hvm.symm (hgood _ (List.mem_cons_of_mem _ List.mem_cons_self)) hini
  have hU' : vx_Zq Bundle.tN "UNASSIGNED_STACK" Bundle.steD A s' s'.heap := by rw [hhp]; exact vx_Zq.moved hW0.alike (hU.kept hS.2.1)
  have hN' : vx_Zq Bundle.tN "SUPPRESSED_SENTINEL" Bundle.listD A s' s'.heap := by rw [hhp]; exact vx_Zq.moved hW0.alike (hN.kept hS.2.1)
  have h : ∀ w ∈ Bundle.ownAtoms own ic cls names, w.before args s' = true := vx_own hat' (vx_isRefq hU'.1) (vx_isRefq hN'.1) hU'.2.word hN'.2.word
  have hown' : s'.vm.findClass own = some m.cls := by rw [hvm]; exact hown
  have hins : (Cond.instantiable cls 6).before args s' = true := h _ (by simp [Bundle.ownAtoms])
  obtain ⟨vm₁, cX, kX, hfX, hkX, -, -, X₁, st1⟩ := Y.newCold hexec (own := own) (C := cls) (index := ik) (n := 6) hown' hk' hins hini'
    (g := F0 m pc ls rest) rfl (by rw [hb]; exact d0) (Nat.le_refl _) (Nat.le_refl _)
  generalize hT1 : (T.setVm vm₁).pushCell { cls := cX, slots := kX.instanceTypes.map defaultValue, vm := .none } = T1 at X₁ st1
  have hcat : (Value.ref T.heap.size).category = 1 := rfl
  have hcellA : T1.heap[T.heap.size]? = some (freshCell cX kX) := by rw [← hT1]; exact State.heap_pushCell_size _ _
  have d3' : decode c.code (pc + 3) = .ok (.dup, 1) := by rw [hb]; exact d3
  have d4' : decode c.code (pc + 4) = .ok (.ldc_w is, 3) := by rw [hb]; exact d4
  have hstr' : vk_R own is text sa s' := vk_R.warm hW0 hstr
  obtain ⟨U, hsteps, hrun, hend, hW, hsame, ce, hce, hO⟩ := X₁.ctorThrowS hexec htr (own := own) (cls := cls) (names := names) (ic := ic) hown' hcls hnames h (fun x hx => nomatch hx) hfX hkX hcellA (by rw [hhp, hT]; exact Nat.le_refl _) (msg := .ref sa) rfl
    (g := { method := m, pc := pc + 7, locals := ls, stack := .ref sa :: .ref T.heap.size :: .ref T.heap.size :: rest, locked := none }) rfl hsize rfl rfl (rest := rest) rfl
    (by rw [hb]; exact d7) (by rw [hb]; exact d10) hout hRframes (by simp only [List.map_cons, List.sum_cons, hcat]; omega) hlocks
  obtain ⟨f1, f2⟩ := vx_frame hsame
  rw [hhp] at f1 f2
  have hWs : s.WarmedH U.vm := State.WarmedH.trans hW0 hW
  have hcl : s.vm.findClass cls = some ce.cls := by
    have h9 := hO.cls
    rw [hvm] at h9
    exact h9
  have hall : s.sameButNew ({ U with vm := s.vm } : State) locs mc ms := by
    subst hA
    obtain ⟨e1, e2⟩ := hsame
    rw [State.setFrames_setFrames] at e1
    have h2 : (T.setVm s.vm).sameButNew ({ U with vm := s.vm } : State) [] (0 + 1) (0 + 6) := ⟨e1, e2⟩
    have h3 := X.same.trans h2
    rw [List.append_nil] at h3
    exact h3.mono hc hs
  refine ⟨U, ?_, .threw T.heap.size, hrun, hend, Or.inr ⟨T.heap.size, rfl, cls, ce, locs, hx U hWs.alike f1 (fun q hq => f2 q hq (fun z hz => nomatch hz)), hce, hO.vm, hcl, hWs, hall, hf⟩⟩
  refine st1 _ ?_
  show Steps p.tables e below (T1.setTop { method := m, pc := pc + 3, locals := ls, stack := .ref T.heap.size :: rest, locked := none }) _
  jvm_step X₁.here [X₁.here.top, hexec, d3', Value.category]
  exact X₁.ldcStringW hexec (own := own) (text := text) (index := is) (a := sa) hown' hstr'.1 hstr'.2
    (g := { method := m, pc := pc + 4, locals := ls, stack := .ref T.heap.size :: .ref T.heap.size :: rest, locked := none }) rfl d4' _ hsteps
end Ends
section Bodies
variable {l : Launch}
theorem vx_ofW {y : MethodName} {ws ws' : List Cond} {rm : Room} {Pc : Array Value → State → Prop} {Qc : Array Value → State → Outcome → State → Prop} {XC : String → State → State → Prop} {mc ms : Nat} {free : Addr → Prop} {cc : ByteArray} {maxL : Nat} {ret : Option FieldType}
    (hy : plainName y.cls = true) (hw : ws = Cond.code y cc maxL ret :: ws')
    (body : ∀ p e s m args below meth c s₁, BodyLoose p l y (headSpec ws rm) cc maxL ret e s m args below meth c s₁ → c.maxLocals = maxL → (∀ x ∈ c.exceptionTable.toList, False) → Pc args s →
      W p l e (headSpec ws rm).room s m args below meth c s.heap [] 0 0 (vx_MQ below Qc XC args s mc ms free) (entryFrame m args maxL)) : vx_Met l y ws rm Pc Qc XC mc ms free := by
  refine MetFree.of_bodyS (code := cc) (maxLocals := maxL) (ret := ret) hy ?_ ?_
  · intro args s m h hn
    obtain ⟨meth, c, h1, h2, h3, h4, h5, h6, -, -⟩ := Cond.code_spec hn (atoms_spec (ws := ws) h _ (by rw [hw]; exact List.mem_cons_self))
    exact ⟨meth, c, h1, h2, h3, h4, h5, h6⟩
  · intro p e s m args below meth c s₁ B hml hP _
    have hh0 : s₁.heap = s.heap := by rw [B.state]; rfl
    have ht : ∀ x ∈ c.exceptionTable.toList, False := by
      obtain ⟨meth9, c9, h1, h2, -, -, -, -, h7, -⟩ := Cond.code_spec B.named (atoms_spec (ws := ws) B.pre _ (by rw [hw]; exact List.mem_cons_self))
      cases Option.some.inj (h1.symm.trans B.method)
      cases Option.some.inj (h2.symm.trans (Stand.of_body B).code)
      intro x hx
      rw [Array.isEmpty_iff.mp h7] at hx
      cases hx
    obtain ⟨t, a1, o, b1, b2, b3⟩ := body p e s m args below meth c s₁ B hml ht hP s₁ hh0 (Stand.of_body B)
    exact ⟨t, o, a1, b1, b2, b3⟩
/-- the table of a body with handlers -/
theorem vx_table {p : Program} {x y : MethodName} {S : Spec} {cc bytes : ByteArray} {maxL maxL' : Nat} {ret ret' : Option FieldType} {e : Env} {s s₁ : State} {m : MethodId} {args : Array Value} {below : List Frame} {meth : Method} {c : Code} {hh : List (Nat × Nat × Nat × Nat)}
    (B : BodyLoose p l y S cc maxL ret e s m args below meth c s₁) (h : (Cond.codeWith y bytes maxL' ret' hh).before args s = true) : c.exceptionTable.toList = tableOf hh := by
  obtain ⟨m9, meth9, c9, hn9, h1, h2, -, -, h6, -⟩ := Cond.codeWith_spec h
  cases Option.some.inj (hn9.symm.trans B.named)
  cases Option.some.inj (h1.symm.trans B.method)
  cases Option.some.inj (h2.symm.trans (Stand.of_body B).code)
  rw [← h6, table_eq]
end Bodies
end VXA
/-! ===== END ===== -/
/-! ===== BEGIN a static call of a method with an exception table ===== -/
section VXS
variable {p : Program} {l : Launch} {e : Env} {R : Room} {s : State} {m : MethodId} {args : Array Value} {below : List Frame} {meth : Method} {c : Code} {T : State} {H : Heap} {locs : List Loc} {cells slots : Nat}
abbrev vx_CSW (R : Room) (s : State) (args : Array Value) (own : String) (index : Nat) (y : MethodName) (bytes : ByteArray) (maxL : Nat) (ret : Option FieldType) (hh : List (Nat × Nat × Nat × Nat)) (ws : List Cond) (rm : Room) (mc ms n : Nat) : Prop :=
  (rm.cells = mc ∧ rm.slots = ms ∧ rm.frames + 1 ≤ R.frames ∧ 8 + (maxL + 11) + rm.locals ≤ R.locals ∧ (∀ w ∈ ws, ∀ (a' : Array Value) (U : State), s.WarmedH U.vm → w.before a' U = true) ∧ Cond.codeWith y bytes maxL ret hh ∈ ws) ∧
  (Cond.codeWith y bytes maxL ret hh).before args s = true ∧ (Cond.initialized y.cls).before args s = true ∧ (y.cls ≠ "java/lang/invoke/MethodHandle" ∧ y.cls ≠ "java/lang/invoke/VarHandle") ∧
  (∀ sig, parseMethodDescriptor y.desc = some sig → n = sig.parameters.length) ∧ (Cond.methodLink own index y).before args s = true ∧ (Cond.static y).before args s = true
theorem vx_cwSW {own : String} {index maxL mc ms : Nat} {y : MethodName} {bytes : ByteArray} {ret : Option FieldType} {hh : List (Nat × Nat × Nat × Nat)} {Ts ws ws' : List Cond} {rm : Room} (n : Nat) (ht : ∀ w ∈ Ts, w.before args s = true) (hT : GoodIn Ts (va_wsS own index y ws)) (hw : ws = Cond.codeWith y bytes maxL ret hh :: ws') (hrc : rm.cells = mc) (hrs : rm.slots = ms)
    (hd : y.cls ≠ "java/lang/invoke/MethodHandle" ∧ y.cls ≠ "java/lang/invoke/VarHandle" ∧ (parseMethodDescriptor y.desc).map (fun d => d.parameters.length) = some n) (hR : rm.frames + 1 ≤ R.frames ∧ 8 + (maxL + 11) + rm.locals ≤ R.locals) :
    vx_CSW R s args own index y bytes maxL ret hh ws rm mc ms n := by
  have ok : ∀ w ∈ va_wsS own index y ws, w.before args s = true := fun w h => ht w (hT w h).1
  have hG : GoodIn Ts ws := fun w h => hT w (by unfold va_wsS; exact List.mem_append_right _ h)
  have hc : Cond.codeWith y bytes maxL ret hh ∈ ws := by rw [hw]; exact List.mem_cons_self
  refine ⟨⟨hrc, hrs, hR.1, hR.2, pay_in ht hG, hc⟩, ht _ (hG _ hc).1, ok _ (by simp [va_wsS]), ⟨hd.1, hd.2.1⟩, fun sig h => ?_, ok _ (by simp [va_wsS]), ok _ (by simp [va_wsS])⟩
  have h2 := hd.2.2
  rw [h] at h2
  exact (Option.some.inj h2).symm
theorem vx_callSW (X : Stand p l e R s m args below meth c T locs cells slots) (hexec : p.tables.exec = Jvm.exec) {own : String} {index : Nat} {y : MethodName} {bytes : ByteArray} {maxL : Nat} {ret : Option FieldType} {hh : List (Nat × Nat × Nat × Nat)}
    (hown : s.vm.findClass own = some m.cls) (hlink : (Cond.methodLink own index y).before args s = true) (hstat : (Cond.static y).before args s = true) (hinit : (Cond.initialized y.cls).before args s = true)
    (hcode : (Cond.codeWith y bytes maxL ret hh).before args s = true) (hy : y.cls ≠ "java/lang/invoke/MethodHandle" ∧ y.cls ≠ "java/lang/invoke/VarHandle")
    {W9 : Nat} {Pre : Pt → Array Value → Prop} {Post : Pt → Array Value → Option Value → Pt → Prop} (hK : Back l R p e below s args y 3 W9 Pre Post)
    {g : JFrame} (hg : g.method = m) (hsize : g.locals.size = c.maxLocals) {argsL rest : List Value} (hlen : ∀ sig, parseMethodDescriptor y.desc = some sig → argsL.length = sig.parameters.length)
    (hstack : g.stack = argsL.reverse ++ rest) (hW : 2 * g.monitorRoom + (rest.map fun v => v.category).sum ≤ W9) (hdg : decode c.code g.pc = .ok (.invokestatic index, 3))
    (hpre : ∀ vm₁, s.WarmedH vm₁ → Pre ⟨T.setVm vm₁, locs, cells, slots⟩ argsL.toArray) :
    ∃ (v : Option Value) (vm₁ : Vm) (B : Pt), s.WarmedH vm₁ ∧ Stand p l e R s m args below meth c B.U B.locs B.cells B.slots ∧ Post ⟨T.setVm vm₁, locs, cells, slots⟩ argsL.toArray v B ∧
      ∀ target, Steps p.tables e below (B.U.setTop { g with pc := g.pc + 3, stack := v.toList ++ rest }) target → Steps p.tables e below (T.setTop g) target := by
  obtain ⟨mk, methM, cM, hnamed, hmethM, -, -, -, -, -, -, hsigM⟩ := Cond.codeWith_spec hcode
  have hstatic : methM.isStatic = true := Cond.static_spec hnamed hmethM hstat
  obtain ⟨kP, hkP, -⟩ := className_of_methodNamed hnamed
  have hinitP : kP.init = .initialized := Cond.initialized_spec (findClass_of_methodNamed hnamed) hkP hinit
  obtain ⟨vm₁, X₁, hstep₁⟩ := X.invokestatic hexec hown hlink hnamed hmethM hstatic hkP hinitP hy (g := g) hg (argsL := argsL) (rest := rest) (hlen _ hsigM) hstack hdg
  obtain ⟨v, B, X', hpost, hsteps⟩ := hK m meth c ⟨T.setVm vm₁, locs, cells, slots⟩ { g with stack := rest } (.invokestatic index) mk argsL.toArray X₁ hg hsize hdg hW (X₁.named hnamed) (hpre vm₁ X₁.warmed)
  exact ⟨v, vm₁, B, X₁.warmed, X', hpost, fun target h => hstep₁ _ fun acts => by rw [doInvoke_state]; exact hsteps.trans h⟩
theorem vx_runSW {y : MethodName} {bytes cc : ByteArray} {maxL nL mc ms n index : Nat} {ret : Option FieldType} {hh : List (Nat × Nat × Nat × Nat)} {ws : List Cond} {rm : Room} {Pc : Array Value → State → Prop} {Qc : Array Value → State → Outcome → State → Prop} {free : Addr → Prop} {Ts : List Cond} {own : String} {As rest : List Value} {g : JFrame}
    (S : CallFix p m c cc nL s args Ts own) (hM : Met l y ws rm Pc Qc mc ms free) (cw : vx_CSW R s args own index y bytes maxL ret hh ws rm mc ms n) (hp : PreS s H Pc As)
    (hg : g.method = m) (hn : As.length = n) (hsize : g.locals.size = nL) (hstack : g.stack = As.reverse ++ rest) (hW : 2 * g.monitorRoom + (rest.map fun v => v.category).sum ≤ 8) (hdg : decode cc g.pc = .ok (.invokestatic index, 3)) (hf : cells + mc ≤ R.cells ∧ slots + ms ≤ R.slots) :
    va_Run p l e R s m args below meth c H locs cells slots mc ms g rest (Qc As.toArray) (free) := by
  obtain ⟨⟨hrc, hrs, hfr, hlo, hws, hcw⟩, hcode, hini, hy, hlen, hl, hstt⟩ := cw
  have hK : Back l R p e below s args y 3 8 (PreOf R mc ms Pc) (PostOf Qc mc ms free) := va_backW (hh := hh) (bytes := bytes) (maxL := maxL) (ret := ret) hM hp.1 hrc hrs hfr hlo hws hcw (fun a' U hW => word_at hW (Or.inl (by first | rfl | simp [Cond.onTables, Cond.keeps, Cond.steady])) hini)
  obtain ⟨hx, hb, hml, ho, -⟩ := S
  intro T hT X
  obtain ⟨v, vm₁, ⟨U', l2, c2, s2⟩, hW₁, X', ⟨g', mk, t, L, e1, e2, hq, h1, hL, h2, h3⟩, st⟩ := vx_callSW X hx (hh := hh) (bytes := bytes) (maxL := maxL) (ret := ret) ho hl hstt hini hcode hy hK hg (hsize.trans hml.symm) (argsL := As) (rest := rest) (fun sig h => hn.trans (hlen sig h)) hstack hW (by rw [hb]; exact hdg)
    (fun vm₁ hW₁ => ⟨hf.1, hf.2, hp.2 (T.setVm vm₁) hT hW₁⟩)
  dsimp only [Pt.U, Pt.locs, Pt.cells, Pt.slots] at X' e1 e2 h1 h2 h3 st
  subst h1; subst h2; subst h3
  exact ⟨v, (T.setVm vm₁).calling g' mk As.toArray, t, U', L, hT, X', hL, e1, e2, hq, st⟩
/-- not caught here, past rows that name other classes: it goes on to the caller -/
theorem vx_outP {p : Program} {l : Launch} {e : Env} {R : Room} {s : State} {m : MethodId} {args : Array Value} {below : List Frame} {meth : Method} {c : Code} {H : Heap} {locs : List Loc} {cells slots : Nat} {free : Addr → Prop} {ls : Array Slot} {rest : List Value} {Qc : Array Value → State → Outcome → State → Prop} {XC : String → State → State → Prop}
    {pc : Nat} {own E : String} {ce : Cell} {q : Addr} {mc ms : Nat} (hown : s.vm.findClass own = some m.cls) (hlocks : meth.locks = false)
    (hpass : ∀ z ∈ c.exceptionTable.toList, covers z pc = false ∨ (z.catchType ≠ 0 ∧ ∃ nm : String, (Cond.classLink own z.catchType nm).before args s = true ∧ va_Nc E nm s)) (hcell : H[q]? = some ce) (hv : ce.vm = .none) (hcl : s.vm.findClass E = some ce.cls)
    (hx : ∀ t : State, t.heap = H → s.vm.Alike t.vm → XC E s t) (hf : ∀ z ∈ locs, free z.base) (hc : cells ≤ mc) (hs : slots ≤ ms) :
    vx_W p l e R s m args below meth c H locs cells slots (vx_MQ below Qc XC args s mc ms free) (F0 m pc ls rest) q := by
  intro T hT X
  have hpl : e.platform.magicAccessors = ({} : Platform).magicAccessors := by rw [X.admits.platform]
  obtain ⟨vm', hW', X', st⟩ := X.outThrough hlocks q (g := F0 m pc ls rest) rfl rfl rfl (cell := ce) (by rw [hT]; exact hcell) (by rw [hv]; rfl)
    (by obtain ⟨k9, h9, -⟩ := Vm.findClass_spec hcl; exact ⟨k9, h9⟩) (fun z hz => by
      rcases hpass z hz with h | ⟨hz0, nm, hl1, hn1⟩
      · exact Or.inl h
      · obtain ⟨c6, hc6, hcl6⟩ := Cond.classLink_spec hown hl1 e.platform hpl
        obtain ⟨a8, b8, h1, h2, h3⟩ := hn1
        cases Option.some.inj (h1.symm.trans hcl)
        cases Option.some.inj (h2.symm.trans hc6)
        exact Or.inr ⟨hz0, _, hcl6, h3⟩)
  obtain ⟨g₀, hfr⟩ := X'.frames_eq
  have hcell9 : ((T.setVm vm').setFrames (.throwing q :: below)).heap[q]? = some ce := by
    show T.heap[q]? = some ce
    rw [hT]; exact hcell
  have hend : Ended ((T.setVm vm').setFrames (.throwing q :: below)) below (.threw q) := State.frames_setFrames _ (State.cur_lt_of_frames hfr)
  refine ⟨(T.setVm vm').setFrames (.throwing q :: below), ?_, .threw q, X'.here.running, hend, Or.inr ⟨q, rfl, E, ce, locs, hx _ hT (X'.ends _).1.alike, hcell9, hv, hcl, (X'.ends _).1, (X'.ends _).2.mono hc hs, hf⟩⟩
  rw [X.pushThrowing_eq]
  exact st
/-- a thing of a world lies in the heap -/
theorem vx_lt {D : va_G} {cl : List vw_C} {ws : va_W} {H1 : Heap} (h : va_P D cl ws H1) {k : Nat} {q : Nat × va_E} (hk : ws[k]? = some q) : q.1 < H1.size := (h k q hk).lt
end VXS
/-! ===== END ===== -/
/-! ===== BEGIN methods with a table of their own: called by a name, returning or throwing ===== -/
section VXH
/-! vx_backW, vx_callVX, vx_callSX, vx_callVW, vx_runVW, vx_runVX, vx_runSX, vx_ofWH follow the same proofs as their sisters above (Free/Laws.lean, Shelf42/LK1.lean); vx_outP calls Shelf42/NT130.lean (outThrough). -/
section
variable {l : Launch} {R : Room} {p : Program} {e : Env} {below : List Frame} {s : State} {sargs : Array Value} {y : MethodName} {len W9 : Nat}
theorem vx_backW {ws : List Cond} {rm : Room} {Pc : Array Value → State → Prop} {Qc : Array Value → State → Outcome → State → Prop} {XC : String → State → State → Prop} {mc ms : Nat} {free : Addr → Prop} {bytes : ByteArray} {maxL : Nat} {ret : Option FieldType} {hh : List (Nat × Nat × Nat × Nat)}
    (hM : vx_Met l y ws rm Pc Qc XC mc ms free) (hblind : FrameBlind Pc) (hrc : rm.cells = mc) (hrs : rm.slots = ms)
    (hframes : rm.frames + 1 ≤ R.frames) (hlocals : W9 + (maxL + 11) + rm.locals ≤ R.locals)
    (hws : ∀ w ∈ ws, ∀ a' U, s.WarmedH U.vm → w.before a' U = true) (hcode : Cond.codeWith y bytes maxL ret hh ∈ ws) (hinit : ∀ a' U, s.WarmedH U.vm → (Cond.initialized y.cls).before a' U = true) :
    vx_Back l R p e below s sargs y len W9 (PreOf R mc ms Pc) (PostOf Qc mc ms free) (vx_Post XC mc ms free) := by
  intro m meth c A g ig mk a X hg hsize hdg hW hn hp
  have h1 : (headSpec ws rm).pre.before a A.U = true := atoms_intro fun w hw => hws w hw _ _ X.warmed
  have h2 : (Cond.codeWith y bytes maxL ret hh).before a A.U = true := hws _ hcode _ _ X.warmed
  have h3 : (Cond.initialized y.cls).before a A.U = true := hinit _ _ X.warmed
  have h4 : A.cells + (headSpec ws rm).room.cells ≤ R.cells := by rw [show (headSpec ws rm).room.cells = mc from hrc]; exact hp.1
  have h5 : A.slots + (headSpec ws rm).room.slots ≤ R.slots := by rw [show (headSpec ws rm).room.slots = ms from hrs]; exact hp.2.1
  have hPc : Pc a (A.U.calling g mk a) := hblind _ _ _ _ hp.2.2
  obtain ⟨U, Ls, c0, s0⟩ := A
  dsimp only [Pt.U, Pt.locs, Pt.cells, Pt.slots] at h1 h2 h3 h4 h5 X hn hPc ⊢
  obtain ⟨m9, methY, cY, hn9, hmY, hcY, -, hlY, -⟩ := Cond.codeWith_spec h2
  cases Option.some.inj (hn9.symm.trans hn)
  obtain ⟨kY, hkY, -⟩ := className_of_methodNamed hn
  have hinitY : kY.init = .initialized := Cond.initialized_spec (findClass_of_methodNamed hn) hkY h3
  have h : At U g.method c below := by rw [hg]; exact X.here
  have hlocals9 : W9 + (maxL + 11) + (headSpec ws rm).room.locals ≤ R.locals := hlocals
  have happ : (headSpec ws rm).appliesLoose y e.platform (U.calling g mk a) = true :=
    Spec.appliesLoose_calling (g := g) h hdg hn hkY hinitY
      (X.room_calling (g := g) (R' := (headSpec ws rm).room) hsize hmY hcY hframes (by rw [hlY]; omega) h4 h5) h1
  obtain ⟨mid, hmid⟩ := h.above
  have hfr : (U.setTop g).frames = (.java g :: mid) ++ below := by rw [State.frames_setTop' g h.top, hmid]; rfl
  obtain ⟨o, s₂, hsteps, -, hend, hq⟩ := Steps.callFree hM p X.admits X.cas X.clock (acts := []) hfr happ hPc trivial
  have hq' : vx_Q Qc XC mc ms free a (U.calling g mk a) o s₂ := hq
  rw [State.frames_setTop' g h.top] at hend
  obtain ⟨g₀, hg0⟩ := Option.isSome_iff_exists.mp h.top
  obtain ⟨r, hr⟩ := State.topJava?_eq_some.mp hg0
  have hr' : (({ U with heap := s₂.heap, slotsUsed := s₂.slotsUsed } : State).setVm s₂.vm).frames = .java g₀ :: r := hr
  rcases hq' with ⟨hqc, L, hfe, hL⟩ | ⟨q, rfl, E, ce, L, hx, hce, hcv, hcl, hW₂, hsm, hL⟩
  · obtain ⟨⟨v, rfl⟩, hW₂, e2, q2, q3, q4, q5, q6⟩ := id hfe
    have e3 : s₂ = ({ (U.calling g mk a).setFrames s₂.frames with heap := s₂.heap, slotsUsed := s₂.slotsUsed } : State).setVm s₂.vm := by
      have : s₂ = ({ s₂ with vm := (U.calling g mk a).vm } : State).setVm s₂.vm := rfl
      rw [e2] at this
      exact this
    obtain ⟨c₂, i₂, len₂, hc₂, hd₂, hf₂⟩ := hend
    have hW' : U.WarmedH s₂.vm := hW₂
    have hcc : c₂ = c := by
      have h1 : s₂.code? g.method = U.code? g.method := by
        rw [State.code?_eq, State.code?_eq, hW'.alike.method?]
      exact Option.some.inj (hc₂.symm.trans (h1.trans h.code))
    subst hcc
    have hlen : len₂ = len := by rw [hdg] at hd₂; cases hd₂; rfl
    subst hlen
    have hs₂ : s₂ = (({ U with heap := s₂.heap, slotsUsed := s₂.slotsUsed } : State).setVm s₂.vm).setTop { g with pc := g.pc + len₂, stack := v.toList ++ g.stack } := by
      refine e3.trans ?_
      rw [hf₂, State.calling_eq h.top, State.setFrames_setFrames, State.setTop_of_frames _ hr', hr]
      rfl
    have hsame : U.sameButNew ({ U with heap := s₂.heap, slotsUsed := s₂.slotsUsed } : State) L mc ms := by
      refine ⟨?_, q2, q3, q4, q5, q6⟩
      obtain ⟨t, ht, -⟩ := State.frames_cons hr
      show ({ U with heap := s₂.heap, slotsUsed := s₂.slotsUsed } : State) = { U.setFrames U.frames with heap := s₂.heap, slotsUsed := s₂.slotsUsed }
      rw [State.setFrames_self ht]
    subst hg
    refine Or.inl ⟨v, ⟨(({ U with heap := s₂.heap, slotsUsed := s₂.slotsUsed } : State).setVm s₂.vm), Ls ++ L, c0 + mc, s0 + ms⟩,
      ⟨X.admits, X.cas, X.clock, X.frames, X.room, X.hears, X.method, X.code, (X.here.setHeapUsed s₂.heap s₂.slotsUsed).setVm hW'.alike, X.tail, State.WarmedH.trans X.warmed hW', X.limits, X.bytes, X.same.trans (hsame.setVm s.vm)⟩,
      ⟨g, mk, s₂, L, rfl, rfl, hqc, rfl, hL, rfl, rfl⟩, ?_⟩
    show Steps p.tables e below _ ((({ U with heap := s₂.heap, slotsUsed := s₂.slotsUsed } : State).setVm s₂.vm).setTop { g with pc := g.pc + len₂, stack := v.toList ++ g.stack })
    rw [← hs₂]
    exact hsteps
  · obtain ⟨e2, q2, q3, q4, q5, q6⟩ := id hsm
    have e3 : s₂ = ({ (U.calling g mk a).setFrames s₂.frames with heap := s₂.heap, slotsUsed := s₂.slotsUsed } : State).setVm s₂.vm := by
      have : s₂ = ({ s₂ with vm := (U.calling g mk a).vm } : State).setVm s₂.vm := rfl
      rw [e2] at this
      exact this
    have hf₂ : s₂.frames = .throwing q :: .java g :: U.frames.tail := hend
    have hW' : U.WarmedH s₂.vm := hW₂
    have hs₂ : s₂ = ((({ U with heap := s₂.heap, slotsUsed := s₂.slotsUsed } : State).setVm s₂.vm).setTop g).pushFrame (.throwing q) := by
      refine e3.trans ?_
      rw [hf₂, State.calling_eq h.top, State.setFrames_setFrames, State.pushFrame, State.frames_setTop _ hr', State.setTop_of_frames _ hr', State.setFrames_setFrames, hr]
      rfl
    have hsame : U.sameButNew ({ U with heap := s₂.heap, slotsUsed := s₂.slotsUsed } : State) L mc ms := by
      refine ⟨?_, q2, q3, q4, q5, q6⟩
      obtain ⟨t, ht, -⟩ := State.frames_cons hr
      show ({ U with heap := s₂.heap, slotsUsed := s₂.slotsUsed } : State) = { U.setFrames U.frames with heap := s₂.heap, slotsUsed := s₂.slotsUsed }
      rw [State.setFrames_self ht]
    subst hg
    refine Or.inr ⟨q, ⟨(({ U with heap := s₂.heap, slotsUsed := s₂.slotsUsed } : State).setVm s₂.vm), Ls ++ L, c0 + mc, s0 + ms⟩,
      ⟨X.admits, X.cas, X.clock, X.frames, X.room, X.hears, X.method, X.code, (X.here.setHeapUsed s₂.heap s₂.slotsUsed).setVm hW'.alike, X.tail, State.WarmedH.trans X.warmed hW', X.limits, X.bytes, X.same.trans (hsame.setVm s.vm)⟩,
      ⟨g, mk, s₂, L, E, ce, rfl, rfl, hx, hce, hcv, hcl, rfl, hL, rfl, rfl⟩, ?_⟩
    show Steps p.tables e below _ (((({ U with heap := s₂.heap, slotsUsed := s₂.slotsUsed } : State).setVm s₂.vm).setTop g).pushFrame (.throwing q))
    rw [← hs₂]
    exact hsteps
end
variable {p : Program} {l : Launch} {e : Env} {R : Room} {s : State} {m : MethodId} {args : Array Value} {below : List Frame} {meth : Method} {c : Code} {T : State} {H : Heap} {locs : List Loc} {cells slots : Nat}
theorem vx_callVX (X : Stand p l e R s m args below meth c T locs cells slots) (hexec : p.tables.exec = Jvm.exec) {own C : String} {index : Nat} {y : MethodName} {bytes : ByteArray} {maxL : Nat} {ret : Option FieldType} {hh : List (Nat × Nat × Nat × Nat)}
    (hown : s.vm.findClass own = some m.cls) (hlink : (Cond.methodLink own index y).before args s = true) (hinst : (Cond.instanceMethod y).before args s = true) (hsel : (Cond.selects C y y).before args s = true)
    (hcode : (Cond.codeWith y bytes maxL ret hh).before args s = true) (hy : y.cls ≠ "java/lang/invoke/MethodHandle" ∧ y.cls ≠ "java/lang/invoke/VarHandle")
    {W9 : Nat} {Pre : Pt → Array Value → Prop} {Post : Pt → Array Value → Option Value → Pt → Prop} {PostX : Pt → Array Value → Addr → Pt → Prop} (hK : vx_Back l R p e below s args y 3 W9 Pre Post PostX)
    {b : Addr} {cellB : Cell} (hcell : T.heap[b]? = some cellB) (hobj : cellB.vm.isStatics = false) (hcls : s.vm.findClass C = some cellB.cls)
    {g : JFrame} (hg : g.method = m) (hsize : g.locals.size = c.maxLocals) {argsL rest : List Value} (hlen : ∀ sig, parseMethodDescriptor y.desc = some sig → argsL.length = sig.parameters.length)
    (hstack : g.stack = argsL.reverse ++ .ref b :: rest) (hW : 2 * g.monitorRoom + (rest.map fun v => v.category).sum ≤ W9) (hdg : decode c.code g.pc = .ok (.invokevirtual index, 3))
    (hpre : ∀ vm₁, s.WarmedH vm₁ → Pre ⟨T.setVm vm₁, locs, cells, slots⟩ (Value.ref b :: argsL).toArray) :
    (∃ (v : Option Value) (vm₁ : Vm) (B : Pt), s.WarmedH vm₁ ∧ Stand p l e R s m args below meth c B.U B.locs B.cells B.slots ∧ Post ⟨T.setVm vm₁, locs, cells, slots⟩ (Value.ref b :: argsL).toArray v B ∧
      ∀ target, Steps p.tables e below (B.U.setTop { g with pc := g.pc + 3, stack := v.toList ++ rest }) target → Steps p.tables e below (T.setTop g) target) ∨
    (∃ (q : Addr) (vm₁ : Vm) (B : Pt), s.WarmedH vm₁ ∧ Stand p l e R s m args below meth c B.U B.locs B.cells B.slots ∧ PostX ⟨T.setVm vm₁, locs, cells, slots⟩ (Value.ref b :: argsL).toArray q B ∧
      Steps p.tables e below (T.setTop g) ((B.U.setTop { g with stack := rest }).pushFrame (.throwing q))) := by
  obtain ⟨mk, methM, hnamed, hmethM, hstM, habM⟩ := Cond.instanceMethod_spec hinst
  obtain ⟨m8, methM', cM, hn8, hmethM', -, -, -, -, -, -, hsigM⟩ := Cond.codeWith_spec hcode
  cases Option.some.inj (hn8.symm.trans hnamed)
  cases hmethM.symm.trans hmethM'
  obtain ⟨c2, r2, m2, q1, q2, q3, q4, kP, hkP, hkPi⟩ := Cond.selects_spec hsel
  cases hcls.symm.trans q1
  cases (State.methodFound?_of_named hnamed hy).symm.trans q2
  cases hnamed.symm.trans q3
  have hselP : selectMethod e.platform s.vm cellB.cls mk = .method mk := by rw [Launch.admits_selectMethod X.admits]; exact q4
  obtain ⟨vm₁, X₁, hstep₁⟩ := X.invokevirtual hexec hown hlink hnamed hmethM hstM hkP hkPi hy (a := b) (cell := cellB) hcell
    (fun z h => by rw [h] at hobj; cases hobj) hselP hmethM habM hkP hkPi (g := g) hg (argsL := argsL) (rest := rest) (hlen _ hsigM) hstack hdg
  rcases hK m meth c ⟨T.setVm vm₁, locs, cells, slots⟩ { g with stack := rest } (.invokevirtual index) mk (Value.ref b :: argsL).toArray X₁ hg hsize hdg hW (X₁.named hnamed) (hpre vm₁ X₁.warmed) with ⟨v, B, X', hpost, hsteps⟩ | ⟨q, B, X', hpost, hsteps⟩
  · exact Or.inl ⟨v, vm₁, B, X₁.warmed, X', hpost, fun target h => hstep₁ _ fun acts => by rw [doInvoke_state]; exact hsteps.trans h⟩
  · exact Or.inr ⟨q, vm₁, B, X₁.warmed, X', hpost, hstep₁ _ fun acts => by rw [doInvoke_state]; exact hsteps⟩
theorem vx_callSX (X : Stand p l e R s m args below meth c T locs cells slots) (hexec : p.tables.exec = Jvm.exec) {own : String} {index : Nat} {y : MethodName} {bytes : ByteArray} {maxL : Nat} {ret : Option FieldType} {hh : List (Nat × Nat × Nat × Nat)}
    (hown : s.vm.findClass own = some m.cls) (hlink : (Cond.methodLink own index y).before args s = true) (hstat : (Cond.static y).before args s = true) (hinit : (Cond.initialized y.cls).before args s = true)
    (hcode : (Cond.codeWith y bytes maxL ret hh).before args s = true) (hy : y.cls ≠ "java/lang/invoke/MethodHandle" ∧ y.cls ≠ "java/lang/invoke/VarHandle")
    {W9 : Nat} {Pre : Pt → Array Value → Prop} {Post : Pt → Array Value → Option Value → Pt → Prop} {PostX : Pt → Array Value → Addr → Pt → Prop} (hK : vx_Back l R p e below s args y 3 W9 Pre Post PostX)
    {g : JFrame} (hg : g.method = m) (hsize : g.locals.size = c.maxLocals) {argsL rest : List Value} (hlen : ∀ sig, parseMethodDescriptor y.desc = some sig → argsL.length = sig.parameters.length)
    (hstack : g.stack = argsL.reverse ++ rest) (hW : 2 * g.monitorRoom + (rest.map fun v => v.category).sum ≤ W9) (hdg : decode c.code g.pc = .ok (.invokestatic index, 3))
    (hpre : ∀ vm₁, s.WarmedH vm₁ → Pre ⟨T.setVm vm₁, locs, cells, slots⟩ argsL.toArray) :
    (∃ (v : Option Value) (vm₁ : Vm) (B : Pt), s.WarmedH vm₁ ∧ Stand p l e R s m args below meth c B.U B.locs B.cells B.slots ∧ Post ⟨T.setVm vm₁, locs, cells, slots⟩ argsL.toArray v B ∧
      ∀ target, Steps p.tables e below (B.U.setTop { g with pc := g.pc + 3, stack := v.toList ++ rest }) target → Steps p.tables e below (T.setTop g) target) ∨
    (∃ (q : Addr) (vm₁ : Vm) (B : Pt), s.WarmedH vm₁ ∧ Stand p l e R s m args below meth c B.U B.locs B.cells B.slots ∧ PostX ⟨T.setVm vm₁, locs, cells, slots⟩ argsL.toArray q B ∧
      Steps p.tables e below (T.setTop g) ((B.U.setTop { g with stack := rest }).pushFrame (.throwing q))) := by
  obtain ⟨mk, methM, cM, hnamed, hmethM, -, -, -, -, -, -, hsigM⟩ := Cond.codeWith_spec hcode
  have hstatic : methM.isStatic = true := Cond.static_spec hnamed hmethM hstat
  obtain ⟨kP, hkP, -⟩ := className_of_methodNamed hnamed
  have hinitP : kP.init = .initialized := Cond.initialized_spec (findClass_of_methodNamed hnamed) hkP hinit
  obtain ⟨vm₁, X₁, hstep₁⟩ := X.invokestatic hexec hown hlink hnamed hmethM hstatic hkP hinitP hy (g := g) hg (argsL := argsL) (rest := rest) (hlen _ hsigM) hstack hdg
  rcases hK m meth c ⟨T.setVm vm₁, locs, cells, slots⟩ { g with stack := rest } (.invokestatic index) mk argsL.toArray X₁ hg hsize hdg hW (X₁.named hnamed) (hpre vm₁ X₁.warmed) with ⟨v, B, X', hpost, hsteps⟩ | ⟨q, B, X', hpost, hsteps⟩
  · exact Or.inl ⟨v, vm₁, B, X₁.warmed, X', hpost, fun target h => hstep₁ _ fun acts => by rw [doInvoke_state]; exact hsteps.trans h⟩
  · exact Or.inr ⟨q, vm₁, B, X₁.warmed, X', hpost, hstep₁ _ fun acts => by rw [doInvoke_state]; exact hsteps⟩
theorem vx_callVW (X : Stand p l e R s m args below meth c T locs cells slots) (hexec : p.tables.exec = Jvm.exec) {own C : String} {index : Nat} {y : MethodName} {bytes : ByteArray} {maxL : Nat} {ret : Option FieldType} {hh : List (Nat × Nat × Nat × Nat)}
    (hown : s.vm.findClass own = some m.cls) (hlink : (Cond.methodLink own index y).before args s = true) (hinst : (Cond.instanceMethod y).before args s = true) (hsel : (Cond.selects C y y).before args s = true)
    (hcode : (Cond.codeWith y bytes maxL ret hh).before args s = true) (hy : y.cls ≠ "java/lang/invoke/MethodHandle" ∧ y.cls ≠ "java/lang/invoke/VarHandle")
    {W9 : Nat} {Pre : Pt → Array Value → Prop} {Post : Pt → Array Value → Option Value → Pt → Prop} (hK : Back l R p e below s args y 3 W9 Pre Post)
    {b : Addr} {cellB : Cell} (hcell : T.heap[b]? = some cellB) (hobj : cellB.vm.isStatics = false) (hcls : s.vm.findClass C = some cellB.cls)
    {g : JFrame} (hg : g.method = m) (hsize : g.locals.size = c.maxLocals) {argsL rest : List Value} (hlen : ∀ sig, parseMethodDescriptor y.desc = some sig → argsL.length = sig.parameters.length)
    (hstack : g.stack = argsL.reverse ++ .ref b :: rest) (hW : 2 * g.monitorRoom + (rest.map fun v => v.category).sum ≤ W9) (hdg : decode c.code g.pc = .ok (.invokevirtual index, 3))
    (hpre : ∀ vm₁, s.WarmedH vm₁ → Pre ⟨T.setVm vm₁, locs, cells, slots⟩ (Value.ref b :: argsL).toArray) :
    ∃ (v : Option Value) (vm₁ : Vm) (B : Pt), s.WarmedH vm₁ ∧ Stand p l e R s m args below meth c B.U B.locs B.cells B.slots ∧ Post ⟨T.setVm vm₁, locs, cells, slots⟩ (Value.ref b :: argsL).toArray v B ∧
      ∀ target, Steps p.tables e below (B.U.setTop { g with pc := g.pc + 3, stack := v.toList ++ rest }) target → Steps p.tables e below (T.setTop g) target := by
  obtain ⟨mk, methM, hnamed, hmethM, hstM, habM⟩ := Cond.instanceMethod_spec hinst
  obtain ⟨m8, methM', cM, hn8, hmethM', -, -, -, -, -, -, hsigM⟩ := Cond.codeWith_spec hcode
  cases Option.some.inj (hn8.symm.trans hnamed)
  cases hmethM.symm.trans hmethM'
  obtain ⟨c2, r2, m2, q1, q2, q3, q4, kP, hkP, hkPi⟩ := Cond.selects_spec hsel
  cases hcls.symm.trans q1
  cases (State.methodFound?_of_named hnamed hy).symm.trans q2
  cases hnamed.symm.trans q3
  have hselP : selectMethod e.platform s.vm cellB.cls mk = .method mk := by rw [Launch.admits_selectMethod X.admits]; exact q4
  obtain ⟨vm₁, X₁, hstep₁⟩ := X.invokevirtual hexec hown hlink hnamed hmethM hstM hkP hkPi hy (a := b) (cell := cellB) hcell
    (fun z h => by rw [h] at hobj; cases hobj) hselP hmethM habM hkP hkPi (g := g) hg (argsL := argsL) (rest := rest) (hlen _ hsigM) hstack hdg
  obtain ⟨v, B, X', hpost, hsteps⟩ := hK m meth c ⟨T.setVm vm₁, locs, cells, slots⟩ { g with stack := rest } (.invokevirtual index) mk (Value.ref b :: argsL).toArray X₁ hg hsize hdg hW (X₁.named hnamed) (hpre vm₁ X₁.warmed)
  exact ⟨v, vm₁, B, X₁.warmed, X', hpost, fun target h => hstep₁ _ fun acts => by rw [doInvoke_state]; exact hsteps.trans h⟩
abbrev vx_CVW (R : Room) (s : State) (args : Array Value) (own C : String) (index : Nat) (y : MethodName) (bytes : ByteArray) (maxL : Nat) (ret : Option FieldType) (hh : List (Nat × Nat × Nat × Nat)) (ws : List Cond) (rm : Room) (mc ms n : Nat) : Prop :=
  (rm.cells = mc ∧ rm.slots = ms ∧ rm.frames + 1 ≤ R.frames ∧ 8 + (maxL + 11) + rm.locals ≤ R.locals ∧ (∀ w ∈ ws, ∀ (a' : Array Value) (U : State), s.WarmedH U.vm → w.before a' U = true) ∧ Cond.codeWith y bytes maxL ret hh ∈ ws) ∧
  (Cond.codeWith y bytes maxL ret hh).before args s = true ∧ (Cond.initialized y.cls).before args s = true ∧ (y.cls ≠ "java/lang/invoke/MethodHandle" ∧ y.cls ≠ "java/lang/invoke/VarHandle") ∧
  (∀ sig, parseMethodDescriptor y.desc = some sig → n = sig.parameters.length) ∧ (Cond.methodLink own index y).before args s = true ∧ (Cond.instanceMethod y).before args s = true ∧ (Cond.selects C y y).before args s = true
theorem vx_cwVW {own C : String} {index maxL mc ms : Nat} {y : MethodName} {bytes : ByteArray} {ret : Option FieldType} {hh : List (Nat × Nat × Nat × Nat)} {Ts ws ws' : List Cond} {rm : Room} (n : Nat) (ht : ∀ w ∈ Ts, w.before args s = true) (hT : GoodIn Ts (wsV own index C y ws)) (hw : ws = Cond.codeWith y bytes maxL ret hh :: ws') (hrc : rm.cells = mc) (hrs : rm.slots = ms)
    (hd : y.cls = C ∧ y.cls ≠ "java/lang/invoke/MethodHandle" ∧ y.cls ≠ "java/lang/invoke/VarHandle" ∧ (parseMethodDescriptor y.desc).map (fun d => d.parameters.length) = some n) (hR : rm.frames + 1 ≤ R.frames ∧ 8 + (maxL + 11) + rm.locals ≤ R.locals) :
    vx_CVW R s args own C index y bytes maxL ret hh ws rm mc ms n := by
  obtain ⟨hC, hd⟩ := hd
  subst hC
  have ok : ∀ w ∈ wsV own index y.cls y ws, w.before args s = true := fun w h => ht w (hT w h).1
  have hG : GoodIn Ts ws := fun w h => hT w (by unfold wsV; exact List.mem_append_right _ h)
  have hc : Cond.codeWith y bytes maxL ret hh ∈ ws := by rw [hw]; exact List.mem_cons_self
  refine ⟨⟨hrc, hrs, hR.1, hR.2, pay_in ht hG, hc⟩, ht _ (hG _ hc).1, ok _ (by simp [wsV]), ⟨hd.1, hd.2.1⟩, fun sig h => ?_, ok _ (by simp [wsV]), ok _ (by simp [wsV]), ok _ (by simp [wsV])⟩
  have h2 := hd.2.2
  rw [h] at h2
  exact (Option.some.inj h2).symm
theorem vx_runVW {y : MethodName} {bytes cc : ByteArray} {maxL nL mc ms n index : Nat} {ret : Option FieldType} {hh : List (Nat × Nat × Nat × Nat)} {ws : List Cond} {rm : Room} {Pc : Array Value → State → Prop} {Qc : Array Value → State → Outcome → State → Prop} {free : Addr → Prop} {Ts : List Cond} {own C : String} {b : Addr} {As rest : List Value} {g : JFrame}
    (S : CallFix p m c cc nL s args Ts own) (hM : Met l y ws rm Pc Qc mc ms free) (cw : vx_CVW R s args own C index y bytes maxL ret hh ws rm mc ms n) (hp : PreV s H C b Pc As)
    (hg : g.method = m) (hn : As.length = n) (hsize : g.locals.size = nL) (hstack : g.stack = As.reverse ++ .ref b :: rest) (hW : 2 * g.monitorRoom + (rest.map fun v => v.category).sum ≤ 8) (hdg : decode cc g.pc = .ok (.invokevirtual index, 3)) (hf : cells + mc ≤ R.cells ∧ slots + ms ≤ R.slots) :
    va_Run p l e R s m args below meth c H locs cells slots mc ms g rest (Qc (Value.ref b :: As).toArray) free := by
  obtain ⟨⟨hrc, hrs, hfr, hlo, hws, hcw⟩, hcode, hini, hy, hlen, hl, hin, hse⟩ := cw
  have hK : Back l R p e below s args y 3 8 (PreOf R mc ms Pc) (PostOf Qc mc ms free) := va_backW (hh := hh) (bytes := bytes) (maxL := maxL) (ret := ret) hM hp.1 hrc hrs hfr hlo hws hcw (fun a' U hW => word_at hW (Or.inl (by first | rfl | simp [Cond.onTables, Cond.keeps, Cond.steady])) hini)
  obtain ⟨hx, hb, hml, ho, -⟩ := S
  obtain ⟨-, ⟨cellB, hcB, hoB, hclB⟩, hPc⟩ := hp
  intro T hT X
  obtain ⟨v, vm₁, ⟨U', l2, c2, s2⟩, hW₁, X', ⟨g', mk, t, L, e1, e2, hq, h1, hL, h2, h3⟩, st⟩ := vx_callVW X hx (C := C) (hh := hh) (bytes := bytes) (maxL := maxL) (ret := ret) ho hl hin hse hcode hy hK (by rw [hT]; exact hcB) hoB hclB hg (hsize.trans hml.symm) (argsL := As) (rest := rest) (fun sig h => hn.trans (hlen sig h)) hstack hW (by rw [hb]; exact hdg)
    (fun vm₁ hW₁ => ⟨hf.1, hf.2, hPc (T.setVm vm₁) hT hW₁⟩)
  dsimp only [Pt.U, Pt.locs, Pt.cells, Pt.slots] at X' e1 e2 h1 h2 h3 st
  subst h1; subst h2; subst h3
  exact ⟨v, (T.setVm vm₁).calling g' mk (Value.ref b :: As).toArray, t, U', L, hT, X', hL, e1, e2, hq, st⟩
section
variable {y : MethodName} {bytes cc : ByteArray} {maxL nL mc ms n index : Nat} {ret : Option FieldType} {ws : List Cond} {rm : Room} {Pc : Array Value → State → Prop} {Qc : Array Value → State → Outcome → State → Prop} {XC : String → State → State → Prop} {free : Addr → Prop} {Ts : List Cond} {own C : String} {b : Addr} {As rest : List Value} {g : JFrame}
theorem vx_runVX {hh : List (Nat × Nat × Nat × Nat)} (S : CallFix p m c cc nL s args Ts own) (hM : vx_Met l y ws rm Pc Qc XC mc ms free) (cw : vx_CVW R s args own C index y bytes maxL ret hh ws rm mc ms n) (hp : PreV s H C b Pc As)
    (hg : g.method = m) (hn : As.length = n) (hsize : g.locals.size = nL) (hstack : g.stack = As.reverse ++ .ref b :: rest) (hW : 2 * g.monitorRoom + (rest.map fun v => v.category).sum ≤ 8) (hdg : decode cc g.pc = .ok (.invokevirtual index, 3)) (hf : cells + mc ≤ R.cells ∧ slots + ms ≤ R.slots) :
    vx_Run p l e R s m args below meth c H locs cells slots mc ms g rest (Qc (Value.ref b :: As).toArray) XC free := by
  obtain ⟨⟨hrc, hrs, hfr, hlo, hws, hcw⟩, hcode, hini, hy, hlen, hl, hin, hse⟩ := cw
  have hK : vx_Back l R p e below s args y 3 8 (PreOf R mc ms Pc) (PostOf Qc mc ms free) (vx_Post XC mc ms free) := vx_backW (hh := hh) (bytes := bytes) (maxL := maxL) (ret := ret) hM hp.1 hrc hrs hfr hlo hws hcw (fun a' U hW => word_at hW (Or.inl (by first | rfl | simp [Cond.onTables, Cond.keeps, Cond.steady])) hini)
  obtain ⟨hx, hb, hml, ho, -⟩ := S
  obtain ⟨-, ⟨cellB, hcB, hoB, hclB⟩, hPc⟩ := hp
  intro T hT X
  rcases vx_callVX X hx (C := C) (hh := hh) (bytes := bytes) (maxL := maxL) (ret := ret) ho hl hin hse hcode hy hK (by rw [hT]; exact hcB) hoB hclB hg (hsize.trans hml.symm) (argsL := As) (rest := rest) (fun sig h => hn.trans (hlen sig h)) hstack hW (by rw [hb]; exact hdg)
    (fun vm₁ hW₁ => ⟨hf.1, hf.2, hPc (T.setVm vm₁) hT hW₁⟩) with ⟨v, vm₁, ⟨U', l2, c2, s2⟩, hW₁, X', ⟨g', mk, t, L, e1, e2, hq, h1, hL, h2, h3⟩, st⟩ | ⟨q, vm₁, ⟨U', l2, c2, s2⟩, hW₁, X', ⟨g', mk, t, L, E, ce, e1, e2, hq, hce, hcv, hcl, h1, hL, h2, h3⟩, st⟩
  · dsimp only [Pt.U, Pt.locs, Pt.cells, Pt.slots] at X' e1 e2 h1 h2 h3 st
    subst h1; subst h2; subst h3
    exact Or.inl ⟨v, (T.setVm vm₁).calling g' mk (Value.ref b :: As).toArray, t, U', L, hT, X', hL, e1, e2, hq, st⟩
  · dsimp only [Pt.U, Pt.locs, Pt.cells, Pt.slots] at X' e1 e2 h1 h2 h3 st hcl
    subst h1; subst h2; subst h3
    exact Or.inr ⟨q, (T.setVm vm₁).calling g' mk (Value.ref b :: As).toArray, t, U', L, E, ce, hT, X', hL, e1, e2, hq, hce, hcv, vx_cls hW₁ hcl, st⟩
theorem vx_runSX {hh : List (Nat × Nat × Nat × Nat)} (S : CallFix p m c cc nL s args Ts own) (hM : vx_Met l y ws rm Pc Qc XC mc ms free) (cw : vx_CSW R s args own index y bytes maxL ret hh ws rm mc ms n) (hp : PreS s H Pc As)
    (hg : g.method = m) (hn : As.length = n) (hsize : g.locals.size = nL) (hstack : g.stack = As.reverse ++ rest) (hW : 2 * g.monitorRoom + (rest.map fun v => v.category).sum ≤ 8) (hdg : decode cc g.pc = .ok (.invokestatic index, 3)) (hf : cells + mc ≤ R.cells ∧ slots + ms ≤ R.slots) :
    vx_Run p l e R s m args below meth c H locs cells slots mc ms g rest (Qc As.toArray) XC free := by
  obtain ⟨⟨hrc, hrs, hfr, hlo, hws, hcw⟩, hcode, hini, hy, hlen, hl, hstt⟩ := cw
  have hK : vx_Back l R p e below s args y 3 8 (PreOf R mc ms Pc) (PostOf Qc mc ms free) (vx_Post XC mc ms free) := vx_backW (hh := hh) (bytes := bytes) (maxL := maxL) (ret := ret) hM hp.1 hrc hrs hfr hlo hws hcw (fun a' U hW => word_at hW (Or.inl (by first | rfl | simp [Cond.onTables, Cond.keeps, Cond.steady])) hini)
  obtain ⟨hx, hb, hml, ho, -⟩ := S
  intro T hT X
  rcases vx_callSX X hx (hh := hh) (bytes := bytes) (maxL := maxL) (ret := ret) ho hl hstt hini hcode hy hK hg (hsize.trans hml.symm) (argsL := As) (rest := rest) (fun sig h => hn.trans (hlen sig h)) hstack hW (by rw [hb]; exact hdg)
    (fun vm₁ hW₁ => ⟨hf.1, hf.2, hp.2 (T.setVm vm₁) hT hW₁⟩) with ⟨v, vm₁, ⟨U', l2, c2, s2⟩, hW₁, X', ⟨g', mk, t, L, e1, e2, hq, h1, hL, h2, h3⟩, st⟩ | ⟨q, vm₁, ⟨U', l2, c2, s2⟩, hW₁, X', ⟨g', mk, t, L, E, ce, e1, e2, hq, hce, hcv, hcl, h1, hL, h2, h3⟩, st⟩
  · dsimp only [Pt.U, Pt.locs, Pt.cells, Pt.slots] at X' e1 e2 h1 h2 h3 st
    subst h1; subst h2; subst h3
    exact Or.inl ⟨v, (T.setVm vm₁).calling g' mk As.toArray, t, U', L, hT, X', hL, e1, e2, hq, st⟩
  · dsimp only [Pt.U, Pt.locs, Pt.cells, Pt.slots] at X' e1 e2 h1 h2 h3 st hcl
    subst h1; subst h2; subst h3
    exact Or.inr ⟨q, (T.setVm vm₁).calling g' mk As.toArray, t, U', L, E, ce, hT, X', hL, e1, e2, hq, hce, hcv, vx_cls hW₁ hcl, st⟩
end
end VXH
theorem vx_ofWH {l : Launch} {y : MethodName} {ws ws' : List Cond} {rm : Room} {Pc : Array Value → State → Prop} {Qc : Array Value → State → Outcome → State → Prop} {XC : String → State → State → Prop} {mc ms : Nat} {free : Addr → Prop} {cc : ByteArray} {maxL : Nat} {ret : Option FieldType} {hh : List (Nat × Nat × Nat × Nat)}
    (hy : plainName y.cls = true) (hw : ws = Cond.codeWith y cc maxL ret hh :: ws')
    (body : ∀ p e s m args below meth c s₁, BodyLoose p l y (headSpec ws rm) cc maxL ret e s m args below meth c s₁ → c.maxLocals = maxL → Pc args s →
      W p l e (headSpec ws rm).room s m args below meth c s.heap [] 0 0 (vx_MQ below Qc XC args s mc ms free) (entryFrame m args maxL)) : vx_Met l y ws rm Pc Qc XC mc ms free := by
  refine MetFree.of_bodyS (code := cc) (maxLocals := maxL) (ret := ret) hy ?_ ?_
  · intro args s m h hn
    obtain ⟨m9, meth, c, hn9, h1, h2, h3, h4, -, h5, h6, -⟩ := Cond.codeWith_spec (atoms_spec (ws := ws) h _ (by rw [hw]; exact List.mem_cons_self))
    cases hn.symm.trans hn9
    exact ⟨meth, c, h1, h2, h3, h4, h5, h6⟩
  · intro p e s m args below meth c s₁ B hml hP _
    have hh0 : s₁.heap = s.heap := by rw [B.state]; rfl
    obtain ⟨t, a1, o, b1, b2, b3⟩ := body p e s m args below meth c s₁ B hml hP s₁ hh0 (Stand.of_body B)
    exact ⟨t, o, a1, b1, b2, b3⟩
/-! ===== END ===== -/
end
section
/-! ===== BEGIN printed: names, fields, word lists, decode rows ===== -/
def RX0 : String := "SquopPiles$GameText"
def TX0 : u_T := fun k => match k with
  | 0 => ("SquopPiles$GameText", "codes", "[I", true)
  | _ => ("SquopPiles$GameText", "length", "I", false)
def tyX0 : Nat → FieldType := fun k => match k with
  | 0 => .array .int
  | _ => .int
abbrev wsX00 : List Cond := u_ws RX0 TX0 2
theorem nmX0 : ∀ a, a < 2 → ∀ b, b < 2 → a ≠ b → (TX0 a).2.1 ≠ (TX0 b).2.1 := by decide +kernel
theorem tyX0_ok : ∀ k, k < 2 → parseFieldDescriptor (TX0 k).2.2.1 = some (tyX0 k) := by decide +kernel
abbrev cX0_init : ByteArray := prog_2_method_1_code
def yX0_init : MethodName := ⟨RX0, "<init>", "()V"⟩
abbrev cX0_add : ByteArray := prog_2_method_2_code
def yX0_add : MethodName := ⟨RX0, "add", "(I)V"⟩
abbrev cX0_codeAt : ByteArray := prog_2_method_3_code
def yX0_codeAt : MethodName := ⟨RX0, "codeAt", "(I)I"⟩
abbrev cX0_errorIndex : ByteArray := prog_2_method_4_code
def yX0_errorIndex : MethodName := ⟨RX0, "errorIndex", "()I"⟩
abbrev cX0_isComplete : ByteArray := prog_2_method_5_code
def yX0_isComplete : MethodName := ⟨RX0, "isComplete", "()Z"⟩
abbrev cX0_stateBehind : ByteArray := prog_2_method_6_code
def yX0_stateBehind : MethodName := ⟨RX0, "stateBehind", "(II)I"⟩
abbrev cX0_between : ByteArray := prog_2_method_7_code
def yX0_between : MethodName := ⟨RX0, "between", "(III)Z"⟩
def RX1 : String := "SquopPiles$Mat"
def TX1 : u_T := fun k => match k with
  | 0 => ("SquopPiles$Mat", "cell", "[I", true)
  | 1 => ("SquopPiles$Mat", "below", "[I", true)
  | _ => ("SquopPiles$Mat", "above", "[I", true)
def tyX1 : Nat → FieldType := fun k => match k with
  | 0 => .array .int
  | 1 => .array .int
  | _ => .array .int
abbrev wsX10 : List Cond := u_ws RX1 TX1 3
theorem nmX1 : ∀ a, a < 3 → ∀ b, b < 3 → a ≠ b → (TX1 a).2.1 ≠ (TX1 b).2.1 := by decide +kernel
theorem tyX1_ok : ∀ k, k < 3 → parseFieldDescriptor (TX1 k).2.2.1 = some (tyX1 k) := by decide +kernel
abbrev cX1_init : ByteArray := prog_3_method_1_code
def yX1_init : MethodName := ⟨RX1, "<init>", "()V"⟩
abbrev cX1_copyFrom : ByteArray := prog_3_method_2_code
def yX1_copyFrom : MethodName := ⟨RX1, "copyFrom", "(LSquopPiles$Mat;)V"⟩
abbrev cX1_move : ByteArray := prog_3_method_3_code
def yX1_move : MethodName := ⟨RX1, "move", "(II)V"⟩
abbrev cX1_setCells : ByteArray := prog_3_method_4_code
def yX1_setCells : MethodName := ⟨RX1, "setCells", "(II)V"⟩
abbrev cX1_separate : ByteArray := prog_3_method_5_code
def yX1_separate : MethodName := ⟨RX1, "separate", "(I)V"⟩
abbrev cX1_isPotted : ByteArray := prog_3_method_6_code
def yX1_isPotted : MethodName := ⟨RX1, "isPotted", "(I)Z"⟩
abbrev cX1_isCovered : ByteArray := prog_3_method_7_code
def yX1_isCovered : MethodName := ⟨RX1, "isCovered", "(I)Z"⟩
abbrev cX1_placeOf : ByteArray := prog_3_method_8_code
def yX1_placeOf : MethodName := ⟨RX1, "placeOf", "(I)I"⟩
abbrev cX1_topAt : ByteArray := prog_3_method_9_code
def yX1_topAt : MethodName := ⟨RX1, "topAt", "(I)I"⟩
abbrev cX1_bottomAt : ByteArray := prog_3_method_10_code
def yX1_bottomAt : MethodName := ⟨RX1, "bottomAt", "(I)I"⟩
abbrev cX1_lowestOfUpper : ByteArray := prog_3_method_11_code
def yX1_lowestOfUpper : MethodName := ⟨RX1, "lowestOfUpper", "(II)I"⟩
abbrev cX1_heightAt : ByteArray := prog_3_method_12_code
def yX1_heightAt : MethodName := ⟨RX1, "heightAt", "(I)I"⟩
abbrev cX1_coloursAt : ByteArray := prog_3_method_13_code
def yX1_coloursAt : MethodName := ⟨RX1, "coloursAt", "(I)I"⟩
abbrev cX1_isBottom : ByteArray := prog_3_method_14_code
def yX1_isBottom : MethodName := ⟨RX1, "isBottom", "(I)Z"⟩
abbrev cX1_piles : ByteArray := prog_3_method_15_code
def yX1_piles : MethodName := ⟨RX1, "piles", "()I"⟩
abbrev cX1_highest : ByteArray := prog_3_method_16_code
def yX1_highest : MethodName := ⟨RX1, "highest", "()I"⟩
abbrev cX1_coveredByPiles : ByteArray := prog_3_method_17_code
def yX1_coveredByPiles : MethodName := ⟨RX1, "coveredByPiles", "()I"⟩
abbrev cX1_coveredByWinks : ByteArray := prog_3_method_18_code
def yX1_coveredByWinks : MethodName := ⟨RX1, "coveredByWinks", "()I"⟩
abbrev cX1_coveredOfTeam : ByteArray := prog_3_method_19_code
def yX1_coveredOfTeam : MethodName := ⟨RX1, "coveredOfTeam", "(I)I"⟩
abbrev cX1_coveredOf : ByteArray := prog_3_method_20_code
def yX1_coveredOf : MethodName := ⟨RX1, "coveredOf", "(I)I"⟩
abbrev cX1_potted : ByteArray := prog_3_method_21_code
def yX1_potted : MethodName := ⟨RX1, "potted", "()I"⟩
abbrev cX1_pottedOf : ByteArray := prog_3_method_22_code
def yX1_pottedOf : MethodName := ⟨RX1, "pottedOf", "(I)I"⟩
abbrev cX1_isAllPotted : ByteArray := prog_3_method_23_code
def yX1_isAllPotted : MethodName := ⟨RX1, "isAllPotted", "(I)Z"⟩
abbrev cX1_isOver : ByteArray := prog_3_method_24_code
def yX1_isOver : MethodName := ⟨RX1, "isOver", "()Z"⟩
abbrev cX1_pointsOf : ByteArray := prog_3_method_25_code
def yX1_pointsOf : MethodName := ⟨RX1, "pointsOf", "(I)I"⟩
abbrev cX1_pointsOfTeam : ByteArray := prog_3_method_26_code
def yX1_pointsOfTeam : MethodName := ⟨RX1, "pointsOfTeam", "(I)I"⟩
abbrev cX1_leadOf : ByteArray := prog_3_method_27_code
def yX1_leadOf : MethodName := ⟨RX1, "leadOf", "(I)I"⟩
abbrev cX1_othersBelow : ByteArray := prog_3_method_28_code
def yX1_othersBelow : MethodName := ⟨RX1, "othersBelow", "(I)I"⟩
abbrev cX1_liesBelow : ByteArray := prog_3_method_29_code
def yX1_liesBelow : MethodName := ⟨RX1, "liesBelow", "(II)Z"⟩
def RX2 : String := "SquopPiles$Past"
def TX2 : u_T := fun k => match k with
  | 0 => ("SquopPiles$Past", "saved", "[LSquopPiles$State;", true)
  | 1 => ("SquopPiles$Past", "next", "I", false)
  | _ => ("SquopPiles$Past", "many", "I", false)
def tyX2 : Nat → FieldType := fun k => match k with
  | 0 => .array (.object "SquopPiles$State")
  | 1 => .int
  | _ => .int
abbrev wsX20 : List Cond := u_ws RX2 TX2 3
theorem nmX2 : ∀ a, a < 3 → ∀ b, b < 3 → a ≠ b → (TX2 a).2.1 ≠ (TX2 b).2.1 := by decide +kernel
theorem tyX2_ok : ∀ k, k < 3 → parseFieldDescriptor (TX2 k).2.2.1 = some (tyX2 k) := by decide +kernel
abbrev cX2_init : ByteArray := prog_4_method_1_code
def yX2_init : MethodName := ⟨RX2, "<init>", "()V"⟩
abbrev cX2_save : ByteArray := prog_4_method_2_code
def yX2_save : MethodName := ⟨RX2, "save", "(LSquopPiles$State;)V"⟩
abbrev cX2_restore : ByteArray := prog_4_method_3_code
def yX2_restore : MethodName := ⟨RX2, "restore", "(LSquopPiles$State;)V"⟩
def RX3 : String := "SquopPiles$Routes"
def TX3 : u_T := fun k => match k with
  | 0 => ("SquopPiles$Routes", "known", "[I", true)
  | 1 => ("SquopPiles$Routes", "distance", "[I", true)
  | _ => ("SquopPiles$Routes", "queue", "[I", true)
def tyX3 : Nat → FieldType := fun k => match k with
  | 0 => .array .int
  | 1 => .array .int
  | _ => .array .int
abbrev wsX30 : List Cond := u_ws RX3 TX3 3
theorem nmX3 : ∀ a, a < 3 → ∀ b, b < 3 → a ≠ b → (TX3 a).2.1 ≠ (TX3 b).2.1 := by decide +kernel
theorem tyX3_ok : ∀ k, k < 3 → parseFieldDescriptor (TX3 k).2.2.1 = some (tyX3 k) := by decide +kernel
abbrev cX3_init : ByteArray := prog_5_method_1_code
def yX3_init : MethodName := ⟨RX3, "<init>", "()V"⟩
abbrev cX3_fewest : ByteArray := prog_5_method_2_code
def yX3_fewest : MethodName := ⟨RX3, "fewest", "(IZ)I"⟩
abbrev cX3_search : ByteArray := prog_5_method_3_code
def yX3_search : MethodName := ⟨RX3, "search", "(II)I"⟩
def RX4 : String := "SquopPiles$State"
def TX4 : u_T := fun k => match k with
  | 0 => ("SquopPiles$State", "mat", "LSquopPiles$Mat;", true)
  | 1 => ("SquopPiles$State", "flights", "[I", true)
  | 2 => ("SquopPiles$State", "fouls", "[I", true)
  | 3 => ("SquopPiles$State", "lost", "[I", true)
  | 4 => ("SquopPiles$State", "turn", "I", false)
  | 5 => ("SquopPiles$State", "lifts", "I", false)
  | _ => ("SquopPiles$State", "setting", "I", false)
def tyX4 : Nat → FieldType := fun k => match k with
  | 0 => .object "SquopPiles$Mat"
  | 1 => .array .int
  | 2 => .array .int
  | 3 => .array .int
  | 4 => .int
  | 5 => .int
  | _ => .int
abbrev wsX40 : List Cond := u_ws RX4 TX4 7
theorem nmX4 : ∀ a, a < 7 → ∀ b, b < 7 → a ≠ b → (TX4 a).2.1 ≠ (TX4 b).2.1 := by decide +kernel
theorem tyX4_ok : ∀ k, k < 7 → parseFieldDescriptor (TX4 k).2.2.1 = some (tyX4 k) := by decide +kernel
abbrev cX4_init : ByteArray := prog_6_method_1_code
def yX4_init : MethodName := ⟨RX4, "<init>", "()V"⟩
abbrev cX4_copyFrom : ByteArray := prog_6_method_2_code
def yX4_copyFrom : MethodName := ⟨RX4, "copyFrom", "(LSquopPiles$State;)V"⟩
abbrev cX4_whyNotFlown : ByteArray := prog_6_method_3_code
def yX4_whyNotFlown : MethodName := ⟨RX4, "whyNotFlown", "(I)I"⟩
abbrev cX4_whyNotLifted : ByteArray := prog_6_method_4_code
def yX4_whyNotLifted : MethodName := ⟨RX4, "whyNotLifted", "(IIII)I"⟩
abbrev cX4_carryOutFlight : ByteArray := prog_6_method_5_code
def yX4_carryOutFlight : MethodName := ⟨RX4, "carryOutFlight", "(III)I"⟩
abbrev cX4_carryOutLift : ByteArray := prog_6_method_6_code
def yX4_carryOutLift : MethodName := ⟨RX4, "carryOutLift", "(IIII)V"⟩
abbrev cX4_passTurn : ByteArray := prog_6_method_7_code
def yX4_passTurn : MethodName := ⟨RX4, "passTurn", "()V"⟩
abbrev cX4_allFlights : ByteArray := prog_6_method_8_code
def yX4_allFlights : MethodName := ⟨RX4, "allFlights", "()I"⟩
abbrev cX4_allFouls : ByteArray := prog_6_method_9_code
def yX4_allFouls : MethodName := ⟨RX4, "allFouls", "()I"⟩
def RX5 : String := "SquopPiles"
def TX5 : u_T := fun k => match k with
  | 0 => ("SquopPiles", "now", "LSquopPiles$State;", true)
  | 1 => ("SquopPiles", "snapshot", "LSquopPiles$State;", true)
  | 2 => ("SquopPiles", "past", "LSquopPiles$Past;", true)
  | 3 => ("SquopPiles", "text", "LSquopPiles$GameText;", true)
  | 4 => ("SquopPiles", "trial", "LSquopPiles$Mat;", true)
  | 5 => ("SquopPiles", "routes", "LSquopPiles$Routes;", true)
  | _ => ("SquopPiles", "hasSnapshot", "Z", false)
def tyX5 : Nat → FieldType := fun k => match k with
  | 0 => .object "SquopPiles$State"
  | 1 => .object "SquopPiles$State"
  | 2 => .object "SquopPiles$Past"
  | 3 => .object "SquopPiles$GameText"
  | 4 => .object "SquopPiles$Mat"
  | 5 => .object "SquopPiles$Routes"
  | _ => .boolean
abbrev wsX50 : List Cond := u_ws RX5 TX5 7
theorem nmX5 : ∀ a, a < 7 → ∀ b, b < 7 → a ≠ b → (TX5 a).2.1 ≠ (TX5 b).2.1 := by decide +kernel
theorem tyX5_ok : ∀ k, k < 7 → parseFieldDescriptor (TX5 k).2.2.1 = some (tyX5 k) := by decide +kernel
abbrev cX5_init : ByteArray := prog_1_method_1_code
def yX5_init : MethodName := ⟨RX5, "<init>", "()V"⟩
abbrev cX5_fly : ByteArray := prog_1_method_2_code
def yX5_fly : MethodName := ⟨RX5, "fly", "(III)I"⟩
abbrev cX5_lift : ByteArray := prog_1_method_3_code
def yX5_lift : MethodName := ⟨RX5, "lift", "(IIII)I"⟩
abbrev cX5_set : ByteArray := prog_1_method_4_code
def yX5_set : MethodName := ⟨RX5, "set", "(I)I"⟩
abbrev cX5_put : ByteArray := prog_1_method_5_code
def yX5_put : MethodName := ⟨RX5, "put", "(III)I"⟩
abbrev cX5_append : ByteArray := prog_1_method_6_code
def yX5_append : MethodName := ⟨RX5, "append", "(I)I"⟩
abbrev cX5_clearBuffer : ByteArray := prog_1_method_7_code
def yX5_clearBuffer : MethodName := ⟨RX5, "clearBuffer", "()I"⟩
abbrev cX5_firstError : ByteArray := prog_1_method_8_code
def yX5_firstError : MethodName := ⟨RX5, "firstError", "()I"⟩
abbrev cX5_play : ByteArray := prog_1_method_9_code
def yX5_play : MethodName := ⟨RX5, "play", "()I"⟩
abbrev cX5_keep : ByteArray := prog_1_method_10_code
def yX5_keep : MethodName := ⟨RX5, "keep", "()I"⟩
abbrev cX5_goBack : ByteArray := prog_1_method_11_code
def yX5_goBack : MethodName := ⟨RX5, "goBack", "()I"⟩
abbrev cX5_undo : ByteArray := prog_1_method_12_code
def yX5_undo : MethodName := ⟨RX5, "undo", "()I"⟩
abbrev cX5_wink : ByteArray := prog_1_method_13_code
def yX5_wink : MethodName := ⟨RX5, "wink", "(II)I"⟩
abbrev cX5_pile : ByteArray := prog_1_method_14_code
def yX5_pile : MethodName := ⟨RX5, "pile", "(III)I"⟩
abbrev cX5_colour : ByteArray := prog_1_method_15_code
def yX5_colour : MethodName := ⟨RX5, "colour", "(II)I"⟩
abbrev cX5_count : ByteArray := prog_1_method_16_code
def yX5_count : MethodName := ⟨RX5, "count", "(I)I"⟩
abbrev cX5_why : ByteArray := prog_1_method_17_code
def yX5_why : MethodName := ⟨RX5, "why", "(IIII)I"⟩
abbrev cX5_lands : ByteArray := prog_1_method_18_code
def yX5_lands : MethodName := ⟨RX5, "lands", "(III)I"⟩
abbrev cX5_ifFlown : ByteArray := prog_1_method_19_code
def yX5_ifFlown : MethodName := ⟨RX5, "ifFlown", "(IIII)I"⟩
abbrev cX5_best : ByteArray := prog_1_method_20_code
def yX5_best : MethodName := ⟨RX5, "best", "()I"⟩
abbrev cX5_flightsTo : ByteArray := prog_1_method_21_code
def yX5_flightsTo : MethodName := ⟨RX5, "flightsTo", "(I)I"⟩
abbrev cX5_pottedShare : ByteArray := prog_1_method_22_code
def yX5_pottedShare : MethodName := ⟨RX5, "pottedShare", "()D"⟩
abbrev cX5_meanPile : ByteArray := prog_1_method_23_code
def yX5_meanPile : MethodName := ⟨RX5, "meanPile", "()F"⟩
abbrev cX5_digest : ByteArray := prog_1_method_24_code
def yX5_digest : MethodName := ⟨RX5, "digest", "()J"⟩
abbrev cX5_mixed : ByteArray := prog_1_method_25_code
def yX5_mixed : MethodName := ⟨RX5, "mixed", "(JJ)J"⟩
abbrev cX5_withWinks : ByteArray := prog_1_method_26_code
def yX5_withWinks : MethodName := ⟨RX5, "withWinks", "(J)J"⟩
abbrev cX5_withColours : ByteArray := prog_1_method_27_code
def yX5_withColours : MethodName := ⟨RX5, "withColours", "(J)J"⟩
abbrev cX5_withPiles : ByteArray := prog_1_method_28_code
def yX5_withPiles : MethodName := ⟨RX5, "withPiles", "(J)J"⟩
abbrev cX5_withText : ByteArray := prog_1_method_29_code
def yX5_withText : MethodName := ⟨RX5, "withText", "(J)J"⟩
abbrev cX5_bitsOf : ByteArray := prog_1_method_30_code
def yX5_bitsOf : MethodName := ⟨RX5, "bitsOf", "(DII)J"⟩
abbrev cX5_tryFlight : ByteArray := prog_1_method_31_code
def yX5_tryFlight : MethodName := ⟨RX5, "tryFlight", "(III)V"⟩
abbrev cX5_doParts : ByteArray := prog_1_method_32_code
def yX5_doParts : MethodName := ⟨RX5, "doParts", "()I"⟩
abbrev cX5_doFlightPart : ByteArray := prog_1_method_33_code
def yX5_doFlightPart : MethodName := ⟨RX5, "doFlightPart", "(I)Z"⟩
abbrev cX5_doLiftPart : ByteArray := prog_1_method_34_code
def yX5_doLiftPart : MethodName := ⟨RX5, "doLiftPart", "(I)Z"⟩
abbrev cX5_requireWink : ByteArray := prog_1_method_35_code
def yX5_requireWink : MethodName := ⟨RX5, "requireWink", "(I)V"⟩
abbrev cX5_requireCell : ByteArray := prog_1_method_36_code
def yX5_requireCell : MethodName := ⟨RX5, "requireCell", "(II)V"⟩
abbrev cX5_requireFlight : ByteArray := prog_1_method_37_code
def yX5_requireFlight : MethodName := ⟨RX5, "requireFlight", "(II)V"⟩
abbrev cX5_requireLift : ByteArray := prog_1_method_38_code
def yX5_requireLift : MethodName := ⟨RX5, "requireLift", "(II)V"⟩
abbrev cX5_requireDirection : ByteArray := prog_1_method_39_code
def yX5_requireDirection : MethodName := ⟨RX5, "requireDirection", "(I)V"⟩
abbrev cX5_isWink : ByteArray := prog_1_method_40_code
def yX5_isWink : MethodName := ⟨RX5, "isWink", "(I)Z"⟩
abbrev cX5_isColour : ByteArray := prog_1_method_41_code
def yX5_isColour : MethodName := ⟨RX5, "isColour", "(I)Z"⟩
abbrev cX5_isOnMat : ByteArray := prog_1_method_42_code
def yX5_isOnMat : MethodName := ⟨RX5, "isOnMat", "(II)Z"⟩
abbrev cX5_colourOf : ByteArray := prog_1_method_43_code
def yX5_colourOf : MethodName := ⟨RX5, "colourOf", "(I)I"⟩
abbrev cX5_teamOf : ByteArray := prog_1_method_44_code
def yX5_teamOf : MethodName := ⟨RX5, "teamOf", "(I)I"⟩
abbrev cX5_isLarge : ByteArray := prog_1_method_45_code
def yX5_isLarge : MethodName := ⟨RX5, "isLarge", "(I)Z"⟩
abbrev cX5_stepsOf : ByteArray := prog_1_method_46_code
def yX5_stepsOf : MethodName := ⟨RX5, "stepsOf", "(II)I"⟩
abbrev cX5_cellAt : ByteArray := prog_1_method_47_code
def yX5_cellAt : MethodName := ⟨RX5, "cellAt", "(II)I"⟩
abbrev cX5_baseOf : ByteArray := prog_1_method_48_code
def yX5_baseOf : MethodName := ⟨RX5, "baseOf", "(I)I"⟩
abbrev cX5_eastOf : ByteArray := prog_1_method_49_code
def yX5_eastOf : MethodName := ⟨RX5, "eastOf", "(I)I"⟩
abbrev cX5_southOf : ByteArray := prog_1_method_50_code
def yX5_southOf : MethodName := ⟨RX5, "southOf", "(I)I"⟩
abbrev cX5_cellBeside : ByteArray := prog_1_method_51_code
def yX5_cellBeside : MethodName := ⟨RX5, "cellBeside", "(III)I"⟩
abbrev cX5_landing : ByteArray := prog_1_method_52_code
def yX5_landing : MethodName := ⟨RX5, "landing", "(III)I"⟩
abbrev cX5_restingCell : ByteArray := prog_1_method_53_code
def yX5_restingCell : MethodName := ⟨RX5, "restingCell", "(II)I"⟩
abbrev cX5_flightAnswer : ByteArray := prog_1_method_54_code
def yX5_flightAnswer : MethodName := ⟨RX5, "flightAnswer", "(I)I"⟩
def RX6 : String := "SquopPilesModel"
def TX6 : u_T := fun k => match k with
  | 0 => ("SquopPilesModel", "row", "[I", true)
  | 1 => ("SquopPilesModel", "past", "[I", true)
  | 2 => ("SquopPilesModel", "slot", "[I", true)
  | 3 => ("SquopPilesModel", "aside", "[I", true)
  | 4 => ("SquopPilesModel", "near", "[I", true)
  | 5 => ("SquopPilesModel", "far", "[I", true)
  | 6 => ("SquopPilesModel", "buffer", "[I", true)
  | 7 => ("SquopPilesModel", "has", "Z", false)
  | 8 => ("SquopPilesModel", "states", "I", false)
  | 9 => ("SquopPilesModel", "length", "I", false)
  | 10 => ("SquopPilesModel", "at", "I", false)
  | _ => ("SquopPilesModel", "thrown", "I", false)
def tyX6 : Nat → FieldType := fun k => match k with
  | 0 => .array .int
  | 1 => .array .int
  | 2 => .array .int
  | 3 => .array .int
  | 4 => .array .int
  | 5 => .array .int
  | 6 => .array .int
  | 7 => .boolean
  | 8 => .int
  | 9 => .int
  | 10 => .int
  | _ => .int
abbrev wsX60 : List Cond := u_ws RX6 TX6 12
theorem nmX6 : ∀ a, a < 12 → ∀ b, b < 12 → a ≠ b → (TX6 a).2.1 ≠ (TX6 b).2.1 := by decide +kernel
theorem tyX6_ok : ∀ k, k < 12 → parseFieldDescriptor (TX6 k).2.2.1 = some (tyX6 k) := by decide +kernel
abbrev cX6_init : ByteArray := prog_8_method_1_code
def yX6_init : MethodName := ⟨RX6, "<init>", "()V"⟩
abbrev cX6_thrown : ByteArray := prog_8_method_2_code
def yX6_thrown : MethodName := ⟨RX6, "thrown", "()I"⟩
abbrev cX6_fails : ByteArray := prog_8_method_3_code
def yX6_fails : MethodName := ⟨RX6, "fails", "(I)I"⟩
abbrev cX6_in : ByteArray := prog_8_method_4_code
def yX6_in : MethodName := ⟨RX6, "in", "(III)Z"⟩
abbrev cX6_base : ByteArray := prog_8_method_5_code
def yX6_base : MethodName := ⟨RX6, "base", "(I)I"⟩
abbrev cX6_eastOf : ByteArray := prog_8_method_6_code
def yX6_eastOf : MethodName := ⟨RX6, "eastOf", "(I)I"⟩
abbrev cX6_southOf : ByteArray := prog_8_method_7_code
def yX6_southOf : MethodName := ⟨RX6, "southOf", "(I)I"⟩
abbrev cX6_record : ByteArray := prog_8_method_8_code
def yX6_record : MethodName := ⟨RX6, "record", "()V"⟩
abbrev cX6_putAside : ByteArray := prog_8_method_9_code
def yX6_putAside : MethodName := ⟨RX6, "putAside", "()V"⟩
abbrev cX6_takeBack : ByteArray := prog_8_method_10_code
def yX6_takeBack : MethodName := ⟨RX6, "takeBack", "()V"⟩
abbrev cX6_lying : ByteArray := prog_8_method_11_code
def yX6_lying : MethodName := ⟨RX6, "lying", "(I)I"⟩
abbrev cX6_winkAt : ByteArray := prog_8_method_12_code
def yX6_winkAt : MethodName := ⟨RX6, "winkAt", "(II)I"⟩
abbrev cX6_isPotted : ByteArray := prog_8_method_13_code
def yX6_isPotted : MethodName := ⟨RX6, "isPotted", "(I)Z"⟩
abbrev cX6_isCovered : ByteArray := prog_8_method_14_code
def yX6_isCovered : MethodName := ⟨RX6, "isCovered", "(I)Z"⟩
abbrev cX6_pottedOf : ByteArray := prog_8_method_15_code
def yX6_pottedOf : MethodName := ⟨RX6, "pottedOf", "(I)I"⟩
abbrev cX6_isOver : ByteArray := prog_8_method_16_code
def yX6_isOver : MethodName := ⟨RX6, "isOver", "()Z"⟩
abbrev cX6_pottedInAll : ByteArray := prog_8_method_17_code
def yX6_pottedInAll : MethodName := ⟨RX6, "pottedInAll", "()I"⟩
abbrev cX6_lay : ByteArray := prog_8_method_18_code
def yX6_lay : MethodName := ⟨RX6, "lay", "(II)V"⟩
abbrev cX6_points : ByteArray := prog_8_method_19_code
def yX6_points : MethodName := ⟨RX6, "points", "(I)I"⟩
abbrev cX6_team : ByteArray := prog_8_method_20_code
def yX6_team : MethodName := ⟨RX6, "team", "(I)I"⟩
abbrev cX6_pass : ByteArray := prog_8_method_21_code
def yX6_pass : MethodName := ⟨RX6, "pass", "()V"⟩
abbrev cX6_leads : ByteArray := prog_8_method_22_code
def yX6_leads : MethodName := ⟨RX6, "leads", "(III)I"⟩
abbrev cX6_steps : ByteArray := prog_8_method_23_code
def yX6_steps : MethodName := ⟨RX6, "steps", "(II)I"⟩
abbrev cX6_told : ByteArray := prog_8_method_24_code
def yX6_told : MethodName := ⟨RX6, "told", "(I)I"⟩
abbrev cX6_whyNot : ByteArray := prog_8_method_25_code
def yX6_whyNot : MethodName := ⟨RX6, "whyNot", "(I)I"⟩
abbrev cX6_flies : ByteArray := prog_8_method_26_code
def yX6_flies : MethodName := ⟨RX6, "flies", "(III)I"⟩
abbrev cX6_beside : ByteArray := prog_8_method_27_code
def yX6_beside : MethodName := ⟨RX6, "beside", "(II)I"⟩
abbrev cX6_whyNotLifted : ByteArray := prog_8_method_28_code
def yX6_whyNotLifted : MethodName := ⟨RX6, "whyNotLifted", "(III)I"⟩
abbrev cX6_lifts : ByteArray := prog_8_method_29_code
def yX6_lifts : MethodName := ⟨RX6, "lifts", "(III)I"⟩
abbrev cX6_fly : ByteArray := prog_8_method_30_code
def yX6_fly : MethodName := ⟨RX6, "fly", "(III)I"⟩
abbrev cX6_lift : ByteArray := prog_8_method_31_code
def yX6_lift : MethodName := ⟨RX6, "lift", "(IIII)I"⟩
abbrev cX6_set : ByteArray := prog_8_method_32_code
def yX6_set : MethodName := ⟨RX6, "set", "(I)I"⟩
abbrev cX6_put : ByteArray := prog_8_method_33_code
def yX6_put : MethodName := ⟨RX6, "put", "(III)I"⟩
abbrev cX6_append : ByteArray := prog_8_method_34_code
def yX6_append : MethodName := ⟨RX6, "append", "(I)I"⟩
abbrev cX6_clearBuffer : ByteArray := prog_8_method_35_code
def yX6_clearBuffer : MethodName := ⟨RX6, "clearBuffer", "()I"⟩
abbrev cX6_takes : ByteArray := prog_8_method_36_code
def yX6_takes : MethodName := ⟨RX6, "takes", "(II)Z"⟩
abbrev cX6_part : ByteArray := prog_8_method_37_code
def yX6_part : MethodName := ⟨RX6, "part", "()Z"⟩
abbrev cX6_isWhole : ByteArray := prog_8_method_38_code
def yX6_isWhole : MethodName := ⟨RX6, "isWhole", "()Z"⟩
abbrev cX6_firstError : ByteArray := prog_8_method_39_code
def yX6_firstError : MethodName := ⟨RX6, "firstError", "()I"⟩
abbrev cX6_does : ByteArray := prog_8_method_40_code
def yX6_does : MethodName := ⟨RX6, "does", "(I)Z"⟩
abbrev cX6_play : ByteArray := prog_8_method_41_code
def yX6_play : MethodName := ⟨RX6, "play", "()I"⟩
abbrev cX6_keep : ByteArray := prog_8_method_42_code
def yX6_keep : MethodName := ⟨RX6, "keep", "()I"⟩
abbrev cX6_goBack : ByteArray := prog_8_method_43_code
def yX6_goBack : MethodName := ⟨RX6, "goBack", "()I"⟩
abbrev cX6_undo : ByteArray := prog_8_method_44_code
def yX6_undo : MethodName := ⟨RX6, "undo", "()I"⟩
abbrev cX6_ofWink : ByteArray := prog_8_method_45_code
def yX6_ofWink : MethodName := ⟨RX6, "ofWink", "(II)I"⟩
abbrev cX6_wink : ByteArray := prog_8_method_46_code
def yX6_wink : MethodName := ⟨RX6, "wink", "(II)I"⟩
abbrev cX6_colours : ByteArray := prog_8_method_47_code
def yX6_colours : MethodName := ⟨RX6, "colours", "(I)I"⟩
abbrev cX6_ofPile : ByteArray := prog_8_method_48_code
def yX6_ofPile : MethodName := ⟨RX6, "ofPile", "(II)I"⟩
abbrev cX6_pile : ByteArray := prog_8_method_49_code
def yX6_pile : MethodName := ⟨RX6, "pile", "(III)I"⟩
abbrev cX6_coveredOf : ByteArray := prog_8_method_50_code
def yX6_coveredOf : MethodName := ⟨RX6, "coveredOf", "(I)I"⟩
abbrev cX6_below : ByteArray := prog_8_method_51_code
def yX6_below : MethodName := ⟨RX6, "below", "(I)I"⟩
abbrev cX6_ofColour : ByteArray := prog_8_method_52_code
def yX6_ofColour : MethodName := ⟨RX6, "ofColour", "(II)I"⟩
abbrev cX6_colour : ByteArray := prog_8_method_53_code
def yX6_colour : MethodName := ⟨RX6, "colour", "(II)I"⟩
abbrev cX6_piles : ByteArray := prog_8_method_54_code
def yX6_piles : MethodName := ⟨RX6, "piles", "()I"⟩
abbrev cX6_highest : ByteArray := prog_8_method_55_code
def yX6_highest : MethodName := ⟨RX6, "highest", "()I"⟩
abbrev cX6_covered : ByteArray := prog_8_method_56_code
def yX6_covered : MethodName := ⟨RX6, "covered", "()I"⟩
abbrev cX6_number : ByteArray := prog_8_method_57_code
def yX6_number : MethodName := ⟨RX6, "number", "(I)I"⟩
abbrev cX6_count : ByteArray := prog_8_method_58_code
def yX6_count : MethodName := ⟨RX6, "count", "(I)I"⟩
abbrev cX6_why : ByteArray := prog_8_method_59_code
def yX6_why : MethodName := ⟨RX6, "why", "(IIII)I"⟩
abbrev cX6_landing : ByteArray := prog_8_method_60_code
def yX6_landing : MethodName := ⟨RX6, "landing", "(III)I"⟩
abbrev cX6_lands : ByteArray := prog_8_method_61_code
def yX6_lands : MethodName := ⟨RX6, "lands", "(III)I"⟩
abbrev cX6_brings : ByteArray := prog_8_method_62_code
def yX6_brings : MethodName := ⟨RX6, "brings", "(IIII)I"⟩
abbrev cX6_ifFlown : ByteArray := prog_8_method_63_code
def yX6_ifFlown : MethodName := ⟨RX6, "ifFlown", "(IIII)I"⟩
abbrev cX6_bestFlight : ByteArray := prog_8_method_64_code
def yX6_bestFlight : MethodName := ⟨RX6, "bestFlight", "()I"⟩
abbrev cX6_best : ByteArray := prog_8_method_65_code
def yX6_best : MethodName := ⟨RX6, "best", "()I"⟩
abbrev cX6_fewest : ByteArray := prog_8_method_66_code
def yX6_fewest : MethodName := ⟨RX6, "fewest", "(I)I"⟩
abbrev cX6_flightsTo : ByteArray := prog_8_method_67_code
def yX6_flightsTo : MethodName := ⟨RX6, "flightsTo", "(I)I"⟩
abbrev cX6_pottedShare : ByteArray := prog_8_method_68_code
def yX6_pottedShare : MethodName := ⟨RX6, "pottedShare", "()D"⟩
abbrev cX6_meanPile : ByteArray := prog_8_method_69_code
def yX6_meanPile : MethodName := ⟨RX6, "meanPile", "()F"⟩
abbrev cX6_ofCells : ByteArray := prog_8_method_70_code
def yX6_ofCells : MethodName := ⟨RX6, "ofCells", "(J)J"⟩
abbrev cX6_ofWinks : ByteArray := prog_8_method_71_code
def yX6_ofWinks : MethodName := ⟨RX6, "ofWinks", "(J)J"⟩
abbrev cX6_digest : ByteArray := prog_8_method_72_code
def yX6_digest : MethodName := ⟨RX6, "digest", "()J"⟩
def RJx145de : String := "java/io/Serializable"
def TJx145de : u_T := fun k => match k with
  | _ => ("", "", "", false)
def tyJx145de : Nat → FieldType := fun k => match k with
  | _ => .int
abbrev wsJx145de0 : List Cond := u_ws RJx145de TJx145de 0
theorem nmJx145de : ∀ a, a < 0 → ∀ b, b < 0 → a ≠ b → (TJx145de a).2.1 ≠ (TJx145de b).2.1 := by decide +kernel
theorem tyJx145de_ok : ∀ k, k < 0 → parseFieldDescriptor (TJx145de k).2.2.1 = some (tyJx145de k) := by decide +kernel
def RJxb160c : String := "java/lang/Comparable"
def TJxb160c : u_T := fun k => match k with
  | _ => ("", "", "", false)
def tyJxb160c : Nat → FieldType := fun k => match k with
  | _ => .int
abbrev wsJxb160c0 : List Cond := u_ws RJxb160c TJxb160c 0
theorem nmJxb160c : ∀ a, a < 0 → ∀ b, b < 0 → a ≠ b → (TJxb160c a).2.1 ≠ (TJxb160c b).2.1 := by decide +kernel
theorem tyJxb160c_ok : ∀ k, k < 0 → parseFieldDescriptor (TJxb160c k).2.2.1 = some (tyJxb160c k) := by decide +kernel
def RJxe99ae : String := "java/lang/Double"
def TJxe99ae : u_T := fun k => match k with
  | _ => ("", "", "", false)
def tyJxe99ae : Nat → FieldType := fun k => match k with
  | _ => .int
abbrev wsJxe99ae0 : List Cond := u_ws RJxe99ae TJxe99ae 0
theorem nmJxe99ae : ∀ a, a < 0 → ∀ b, b < 0 → a ≠ b → (TJxe99ae a).2.1 ≠ (TJxe99ae b).2.1 := by decide +kernel
theorem tyJxe99ae_ok : ∀ k, k < 0 → parseFieldDescriptor (TJxe99ae k).2.2.1 = some (tyJxe99ae k) := by decide +kernel
abbrev cJxe99ae_isNaN_b9ae7 : ByteArray := prog_9_method_6_code
def yJxe99ae_isNaN_b9ae7 : MethodName := ⟨RJxe99ae, "isNaN", "(D)Z"⟩
abbrev cJxe99ae_doubleToLongBits_ccdee : ByteArray := prog_9_method_23_code
def yJxe99ae_doubleToLongBits_ccdee : MethodName := ⟨RJxe99ae, "doubleToLongBits", "(D)J"⟩
def RJxf58ca : String := "java/lang/Float"
def TJxf58ca : u_T := fun k => match k with
  | _ => ("", "", "", false)
def tyJxf58ca : Nat → FieldType := fun k => match k with
  | _ => .int
abbrev wsJxf58ca0 : List Cond := u_ws RJxf58ca TJxf58ca 0
theorem nmJxf58ca : ∀ a, a < 0 → ∀ b, b < 0 → a ≠ b → (TJxf58ca a).2.1 ≠ (TJxf58ca b).2.1 := by decide +kernel
theorem tyJxf58ca_ok : ∀ k, k < 0 → parseFieldDescriptor (TJxf58ca k).2.2.1 = some (tyJxf58ca k) := by decide +kernel
abbrev cJxf58ca_isNaN_12338 : ByteArray := prog_11_method_6_code
def yJxf58ca_isNaN_12338 : MethodName := ⟨RJxf58ca, "isNaN", "(F)Z"⟩
abbrev cJxf58ca_floatToIntBits_5c35a : ByteArray := prog_11_method_24_code
def yJxf58ca_floatToIntBits_5c35a : MethodName := ⟨RJxf58ca, "floatToIntBits", "(F)I"⟩
def RJ9 : String := "java/lang/Math"
def TJ9 : u_T := fun k => match k with
  | _ => ("", "", "", false)
def tyJ9 : Nat → FieldType := fun k => match k with
  | _ => .int
abbrev wsJ90 : List Cond := u_ws RJ9 TJ9 0
theorem nmJ9 : ∀ a, a < 0 → ∀ b, b < 0 → a ≠ b → (TJ9 a).2.1 ≠ (TJ9 b).2.1 := by decide +kernel
theorem tyJ9_ok : ∀ k, k < 0 → parseFieldDescriptor (TJ9 k).2.2.1 = some (tyJ9 k) := by decide +kernel
abbrev cJ9_max_7cf53 : ByteArray := prog_15_method_65_code
def yJ9_max_7cf53 : MethodName := ⟨RJ9, "max", "(II)I"⟩
abbrev cJ9_min_7cf53 : ByteArray := prog_15_method_69_code
def yJ9_min_7cf53 : MethodName := ⟨RJ9, "min", "(II)I"⟩
def RJxd2413 : String := "java/lang/Number"
def TJxd2413 : u_T := fun k => match k with
  | _ => ("", "", "", false)
def tyJxd2413 : Nat → FieldType := fun k => match k with
  | _ => .int
abbrev wsJxd24130 : List Cond := u_ws RJxd2413 TJxd2413 0
theorem nmJxd2413 : ∀ a, a < 0 → ∀ b, b < 0 → a ≠ b → (TJxd2413 a).2.1 ≠ (TJxd2413 b).2.1 := by decide +kernel
theorem tyJxd2413_ok : ∀ k, k < 0 → parseFieldDescriptor (TJxd2413 k).2.2.1 = some (tyJxd2413 k) := by decide +kernel
def RJ0 : String := "java/lang/String"
def TJ0 : u_T := fun k => match k with
  | _ => ("", "", "", false)
def tyJ0 : Nat → FieldType := fun k => match k with
  | _ => .int
abbrev wsJ00 : List Cond := u_ws RJ0 TJ0 0
theorem nmJ0 : ∀ a, a < 0 → ∀ b, b < 0 → a ≠ b → (TJ0 a).2.1 ≠ (TJ0 b).2.1 := by decide +kernel
theorem tyJ0_ok : ∀ k, k < 0 → parseFieldDescriptor (TJ0 k).2.2.1 = some (tyJ0 k) := by decide +kernel
def RJ10 : String := "java/lang/System"
def TJ10 : u_T := fun k => match k with
  | _ => ("", "", "", false)
def tyJ10 : Nat → FieldType := fun k => match k with
  | _ => .int
abbrev wsJ100 : List Cond := u_ws RJ10 TJ10 0
theorem nmJ10 : ∀ a, a < 0 → ∀ b, b < 0 → a ≠ b → (TJ10 a).2.1 ≠ (TJ10 b).2.1 := by decide +kernel
theorem tyJ10_ok : ∀ k, k < 0 → parseFieldDescriptor (TJ10 k).2.2.1 = some (tyJ10 k) := by decide +kernel
def RJxfd54e : String := "java/lang/constant/Constable"
def TJxfd54e : u_T := fun k => match k with
  | _ => ("", "", "", false)
def tyJxfd54e : Nat → FieldType := fun k => match k with
  | _ => .int
abbrev wsJxfd54e0 : List Cond := u_ws RJxfd54e TJxfd54e 0
theorem nmJxfd54e : ∀ a, a < 0 → ∀ b, b < 0 → a ≠ b → (TJxfd54e a).2.1 ≠ (TJxfd54e b).2.1 := by decide +kernel
theorem tyJxfd54e_ok : ∀ k, k < 0 → parseFieldDescriptor (TJxfd54e k).2.2.1 = some (tyJxfd54e k) := by decide +kernel
def RJx3cf43 : String := "java/lang/constant/ConstantDesc"
def TJx3cf43 : u_T := fun k => match k with
  | _ => ("", "", "", false)
def tyJx3cf43 : Nat → FieldType := fun k => match k with
  | _ => .int
abbrev wsJx3cf430 : List Cond := u_ws RJx3cf43 TJx3cf43 0
theorem nmJx3cf43 : ∀ a, a < 0 → ∀ b, b < 0 → a ≠ b → (TJx3cf43 a).2.1 ≠ (TJx3cf43 b).2.1 := by decide +kernel
theorem tyJx3cf43_ok : ∀ k, k < 0 → parseFieldDescriptor (TJx3cf43 k).2.2.1 = some (tyJx3cf43 k) := by decide +kernel
def RJ7 : String := "java/util/Arrays"
def TJ7 : u_T := fun k => match k with
  | _ => ("", "", "", false)
def tyJ7 : Nat → FieldType := fun k => match k with
  | _ => .int
abbrev wsJ70 : List Cond := u_ws RJ7 TJ7 0
theorem nmJ7 : ∀ a, a < 0 → ∀ b, b < 0 → a ≠ b → (TJ7 a).2.1 ≠ (TJ7 b).2.1 := by decide +kernel
theorem tyJ7_ok : ∀ k, k < 0 → parseFieldDescriptor (TJ7 k).2.2.1 = some (tyJ7 k) := by decide +kernel
abbrev cJ7_fill_53178 : ByteArray := prog_21_method_103_code
def yJ7_fill_53178 : MethodName := ⟨RJ7, "fill", "([II)V"⟩
def RL : String := "SquopPilesLaw"
abbrev cL_fly : ByteArray := method_3_code
def yL_fly : MethodName := ⟨RL, "fly", "(LSquopPiles;III[J)I"⟩
abbrev cL_lift : ByteArray := method_4_code
def yL_lift : MethodName := ⟨RL, "lift", "(LSquopPiles;IIII[J)I"⟩
abbrev cL_set : ByteArray := method_5_code
def yL_set : MethodName := ⟨RL, "set", "(LSquopPiles;I[J)I"⟩
abbrev cL_put : ByteArray := method_6_code
def yL_put : MethodName := ⟨RL, "put", "(LSquopPiles;III[J)I"⟩
abbrev cL_append : ByteArray := method_7_code
def yL_append : MethodName := ⟨RL, "append", "(LSquopPiles;I[J)I"⟩
abbrev cL_play : ByteArray := method_8_code
def yL_play : MethodName := ⟨RL, "play", "(LSquopPiles;[J)I"⟩
abbrev cL_goBack : ByteArray := method_9_code
def yL_goBack : MethodName := ⟨RL, "goBack", "(LSquopPiles;[J)I"⟩
abbrev cL_undo : ByteArray := method_10_code
def yL_undo : MethodName := ⟨RL, "undo", "(LSquopPiles;[J)I"⟩
abbrev cL_wink : ByteArray := method_11_code
def yL_wink : MethodName := ⟨RL, "wink", "(LSquopPiles;II[J)I"⟩
abbrev cL_pile : ByteArray := method_12_code
def yL_pile : MethodName := ⟨RL, "pile", "(LSquopPiles;III[J)I"⟩
abbrev cL_colour : ByteArray := method_13_code
def yL_colour : MethodName := ⟨RL, "colour", "(LSquopPiles;II[J)I"⟩
abbrev cL_count : ByteArray := method_14_code
def yL_count : MethodName := ⟨RL, "count", "(LSquopPiles;I[J)I"⟩
abbrev cL_why : ByteArray := method_15_code
def yL_why : MethodName := ⟨RL, "why", "(LSquopPiles;IIII[J)I"⟩
abbrev cL_lands : ByteArray := method_16_code
def yL_lands : MethodName := ⟨RL, "lands", "(LSquopPiles;III[J)I"⟩
abbrev cL_ifFlown : ByteArray := method_17_code
def yL_ifFlown : MethodName := ⟨RL, "ifFlown", "(LSquopPiles;IIII[J)I"⟩
abbrev cL_flightsTo : ByteArray := method_18_code
def yL_flightsTo : MethodName := ⟨RL, "flightsTo", "(LSquopPiles;I[J)I"⟩
abbrev cL_law : ByteArray := code
def yL_law : MethodName := ⟨RL, "law", "([I)Z"⟩
theorem dk {code : ByteArray} {L : List (Nat × Instr × Nat)} (h : L.all (fun q => decide (decode code q.1 = .ok q.2)) = true) (i : Nat) {pc len : Nat} {ins : Instr} (hi : L[i]? = some (pc, ins, len)) : decode code pc = .ok (ins, len) := by
  have h1 := List.all_eq_true.mp h (pc, ins, len) (List.mem_of_getElem? hi)
  exact of_decide_eq_true h1
def kX0_init : List (Nat × Instr × Nat) := [(0, .aload_n 0, 1), (1, .invokespecial 3, 3), (4, .aload_n 0, 1), (5, .bipush 60, 2), (7, .newarray .int, 2), (9, .putfield 9, 3), (12, .aload_n 0, 1), (13, .iconst 0, 1), (14, .putfield 15, 3), (17, .return_, 1)]
theorem kX0_init_ok : kX0_init.all (fun q => decide (decode cX0_init q.1 = .ok q.2)) = true := by decide +kernel
def kX0_add : List (Nat × Instr × Nat) := [(0, .aload_n 0, 1), (1, .getfield 15, 3), (4, .bipush 60, 2), (6, .if_icmp .ge 23, 3), (9, .aload_n 0, 1), (10, .getfield 9, 3), (13, .aload_n 0, 1), (14, .getfield 15, 3), (17, .iload_n 1, 1), (18, .iastore, 1), (19, .aload_n 0, 1), (20, .dup, 1), (21, .getfield 15, 3), (24, .iconst 1, 1), (25, .iadd, 1), (26, .putfield 15, 3), (29, .return_, 1)]
theorem kX0_add_ok : kX0_add.all (fun q => decide (decode cX0_add q.1 = .ok q.2)) = true := by decide +kernel
def kX0_codeAt : List (Nat × Instr × Nat) := [(0, .iload_n 1, 1), (1, .ifCond .lt 20, 3), (4, .iload_n 1, 1), (5, .aload_n 0, 1), (6, .getfield 15, 3), (9, .if_icmp .ge 12, 3), (12, .aload_n 0, 1), (13, .getfield 9, 3), (16, .iload_n 1, 1), (17, .iaload, 1), (18, .goto 4, 3), (21, .iconst 0, 1), (22, .ireturn, 1)]
theorem kX0_codeAt_ok : kX0_codeAt.all (fun q => decide (decode cX0_codeAt q.1 = .ok q.2)) = true := by decide +kernel
def kX0_errorIndex : List (Nat × Instr × Nat) := [(0, .iconst 0, 1), (1, .istore_n 1, 1), (2, .iconst 0, 1), (3, .istore_n 2, 1), (4, .iload_n 2, 1), (5, .aload_n 0, 1), (6, .getfield 15, 3), (9, .if_icmp .ge 26, 3), (12, .iload_n 1, 1), (13, .aload_n 0, 1), (14, .iload_n 2, 1), (15, .invokevirtual 19, 3), (18, .invokestatic 23, 3), (21, .istore_n 1, 1), (22, .iload_n 1, 1), (23, .iconst (-1), 1), (24, .if_icmp .ne 5, 3), (27, .iload_n 2, 1), (28, .ireturn, 1), (29, .iinc 2 1, 3), (32, .goto (-28), 3), (35, .aload_n 0, 1), (36, .getfield 15, 3), (39, .ireturn, 1)]
theorem kX0_errorIndex_ok : kX0_errorIndex.all (fun q => decide (decode cX0_errorIndex q.1 = .ok q.2)) = true := by decide +kernel
def kX0_isComplete : List (Nat × Instr × Nat) := [(0, .iconst 0, 1), (1, .istore_n 1, 1), (2, .iconst 0, 1), (3, .istore_n 2, 1), (4, .iload_n 2, 1), (5, .aload_n 0, 1), (6, .getfield 15, 3), (9, .if_icmp .ge 19, 3), (12, .iload_n 1, 1), (13, .aload_n 0, 1), (14, .iload_n 2, 1), (15, .invokevirtual 19, 3), (18, .invokestatic 23, 3), (21, .istore_n 1, 1), (22, .iinc 2 1, 3), (25, .goto (-21), 3), (28, .iload_n 1, 1), (29, .bipush 8, 2), (31, .if_icmp .ne 7, 3), (34, .iconst 1, 1), (35, .goto 4, 3), (38, .iconst 0, 1), (39, .ireturn, 1)]
theorem kX0_isComplete_ok : kX0_isComplete.all (fun q => decide (decode cX0_isComplete q.1 = .ok q.2)) = true := by decide +kernel
def kX0_stateBehind_0 : List (Nat × Instr × Nat) := [(0, .iload_n 0, 1), (1, .tableswitch 208 0 8 #[51, 73, 90, 107, 125, 142, 160, 178, 196], 51), (52, .iload_n 1, 1), (53, .bipush 102, 2), (55, .if_icmp .ne 7, 3), (58, .iconst 1, 1), (59, .goto 14, 3), (62, .iload_n 1, 1), (63, .bipush 108, 2), (65, .if_icmp .ne 7, 3), (68, .iconst 4, 1), (69, .goto 4, 3), (72, .iconst (-1), 1), (73, .ireturn, 1), (74, .iload_n 1, 1), (75, .bipush 48, 2), (77, .bipush 51, 2), (79, .invokestatic 27, 3), (82, .ifCond .eq 7, 3), (85, .iconst 2, 1), (86, .goto 4, 3), (89, .iconst (-1), 1), (90, .ireturn, 1), (91, .iload_n 1, 1), (92, .bipush 48, 2), (94, .bipush 55, 2), (96, .invokestatic 27, 3), (99, .ifCond .eq 7, 3), (102, .iconst 3, 1), (103, .goto 4, 3), (106, .iconst (-1), 1), (107, .ireturn, 1), (108, .iload_n 1, 1), (109, .bipush 49, 2), (111, .bipush 57, 2), (113, .invokestatic 27, 3), (116, .ifCond .eq 8, 3), (119, .bipush 8, 2), (121, .goto 4, 3), (124, .iconst (-1), 1), (125, .ireturn, 1), (126, .iload_n 1, 1), (127, .bipush 97, 2), (129, .bipush 109, 2), (131, .invokestatic 27, 3), (134, .ifCond .eq 7, 3), (137, .iconst 5, 1), (138, .goto 4, 3), (141, .iconst (-1), 1), (142, .ireturn, 1), (143, .iload_n 1, 1), (144, .bipush 97, 2), (146, .bipush 109, 2), (148, .invokestatic 27, 3), (151, .ifCond .eq 8, 3), (154, .bipush 6, 2), (156, .goto 4, 3), (159, .iconst (-1), 1), (160, .ireturn, 1), (161, .iload_n 1, 1)]
theorem kX0_stateBehind_0_ok : kX0_stateBehind_0.all (fun q => decide (decode cX0_stateBehind q.1 = .ok q.2)) = true := by decide +kernel
def kX0_stateBehind_1 : List (Nat × Instr × Nat) := [(162, .bipush 49, 2), (164, .bipush 54, 2), (166, .invokestatic 27, 3), (169, .ifCond .eq 8, 3), (172, .bipush 7, 2), (174, .goto 4, 3), (177, .iconst (-1), 1), (178, .ireturn, 1), (179, .iload_n 1, 1), (180, .bipush 48, 2), (182, .bipush 55, 2), (184, .invokestatic 27, 3), (187, .ifCond .eq 8, 3), (190, .bipush 8, 2), (192, .goto 4, 3), (195, .iconst (-1), 1), (196, .ireturn, 1), (197, .iload_n 1, 1), (198, .bipush 59, 2), (200, .if_icmp .ne 7, 3), (203, .iconst 0, 1), (204, .goto 4, 3), (207, .iconst (-1), 1), (208, .ireturn, 1), (209, .iconst (-1), 1), (210, .ireturn, 1)]
theorem kX0_stateBehind_1_ok : kX0_stateBehind_1.all (fun q => decide (decode cX0_stateBehind q.1 = .ok q.2)) = true := by decide +kernel
def kX0_between : List (Nat × Instr × Nat) := [(0, .iload_n 0, 1), (1, .iload_n 1, 1), (2, .if_icmp .lt 12, 3), (5, .iload_n 0, 1), (6, .iload_n 2, 1), (7, .if_icmp .gt 7, 3), (10, .iconst 1, 1), (11, .goto 4, 3), (14, .iconst 0, 1), (15, .ireturn, 1)]
theorem kX0_between_ok : kX0_between.all (fun q => decide (decode cX0_between q.1 = .ok q.2)) = true := by decide +kernel
def kX1_init : List (Nat × Instr × Nat) := [(0, .aload_n 0, 1), (1, .invokespecial 3, 3), (4, .aload_n 0, 1), (5, .bipush 16, 2), (7, .newarray .int, 2), (9, .putfield 9, 3), (12, .aload_n 0, 1), (13, .bipush 16, 2), (15, .newarray .int, 2), (17, .putfield 15, 3), (20, .aload_n 0, 1), (21, .bipush 16, 2), (23, .newarray .int, 2), (25, .putfield 18, 3), (28, .iconst 0, 1), (29, .istore_n 1, 1), (30, .iload_n 1, 1), (31, .bipush 16, 2), (33, .if_icmp .ge 61, 3), (36, .iload_n 1, 1), (37, .iconst 4, 1), (38, .irem, 1), (39, .istore_n 2, 1), (40, .aload_n 0, 1), (41, .getfield 9, 3), (44, .iload_n 1, 1), (45, .iload_n 1, 1), (46, .invokestatic 21, 3), (49, .invokestatic 25, 3), (52, .iastore, 1), (53, .aload_n 0, 1), (54, .getfield 15, 3), (57, .iload_n 1, 1), (58, .iload_n 2, 1), (59, .ifCond .ne 7, 3), (62, .iconst (-1), 1), (63, .goto 6, 3), (66, .iload_n 1, 1), (67, .iconst 1, 1), (68, .isub, 1), (69, .iastore, 1), (70, .aload_n 0, 1), (71, .getfield 18, 3), (74, .iload_n 1, 1), (75, .iload_n 2, 1), (76, .iconst 3, 1), (77, .if_icmp .ne 7, 3), (80, .iconst (-1), 1), (81, .goto 6, 3), (84, .iload_n 1, 1), (85, .iconst 1, 1), (86, .iadd, 1), (87, .iastore, 1), (88, .iinc 1 1, 3), (91, .goto (-61), 3), (94, .return_, 1)]
theorem kX1_init_ok : kX1_init.all (fun q => decide (decode cX1_init q.1 = .ok q.2)) = true := by decide +kernel
def kX1_copyFrom : List (Nat × Instr × Nat) := [(0, .aload_n 1, 1), (1, .getfield 9, 3), (4, .iconst 0, 1), (5, .aload_n 0, 1), (6, .getfield 9, 3), (9, .iconst 0, 1), (10, .bipush 16, 2), (12, .invokestatic 28, 3), (15, .aload_n 1, 1), (16, .getfield 15, 3), (19, .iconst 0, 1), (20, .aload_n 0, 1), (21, .getfield 15, 3), (24, .iconst 0, 1), (25, .bipush 16, 2), (27, .invokestatic 28, 3), (30, .aload_n 1, 1), (31, .getfield 18, 3), (34, .iconst 0, 1), (35, .aload_n 0, 1), (36, .getfield 18, 3), (39, .iconst 0, 1), (40, .bipush 16, 2), (42, .invokestatic 28, 3), (45, .return_, 1)]
theorem kX1_copyFrom_ok : kX1_copyFrom.all (fun q => decide (decode cX1_copyFrom q.1 = .ok q.2)) = true := by decide +kernel
def kX1_move : List (Nat × Instr × Nat) := [(0, .aload_n 0, 1), (1, .getfield 15, 3), (4, .iload_n 1, 1), (5, .iaload, 1), (6, .istore_n 3, 1), (7, .iload_n 3, 1), (8, .invokestatic 34, 3), (11, .ifCond .eq 10, 3), (14, .aload_n 0, 1), (15, .getfield 18, 3), (18, .iload_n 3, 1), (19, .iconst (-1), 1), (20, .iastore, 1), (21, .aload_n 0, 1), (22, .iload_n 1, 1), (23, .iconst (-1), 1), (24, .invokevirtual 38, 3), (27, .iload_n 2, 1), (28, .bipush 84, 2), (30, .if_icmp .ne 9, 3), (33, .aload_n 0, 1), (34, .iload_n 1, 1), (35, .invokevirtual 42, 3), (38, .return_, 1), (39, .aload_n 0, 1), (40, .iload_n 2, 1), (41, .invokevirtual 46, 3), (44, .istore 4, 2), (46, .aload_n 0, 1), (47, .iload_n 1, 1), (48, .iload_n 2, 1), (49, .invokevirtual 38, 3), (52, .aload_n 0, 1), (53, .getfield 15, 3), (56, .iload_n 1, 1), (57, .iload 4, 2), (59, .iastore, 1), (60, .iload 4, 2), (62, .invokestatic 34, 3), (65, .ifCond .eq 11, 3), (68, .aload_n 0, 1), (69, .getfield 18, 3), (72, .iload 4, 2), (74, .iload_n 1, 1), (75, .iastore, 1), (76, .return_, 1)]
theorem kX1_move_ok : kX1_move.all (fun q => decide (decode cX1_move q.1 = .ok q.2)) = true := by decide +kernel
def kX1_setCells : List (Nat × Instr × Nat) := [(0, .iload_n 1, 1), (1, .istore_n 3, 1), (2, .iconst 0, 1), (3, .istore 4, 2), (5, .iload 4, 2), (7, .bipush 16, 2), (9, .if_icmp .ge 30, 3), (12, .iload_n 3, 1), (13, .invokestatic 34, 3), (16, .ifCond .eq 23, 3), (19, .aload_n 0, 1), (20, .getfield 9, 3), (23, .iload_n 3, 1), (24, .iload_n 2, 1), (25, .iastore, 1), (26, .aload_n 0, 1), (27, .getfield 18, 3), (30, .iload_n 3, 1), (31, .iaload, 1), (32, .istore_n 3, 1), (33, .iinc 4 1, 3), (36, .goto (-31), 3), (39, .return_, 1)]
theorem kX1_setCells_ok : kX1_setCells.all (fun q => decide (decode cX1_setCells q.1 = .ok q.2)) = true := by decide +kernel
def kX1_separate : List (Nat × Instr × Nat) := [(0, .iload_n 1, 1), (1, .istore_n 2, 1), (2, .iconst 0, 1), (3, .istore_n 3, 1), (4, .iload_n 3, 1), (5, .bipush 16, 2), (7, .if_icmp .ge 41, 3), (10, .iload_n 2, 1), (11, .invokestatic 34, 3), (14, .ifCond .eq 34, 3), (17, .aload_n 0, 1), (18, .getfield 18, 3), (21, .iload_n 2, 1), (22, .iaload, 1), (23, .istore 4, 2), (25, .aload_n 0, 1), (26, .getfield 15, 3), (29, .iload_n 2, 1), (30, .iconst (-1), 1), (31, .iastore, 1), (32, .aload_n 0, 1), (33, .getfield 18, 3), (36, .iload_n 2, 1), (37, .iconst (-1), 1), (38, .iastore, 1), (39, .iload 4, 2), (41, .istore_n 2, 1), (42, .iinc 3 1, 3), (45, .goto (-41), 3), (48, .return_, 1)]
theorem kX1_separate_ok : kX1_separate.all (fun q => decide (decode cX1_separate q.1 = .ok q.2)) = true := by decide +kernel
def kX1_isPotted : List (Nat × Instr × Nat) := [(0, .aload_n 0, 1), (1, .getfield 9, 3), (4, .iload_n 1, 1), (5, .iaload, 1), (6, .iconst (-1), 1), (7, .if_icmp .ne 7, 3), (10, .iconst 1, 1), (11, .goto 4, 3), (14, .iconst 0, 1), (15, .ireturn, 1)]
theorem kX1_isPotted_ok : kX1_isPotted.all (fun q => decide (decode cX1_isPotted q.1 = .ok q.2)) = true := by decide +kernel
def kX1_isCovered : List (Nat × Instr × Nat) := [(0, .aload_n 0, 1), (1, .getfield 18, 3), (4, .iload_n 1, 1), (5, .iaload, 1), (6, .iconst (-1), 1), (7, .if_icmp .eq 7, 3), (10, .iconst 1, 1), (11, .goto 4, 3), (14, .iconst 0, 1), (15, .ireturn, 1)]
theorem kX1_isCovered_ok : kX1_isCovered.all (fun q => decide (decode cX1_isCovered q.1 = .ok q.2)) = true := by decide +kernel
def kX1_placeOf : List (Nat × Instr × Nat) := [(0, .aload_n 0, 1), (1, .iload_n 1, 1), (2, .invokevirtual 49, 3), (5, .ifCond .eq 5, 3), (8, .iconst (-1), 1), (9, .ireturn, 1), (10, .iconst 0, 1), (11, .istore_n 2, 1), (12, .aload_n 0, 1), (13, .getfield 15, 3), (16, .iload_n 1, 1), (17, .iaload, 1), (18, .istore_n 3, 1), (19, .iconst 0, 1), (20, .istore 4, 2), (22, .iload 4, 2), (24, .bipush 16, 2), (26, .if_icmp .ge 26, 3), (29, .iload_n 3, 1), (30, .invokestatic 34, 3), (33, .ifCond .eq 19, 3), (36, .iinc 2 1, 3), (39, .aload_n 0, 1), (40, .getfield 15, 3), (43, .iload_n 3, 1), (44, .iaload, 1), (45, .istore_n 3, 1), (46, .iinc 4 1, 3), (49, .goto (-27), 3), (52, .iload_n 2, 1), (53, .ireturn, 1)]
theorem kX1_placeOf_ok : kX1_placeOf.all (fun q => decide (decode cX1_placeOf q.1 = .ok q.2)) = true := by decide +kernel
def kX1_topAt : List (Nat × Instr × Nat) := [(0, .iconst 0, 1), (1, .istore_n 2, 1), (2, .iload_n 2, 1), (3, .bipush 16, 2), (5, .if_icmp .ge 31, 3), (8, .aload_n 0, 1), (9, .getfield 9, 3), (12, .iload_n 2, 1), (13, .iaload, 1), (14, .iload_n 1, 1), (15, .if_icmp .ne 15, 3), (18, .aload_n 0, 1), (19, .getfield 18, 3), (22, .iload_n 2, 1), (23, .iaload, 1), (24, .iconst (-1), 1), (25, .if_icmp .ne 5, 3), (28, .iload_n 2, 1), (29, .ireturn, 1), (30, .iinc 2 1, 3), (33, .goto (-31), 3), (36, .iconst (-1), 1), (37, .ireturn, 1)]
theorem kX1_topAt_ok : kX1_topAt.all (fun q => decide (decode cX1_topAt q.1 = .ok q.2)) = true := by decide +kernel
def kX1_bottomAt : List (Nat × Instr × Nat) := [(0, .iconst 0, 1), (1, .istore_n 2, 1), (2, .iload_n 2, 1), (3, .bipush 16, 2), (5, .if_icmp .ge 31, 3), (8, .aload_n 0, 1), (9, .getfield 9, 3), (12, .iload_n 2, 1), (13, .iaload, 1), (14, .iload_n 1, 1), (15, .if_icmp .ne 15, 3), (18, .aload_n 0, 1), (19, .getfield 15, 3), (22, .iload_n 2, 1), (23, .iaload, 1), (24, .iconst (-1), 1), (25, .if_icmp .ne 5, 3), (28, .iload_n 2, 1), (29, .ireturn, 1), (30, .iinc 2 1, 3), (33, .goto (-31), 3), (36, .iconst (-1), 1), (37, .ireturn, 1)]
theorem kX1_bottomAt_ok : kX1_bottomAt.all (fun q => decide (decode cX1_bottomAt q.1 = .ok q.2)) = true := by decide +kernel
def kX1_lowestOfUpper : List (Nat × Instr × Nat) := [(0, .aload_n 0, 1), (1, .iload_n 1, 1), (2, .invokevirtual 46, 3), (5, .istore_n 3, 1), (6, .iconst 1, 1), (7, .istore 4, 2), (9, .iload 4, 2), (11, .iload_n 2, 1), (12, .if_icmp .ge 23, 3), (15, .iload_n 3, 1), (16, .invokestatic 34, 3), (19, .ifCond .eq 16, 3), (22, .aload_n 0, 1), (23, .getfield 15, 3), (26, .iload_n 3, 1), (27, .iaload, 1), (28, .istore_n 3, 1), (29, .iinc 4 1, 3), (32, .goto (-23), 3), (35, .iload_n 3, 1), (36, .ireturn, 1)]
theorem kX1_lowestOfUpper_ok : kX1_lowestOfUpper.all (fun q => decide (decode cX1_lowestOfUpper q.1 = .ok q.2)) = true := by decide +kernel
def kX1_heightAt : List (Nat × Instr × Nat) := [(0, .iconst 0, 1), (1, .istore_n 2, 1), (2, .iconst 0, 1), (3, .istore_n 3, 1), (4, .iload_n 3, 1), (5, .bipush 16, 2), (7, .if_icmp .ge 22, 3), (10, .aload_n 0, 1), (11, .getfield 9, 3), (14, .iload_n 3, 1), (15, .iaload, 1), (16, .iload_n 1, 1), (17, .if_icmp .ne 6, 3), (20, .iinc 2 1, 3), (23, .iinc 3 1, 3), (26, .goto (-22), 3), (29, .iload_n 2, 1), (30, .ireturn, 1)]
theorem kX1_heightAt_ok : kX1_heightAt.all (fun q => decide (decode cX1_heightAt q.1 = .ok q.2)) = true := by decide +kernel
def kX1_coloursAt : List (Nat × Instr × Nat) := [(0, .iconst 0, 1), (1, .istore_n 2, 1), (2, .iconst 0, 1), (3, .istore_n 3, 1), (4, .iload_n 3, 1), (5, .bipush 16, 2), (7, .if_icmp .ge 28, 3), (10, .aload_n 0, 1), (11, .getfield 9, 3), (14, .iload_n 3, 1), (15, .iaload, 1), (16, .iload_n 1, 1), (17, .if_icmp .ne 12, 3), (20, .iload_n 2, 1), (21, .iconst 1, 1), (22, .iload_n 3, 1), (23, .invokestatic 21, 3), (26, .ishl, 1), (27, .ior, 1), (28, .istore_n 2, 1), (29, .iinc 3 1, 3), (32, .goto (-28), 3), (35, .iload_n 2, 1), (36, .ireturn, 1)]
theorem kX1_coloursAt_ok : kX1_coloursAt.all (fun q => decide (decode cX1_coloursAt q.1 = .ok q.2)) = true := by decide +kernel
def kX1_isBottom : List (Nat × Instr × Nat) := [(0, .aload_n 0, 1), (1, .getfield 9, 3), (4, .iload_n 1, 1), (5, .iaload, 1), (6, .iconst (-1), 1), (7, .if_icmp .eq 17, 3), (10, .aload_n 0, 1), (11, .getfield 15, 3), (14, .iload_n 1, 1), (15, .iaload, 1), (16, .iconst (-1), 1), (17, .if_icmp .ne 7, 3), (20, .iconst 1, 1), (21, .goto 4, 3), (24, .iconst 0, 1), (25, .ireturn, 1)]
theorem kX1_isBottom_ok : kX1_isBottom.all (fun q => decide (decode cX1_isBottom q.1 = .ok q.2)) = true := by decide +kernel
def kX1_piles : List (Nat × Instr × Nat) := [(0, .iconst 0, 1), (1, .istore_n 1, 1), (2, .iconst 0, 1), (3, .istore_n 2, 1), (4, .iload_n 2, 1), (5, .bipush 16, 2), (7, .if_icmp .ge 20, 3), (10, .aload_n 0, 1), (11, .iload_n 2, 1), (12, .invokevirtual 52, 3), (15, .ifCond .eq 6, 3), (18, .iinc 1 1, 3), (21, .iinc 2 1, 3), (24, .goto (-20), 3), (27, .iload_n 1, 1), (28, .ireturn, 1)]
theorem kX1_piles_ok : kX1_piles.all (fun q => decide (decode cX1_piles q.1 = .ok q.2)) = true := by decide +kernel
def kX1_highest : List (Nat × Instr × Nat) := [(0, .iconst 0, 1), (1, .istore_n 1, 1), (2, .iconst 0, 1), (3, .istore_n 2, 1), (4, .iload_n 2, 1), (5, .bipush 16, 2), (7, .if_icmp .ge 32, 3), (10, .aload_n 0, 1), (11, .iload_n 2, 1), (12, .invokevirtual 52, 3), (15, .ifCond .eq 18, 3), (18, .iload_n 1, 1), (19, .aload_n 0, 1), (20, .aload_n 0, 1), (21, .getfield 9, 3), (24, .iload_n 2, 1), (25, .iaload, 1), (26, .invokevirtual 55, 3), (29, .invokestatic 58, 3), (32, .istore_n 1, 1), (33, .iinc 2 1, 3), (36, .goto (-32), 3), (39, .iload_n 1, 1), (40, .ireturn, 1)]
theorem kX1_highest_ok : kX1_highest.all (fun q => decide (decode cX1_highest q.1 = .ok q.2)) = true := by decide +kernel
def kX1_coveredByPiles : List (Nat × Instr × Nat) := [(0, .iconst 0, 1), (1, .istore_n 1, 1), (2, .iconst 0, 1), (3, .istore_n 2, 1), (4, .iload_n 2, 1), (5, .bipush 16, 2), (7, .if_icmp .ge 32, 3), (10, .aload_n 0, 1), (11, .iload_n 2, 1), (12, .invokevirtual 52, 3), (15, .ifCond .eq 18, 3), (18, .iload_n 1, 1), (19, .aload_n 0, 1), (20, .aload_n 0, 1), (21, .getfield 9, 3), (24, .iload_n 2, 1), (25, .iaload, 1), (26, .invokevirtual 55, 3), (29, .iconst 1, 1), (30, .isub, 1), (31, .iadd, 1), (32, .istore_n 1, 1), (33, .iinc 2 1, 3), (36, .goto (-32), 3), (39, .iload_n 1, 1), (40, .ireturn, 1)]
theorem kX1_coveredByPiles_ok : kX1_coveredByPiles.all (fun q => decide (decode cX1_coveredByPiles q.1 = .ok q.2)) = true := by decide +kernel
def kX1_coveredByWinks : List (Nat × Instr × Nat) := [(0, .aload_n 0, 1), (1, .iconst 0, 1), (2, .invokevirtual 64, 3), (5, .aload_n 0, 1), (6, .iconst 1, 1), (7, .invokevirtual 64, 3), (10, .iadd, 1), (11, .ireturn, 1)]
theorem kX1_coveredByWinks_ok : kX1_coveredByWinks.all (fun q => decide (decode cX1_coveredByWinks q.1 = .ok q.2)) = true := by decide +kernel
def kX1_coveredOfTeam : List (Nat × Instr × Nat) := [(0, .aload_n 0, 1), (1, .iload_n 1, 1), (2, .invokevirtual 67, 3), (5, .aload_n 0, 1), (6, .iload_n 1, 1), (7, .iconst 2, 1), (8, .iadd, 1), (9, .invokevirtual 67, 3), (12, .iadd, 1), (13, .ireturn, 1)]
theorem kX1_coveredOfTeam_ok : kX1_coveredOfTeam.all (fun q => decide (decode cX1_coveredOfTeam q.1 = .ok q.2)) = true := by decide +kernel
def kX1_coveredOf : List (Nat × Instr × Nat) := [(0, .iconst 0, 1), (1, .istore_n 2, 1), (2, .iconst 0, 1), (3, .istore_n 3, 1), (4, .iload_n 3, 1), (5, .iconst 4, 1), (6, .if_icmp .ge 24, 3), (9, .aload_n 0, 1), (10, .iconst 4, 1), (11, .iload_n 1, 1), (12, .imul, 1), (13, .iload_n 3, 1), (14, .iadd, 1), (15, .invokevirtual 70, 3), (18, .ifCond .eq 6, 3), (21, .iinc 2 1, 3), (24, .iinc 3 1, 3), (27, .goto (-23), 3), (30, .iload_n 2, 1), (31, .ireturn, 1)]
theorem kX1_coveredOf_ok : kX1_coveredOf.all (fun q => decide (decode cX1_coveredOf q.1 = .ok q.2)) = true := by decide +kernel
def kX1_potted : List (Nat × Instr × Nat) := [(0, .iconst 0, 1), (1, .istore_n 1, 1), (2, .iconst 0, 1), (3, .istore_n 2, 1), (4, .iload_n 2, 1), (5, .iconst 4, 1), (6, .if_icmp .ge 17, 3), (9, .iload_n 1, 1), (10, .aload_n 0, 1), (11, .iload_n 2, 1), (12, .invokevirtual 73, 3), (15, .iadd, 1), (16, .istore_n 1, 1), (17, .iinc 2 1, 3), (20, .goto (-16), 3), (23, .iload_n 1, 1), (24, .ireturn, 1)]
theorem kX1_potted_ok : kX1_potted.all (fun q => decide (decode cX1_potted q.1 = .ok q.2)) = true := by decide +kernel
def kX1_pottedOf : List (Nat × Instr × Nat) := [(0, .iconst 0, 1), (1, .istore_n 2, 1), (2, .iconst 0, 1), (3, .istore_n 3, 1), (4, .iload_n 3, 1), (5, .iconst 4, 1), (6, .if_icmp .ge 26, 3), (9, .aload_n 0, 1), (10, .getfield 9, 3), (13, .iconst 4, 1), (14, .iload_n 1, 1), (15, .imul, 1), (16, .iload_n 3, 1), (17, .iadd, 1), (18, .iaload, 1), (19, .iconst (-1), 1), (20, .if_icmp .ne 6, 3), (23, .iinc 2 1, 3), (26, .iinc 3 1, 3), (29, .goto (-25), 3), (32, .iload_n 2, 1), (33, .ireturn, 1)]
theorem kX1_pottedOf_ok : kX1_pottedOf.all (fun q => decide (decode cX1_pottedOf q.1 = .ok q.2)) = true := by decide +kernel
def kX1_isAllPotted : List (Nat × Instr × Nat) := [(0, .aload_n 0, 1), (1, .iload_n 1, 1), (2, .invokevirtual 73, 3), (5, .iconst 4, 1), (6, .if_icmp .ne 7, 3), (9, .iconst 1, 1), (10, .goto 4, 3), (13, .iconst 0, 1), (14, .ireturn, 1)]
theorem kX1_isAllPotted_ok : kX1_isAllPotted.all (fun q => decide (decode cX1_isAllPotted q.1 = .ok q.2)) = true := by decide +kernel
def kX1_isOver : List (Nat × Instr × Nat) := [(0, .iconst 0, 1), (1, .istore_n 1, 1), (2, .iload_n 1, 1), (3, .iconst 4, 1), (4, .if_icmp .ge 19, 3), (7, .aload_n 0, 1), (8, .iload_n 1, 1), (9, .invokevirtual 76, 3), (12, .ifCond .eq 5, 3), (15, .iconst 1, 1), (16, .ireturn, 1), (17, .iinc 1 1, 3), (20, .goto (-18), 3), (23, .iconst 0, 1), (24, .ireturn, 1)]
theorem kX1_isOver_ok : kX1_isOver.all (fun q => decide (decode cX1_isOver q.1 = .ok q.2)) = true := by decide +kernel
def kX1_pointsOf : List (Nat × Instr × Nat) := [(0, .iload_n 1, 1), (1, .invokestatic 25, 3), (4, .istore_n 2, 1), (5, .iconst 0, 1), (6, .istore_n 3, 1), (7, .iconst 0, 1), (8, .istore 4, 2), (10, .iload 4, 2), (12, .iconst 4, 1), (13, .if_icmp .ge 55, 3), (16, .iconst 4, 1), (17, .iload_n 1, 1), (18, .imul, 1), (19, .iload 4, 2), (21, .iadd, 1), (22, .istore 5, 2), (24, .aload_n 0, 1), (25, .iload 5, 2), (27, .invokevirtual 49, 3), (30, .ifCond .eq 9, 3), (33, .iinc 3 3, 3), (36, .goto 26, 3), (39, .aload_n 0, 1), (40, .iload 5, 2), (42, .invokevirtual 70, 3), (45, .ifCond .ne 17, 3), (48, .aload_n 0, 1), (49, .getfield 9, 3), (52, .iload 5, 2), (54, .iaload, 1), (55, .iload_n 2, 1), (56, .if_icmp .eq 6, 3), (59, .iinc 3 1, 3), (62, .iinc 4 1, 3), (65, .goto (-55), 3), (68, .iload_n 3, 1), (69, .ireturn, 1)]
theorem kX1_pointsOf_ok : kX1_pointsOf.all (fun q => decide (decode cX1_pointsOf q.1 = .ok q.2)) = true := by decide +kernel
def kX1_pointsOfTeam : List (Nat × Instr × Nat) := [(0, .aload_n 0, 1), (1, .iload_n 1, 1), (2, .invokevirtual 79, 3), (5, .aload_n 0, 1), (6, .iload_n 1, 1), (7, .iconst 2, 1), (8, .iadd, 1), (9, .invokevirtual 79, 3), (12, .iadd, 1), (13, .ireturn, 1)]
theorem kX1_pointsOfTeam_ok : kX1_pointsOfTeam.all (fun q => decide (decode cX1_pointsOfTeam q.1 = .ok q.2)) = true := by decide +kernel
def kX1_leadOf : List (Nat × Instr × Nat) := [(0, .aload_n 0, 1), (1, .iload_n 1, 1), (2, .invokevirtual 82, 3), (5, .aload_n 0, 1), (6, .iconst 1, 1), (7, .iload_n 1, 1), (8, .isub, 1), (9, .invokevirtual 82, 3), (12, .isub, 1), (13, .ireturn, 1)]
theorem kX1_leadOf_ok : kX1_leadOf.all (fun q => decide (decode cX1_leadOf q.1 = .ok q.2)) = true := by decide +kernel
def kX1_othersBelow : List (Nat × Instr × Nat) := [(0, .iconst 0, 1), (1, .istore_n 2, 1), (2, .iconst 0, 1), (3, .istore_n 3, 1), (4, .iload_n 3, 1), (5, .bipush 16, 2), (7, .if_icmp .ge 29, 3), (10, .iload_n 3, 1), (11, .invokestatic 21, 3), (14, .iload_n 1, 1), (15, .if_icmp .eq 15, 3), (18, .aload_n 0, 1), (19, .iload_n 3, 1), (20, .iload_n 1, 1), (21, .invokevirtual 85, 3), (24, .ifCond .eq 6, 3), (27, .iinc 2 1, 3), (30, .iinc 3 1, 3), (33, .goto (-29), 3), (36, .iload_n 2, 1), (37, .ireturn, 1)]
theorem kX1_othersBelow_ok : kX1_othersBelow.all (fun q => decide (decode cX1_othersBelow q.1 = .ok q.2)) = true := by decide +kernel
def kX1_liesBelow : List (Nat × Instr × Nat) := [(0, .aload_n 0, 1), (1, .getfield 18, 3), (4, .iload_n 1, 1), (5, .iaload, 1), (6, .istore_n 3, 1), (7, .iconst 0, 1), (8, .istore 4, 2), (10, .iload 4, 2), (12, .bipush 16, 2), (14, .if_icmp .ge 33, 3), (17, .iload_n 3, 1), (18, .invokestatic 34, 3), (21, .ifCond .eq 26, 3), (24, .iload_n 3, 1), (25, .invokestatic 21, 3), (28, .iload_n 2, 1), (29, .if_icmp .ne 5, 3), (32, .iconst 1, 1), (33, .ireturn, 1), (34, .aload_n 0, 1), (35, .getfield 18, 3), (38, .iload_n 3, 1), (39, .iaload, 1), (40, .istore_n 3, 1), (41, .iinc 4 1, 3), (44, .goto (-34), 3), (47, .iconst 0, 1), (48, .ireturn, 1)]
theorem kX1_liesBelow_ok : kX1_liesBelow.all (fun q => decide (decode cX1_liesBelow q.1 = .ok q.2)) = true := by decide +kernel
def kX2_init : List (Nat × Instr × Nat) := [(0, .aload_n 0, 1), (1, .invokespecial 3, 3), (4, .aload_n 0, 1), (5, .bipush 6, 2), (7, .anewarray 9, 3), (10, .putfield 11, 3), (13, .aload_n 0, 1), (14, .iconst 0, 1), (15, .putfield 17, 3), (18, .aload_n 0, 1), (19, .iconst 0, 1), (20, .putfield 21, 3), (23, .iconst 0, 1), (24, .istore_n 1, 1), (25, .iload_n 1, 1), (26, .bipush 6, 2), (28, .if_icmp .ge 22, 3), (31, .aload_n 0, 1), (32, .getfield 11, 3), (35, .iload_n 1, 1), (36, .new 9, 3), (39, .dup, 1), (40, .invokespecial 24, 3), (43, .aastore, 1), (44, .iinc 1 1, 3), (47, .goto (-22), 3), (50, .return_, 1)]
theorem kX2_init_ok : kX2_init.all (fun q => decide (decode cX2_init q.1 = .ok q.2)) = true := by decide +kernel
def kX2_save : List (Nat × Instr × Nat) := [(0, .aload_n 0, 1), (1, .getfield 11, 3), (4, .aload_n 0, 1), (5, .getfield 17, 3), (8, .aaload, 1), (9, .ifnull 16, 3), (12, .aload_n 0, 1), (13, .getfield 11, 3), (16, .aload_n 0, 1), (17, .getfield 17, 3), (20, .aaload, 1), (21, .aload_n 1, 1), (22, .invokevirtual 25, 3), (25, .aload_n 0, 1), (26, .aload_n 0, 1), (27, .getfield 17, 3), (30, .iconst 1, 1), (31, .iadd, 1), (32, .bipush 6, 2), (34, .irem, 1), (35, .putfield 17, 3), (38, .aload_n 0, 1), (39, .aload_n 0, 1), (40, .getfield 21, 3), (43, .iconst 1, 1), (44, .iadd, 1), (45, .bipush 6, 2), (47, .invokestatic 29, 3), (50, .putfield 21, 3), (53, .return_, 1)]
theorem kX2_save_ok : kX2_save.all (fun q => decide (decode cX2_save q.1 = .ok q.2)) = true := by decide +kernel
def kX2_restore : List (Nat × Instr × Nat) := [(0, .aload_n 0, 1), (1, .aload_n 0, 1), (2, .getfield 17, 3), (5, .bipush 6, 2), (7, .iadd, 1), (8, .iconst 1, 1), (9, .isub, 1), (10, .bipush 6, 2), (12, .irem, 1), (13, .putfield 17, 3), (16, .aload_n 0, 1), (17, .dup, 1), (18, .getfield 21, 3), (21, .iconst 1, 1), (22, .isub, 1), (23, .putfield 21, 3), (26, .aload_n 0, 1), (27, .getfield 11, 3), (30, .aload_n 0, 1), (31, .getfield 17, 3), (34, .aaload, 1), (35, .ifnull 16, 3), (38, .aload_n 1, 1), (39, .aload_n 0, 1), (40, .getfield 11, 3), (43, .aload_n 0, 1), (44, .getfield 17, 3), (47, .aaload, 1), (48, .invokevirtual 25, 3), (51, .return_, 1)]
theorem kX2_restore_ok : kX2_restore.all (fun q => decide (decode cX2_restore q.1 = .ok q.2)) = true := by decide +kernel
def kX3_init : List (Nat × Instr × Nat) := [(0, .aload_n 0, 1), (1, .invokespecial 3, 3), (4, .aload_n 0, 1), (5, .sipush 338, 3), (8, .newarray .int, 2), (10, .putfield 9, 3), (13, .aload_n 0, 1), (14, .sipush 169, 3), (17, .newarray .int, 2), (19, .putfield 15, 3), (22, .aload_n 0, 1), (23, .sipush 169, 3), (26, .newarray .int, 2), (28, .putfield 18, 3), (31, .return_, 1)]
theorem kX3_init_ok : kX3_init.all (fun q => decide (decode cX3_init q.1 = .ok q.2)) = true := by decide +kernel
def kX3_fewest : List (Nat × Instr × Nat) := [(0, .iload_n 1, 1), (1, .ifCond .lt 10, 3), (4, .iload_n 1, 1), (5, .sipush 169, 3), (8, .if_icmp .lt 5, 3), (11, .iconst (-1), 1), (12, .ireturn, 1), (13, .iload_n 2, 1), (14, .ifCond .eq 7, 3), (17, .iload_n 1, 1), (18, .goto 8, 3), (21, .sipush 169, 3), (24, .iload_n 1, 1), (25, .iadd, 1), (26, .istore_n 3, 1), (27, .aload_n 0, 1), (28, .getfield 9, 3), (31, .iload_n 3, 1), (32, .iaload, 1), (33, .ifCond .ne 23, 3), (36, .aload_n 0, 1), (37, .getfield 9, 3), (40, .iload_n 3, 1), (41, .aload_n 0, 1), (42, .iload_n 1, 1), (43, .iload_n 2, 1), (44, .ifCond .eq 7, 3), (47, .iconst 0, 1), (48, .goto 4, 3), (51, .iconst 1, 1), (52, .invokevirtual 21, 3), (55, .iastore, 1), (56, .aload_n 0, 1), (57, .getfield 9, 3), (60, .iload_n 3, 1), (61, .iaload, 1), (62, .ireturn, 1)]
theorem kX3_fewest_ok : kX3_fewest.all (fun q => decide (decode cX3_fewest q.1 = .ok q.2)) = true := by decide +kernel
def kX3_search_0 : List (Nat × Instr × Nat) := [(0, .aload_n 0, 1), (1, .getfield 15, 3), (4, .iconst (-1), 1), (5, .invokestatic 25, 3), (8, .aload_n 0, 1), (9, .getfield 15, 3), (12, .iload_n 1, 1), (13, .iconst 0, 1), (14, .iastore, 1), (15, .aload_n 0, 1), (16, .getfield 18, 3), (19, .iconst 0, 1), (20, .iload_n 1, 1), (21, .iastore, 1), (22, .iconst 1, 1), (23, .istore_n 3, 1), (24, .iconst 0, 1), (25, .istore 4, 2), (27, .iload 4, 2), (29, .iload_n 3, 1), (30, .if_icmp .ge 131, 3), (33, .iload 4, 2), (35, .sipush 169, 3), (38, .if_icmp .ge 123, 3), (41, .aload_n 0, 1), (42, .getfield 18, 3), (45, .iload 4, 2), (47, .iaload, 1), (48, .istore 5, 2), (50, .iconst 0, 1), (51, .istore 6, 2), (53, .iload 6, 2), (55, .bipush 72, 2), (57, .if_icmp .ge 98, 3), (60, .iload 5, 2), (62, .iload 6, 2), (64, .bipush 9, 2), (66, .idiv, 1), (67, .iload 6, 2), (69, .bipush 9, 2), (71, .irem, 1), (72, .iconst 1, 1), (73, .iadd, 1), (74, .iload_n 2, 1), (75, .iadd, 1), (76, .invokestatic 31, 3), (79, .istore 7, 2), (81, .iload 7, 2), (83, .bipush 84, 2), (85, .if_icmp .ne 13, 3), (88, .aload_n 0, 1), (89, .getfield 15, 3), (92, .iload 5, 2), (94, .iaload, 1), (95, .iconst 1, 1), (96, .iadd, 1), (97, .ireturn, 1), (98, .iload 7, 2), (100, .iconst (-1), 1), (101, .if_icmp .eq 48, 3)]
theorem kX3_search_0_ok : kX3_search_0.all (fun q => decide (decode cX3_search q.1 = .ok q.2)) = true := by decide +kernel
def kX3_search_1 : List (Nat × Instr × Nat) := [(104, .aload_n 0, 1), (105, .getfield 15, 3), (108, .iload 7, 2), (110, .iaload, 1), (111, .iconst (-1), 1), (112, .if_icmp .ne 37, 3), (115, .iload_n 3, 1), (116, .sipush 169, 3), (119, .if_icmp .ge 30, 3), (122, .aload_n 0, 1), (123, .getfield 15, 3), (126, .iload 7, 2), (128, .aload_n 0, 1), (129, .getfield 15, 3), (132, .iload 5, 2), (134, .iaload, 1), (135, .iconst 1, 1), (136, .iadd, 1), (137, .iastore, 1), (138, .aload_n 0, 1), (139, .getfield 18, 3), (142, .iload_n 3, 1), (143, .iload 7, 2), (145, .iastore, 1), (146, .iinc 3 1, 3), (149, .iinc 6 1, 3), (152, .goto (-99), 3), (155, .iinc 4 1, 3), (158, .goto (-131), 3), (161, .iconst (-1), 1), (162, .ireturn, 1)]
theorem kX3_search_1_ok : kX3_search_1.all (fun q => decide (decode cX3_search q.1 = .ok q.2)) = true := by decide +kernel
def kX4_init : List (Nat × Instr × Nat) := [(0, .aload_n 0, 1), (1, .invokespecial 3, 3), (4, .aload_n 0, 1), (5, .new 9, 3), (8, .dup, 1), (9, .invokespecial 11, 3), (12, .putfield 12, 3), (15, .aload_n 0, 1), (16, .bipush 16, 2), (18, .newarray .int, 2), (20, .putfield 18, 3), (23, .aload_n 0, 1), (24, .iconst 4, 1), (25, .newarray .int, 2), (27, .putfield 22, 3), (30, .aload_n 0, 1), (31, .iconst 4, 1), (32, .newarray .int, 2), (34, .putfield 25, 3), (37, .aload_n 0, 1), (38, .iconst 0, 1), (39, .putfield 28, 3), (42, .aload_n 0, 1), (43, .iconst 0, 1), (44, .putfield 32, 3), (47, .aload_n 0, 1), (48, .iconst 3, 1), (49, .putfield 35, 3), (52, .return_, 1)]
theorem kX4_init_ok : kX4_init.all (fun q => decide (decode cX4_init q.1 = .ok q.2)) = true := by decide +kernel
def kX4_copyFrom : List (Nat × Instr × Nat) := [(0, .aload_n 0, 1), (1, .getfield 12, 3), (4, .aload_n 1, 1), (5, .getfield 12, 3), (8, .invokevirtual 38, 3), (11, .aload_n 1, 1), (12, .getfield 18, 3), (15, .iconst 0, 1), (16, .aload_n 0, 1), (17, .getfield 18, 3), (20, .iconst 0, 1), (21, .bipush 16, 2), (23, .invokestatic 42, 3), (26, .aload_n 1, 1), (27, .getfield 22, 3), (30, .iconst 0, 1), (31, .aload_n 0, 1), (32, .getfield 22, 3), (35, .iconst 0, 1), (36, .iconst 4, 1), (37, .invokestatic 42, 3), (40, .aload_n 1, 1), (41, .getfield 25, 3), (44, .iconst 0, 1), (45, .aload_n 0, 1), (46, .getfield 25, 3), (49, .iconst 0, 1), (50, .iconst 4, 1), (51, .invokestatic 42, 3), (54, .aload_n 0, 1), (55, .aload_n 1, 1), (56, .getfield 28, 3), (59, .putfield 28, 3), (62, .aload_n 0, 1), (63, .aload_n 1, 1), (64, .getfield 32, 3), (67, .putfield 32, 3), (70, .aload_n 0, 1), (71, .aload_n 1, 1), (72, .getfield 35, 3), (75, .putfield 35, 3), (78, .return_, 1)]
theorem kX4_copyFrom_ok : kX4_copyFrom.all (fun q => decide (decode cX4_copyFrom q.1 = .ok q.2)) = true := by decide +kernel
def kX4_whyNotFlown : List (Nat × Instr × Nat) := [(0, .aload_n 0, 1), (1, .getfield 12, 3), (4, .invokevirtual 48, 3), (7, .ifCond .eq 5, 3), (10, .iconst 1, 1), (11, .ireturn, 1), (12, .iload_n 1, 1), (13, .invokestatic 52, 3), (16, .aload_n 0, 1), (17, .getfield 28, 3), (20, .if_icmp .eq 5, 3), (23, .iconst 2, 1), (24, .ireturn, 1), (25, .aload_n 0, 1), (26, .getfield 12, 3), (29, .iload_n 1, 1), (30, .invokevirtual 56, 3), (33, .ifCond .eq 5, 3), (36, .iconst 3, 1), (37, .ireturn, 1), (38, .aload_n 0, 1), (39, .getfield 12, 3), (42, .iload_n 1, 1), (43, .invokevirtual 60, 3), (46, .ifCond .eq 7, 3), (49, .iconst 4, 1), (50, .goto 4, 3), (53, .iconst 0, 1), (54, .ireturn, 1)]
theorem kX4_whyNotFlown_ok : kX4_whyNotFlown.all (fun q => decide (decode cX4_whyNotFlown q.1 = .ok q.2)) = true := by decide +kernel
def kX4_whyNotLifted : List (Nat × Instr × Nat) := [(0, .aload_n 0, 1), (1, .getfield 12, 3), (4, .invokevirtual 48, 3), (7, .ifCond .eq 5, 3), (10, .iconst 1, 1), (11, .ireturn, 1), (12, .iload_n 1, 1), (13, .iload_n 2, 1), (14, .invokestatic 63, 3), (17, .istore 5, 2), (19, .aload_n 0, 1), (20, .getfield 12, 3), (23, .iload 5, 2), (25, .iload_n 3, 1), (26, .invokevirtual 67, 3), (29, .iconst (-1), 1), (30, .if_icmp .ne 5, 3), (33, .iconst 2, 1), (34, .ireturn, 1), (35, .aload_n 0, 1), (36, .getfield 12, 3), (39, .iload 5, 2), (41, .invokevirtual 70, 3), (44, .invokestatic 52, 3), (47, .aload_n 0, 1), (48, .getfield 28, 3), (51, .if_icmp .eq 5, 3), (54, .iconst 3, 1), (55, .ireturn, 1), (56, .iload_n 3, 1), (57, .aload_n 0, 1), (58, .getfield 35, 3), (61, .if_icmp .le 5, 3), (64, .iconst 4, 1), (65, .ireturn, 1), (66, .iload_n 1, 1), (67, .iload_n 2, 1), (68, .iload 4, 2), (70, .invokestatic 73, 3), (73, .iconst (-1), 1), (74, .if_icmp .ne 7, 3), (77, .iconst 5, 1), (78, .goto 4, 3), (81, .iconst 0, 1), (82, .ireturn, 1)]
theorem kX4_whyNotLifted_ok : kX4_whyNotLifted.all (fun q => decide (decode cX4_whyNotLifted q.1 = .ok q.2)) = true := by decide +kernel
def kX4_carryOutFlight_0 : List (Nat × Instr × Nat) := [(0, .iload_n 1, 1), (1, .invokestatic 52, 3), (4, .istore 4, 2), (6, .aload_n 0, 1), (7, .getfield 12, 3), (10, .getfield 77, 3), (13, .iload_n 1, 1), (14, .iaload, 1), (15, .iload_n 2, 1), (16, .iload_n 1, 1), (17, .iload_n 3, 1), (18, .invokestatic 80, 3), (21, .invokestatic 83, 3), (24, .istore 5, 2), (26, .aload_n 0, 1), (27, .getfield 12, 3), (30, .iload_n 1, 1), (31, .iload_n 1, 1), (32, .iload 5, 2), (34, .invokestatic 86, 3), (37, .invokevirtual 89, 3), (40, .aload_n 0, 1), (41, .getfield 18, 3), (44, .iload_n 1, 1), (45, .dup2, 1), (46, .iaload, 1), (47, .iconst 1, 1), (48, .iadd, 1), (49, .iastore, 1), (50, .iload 5, 2), (52, .iconst (-1), 1), (53, .if_icmp .ne 25, 3), (56, .aload_n 0, 1), (57, .getfield 22, 3), (60, .iload 4, 2), (62, .dup2, 1), (63, .iaload, 1), (64, .iconst 1, 1), (65, .iadd, 1), (66, .iastore, 1), (67, .aload_n 0, 1), (68, .getfield 25, 3), (71, .iload 4, 2), (73, .dup2, 1), (74, .iaload, 1), (75, .iconst 1, 1), (76, .iadd, 1), (77, .iastore, 1), (78, .iload 5, 2), (80, .bipush 84, 2), (82, .if_icmp .ne 15, 3), (85, .aload_n 0, 1), (86, .getfield 12, 3), (89, .iload 4, 2), (91, .invokevirtual 93, 3), (94, .ifCond .eq 7, 3), (97, .aload_n 0, 1), (98, .invokevirtual 96, 3), (101, .iload 5, 2), (103, .invokestatic 99, 3)]
theorem kX4_carryOutFlight_0_ok : kX4_carryOutFlight_0.all (fun q => decide (decode cX4_carryOutFlight q.1 = .ok q.2)) = true := by decide +kernel
def kX4_carryOutFlight_1 : List (Nat × Instr × Nat) := [(106, .ireturn, 1)]
theorem kX4_carryOutFlight_1_ok : kX4_carryOutFlight_1.all (fun q => decide (decode cX4_carryOutFlight q.1 = .ok q.2)) = true := by decide +kernel
def kX4_carryOutLift : List (Nat × Instr × Nat) := [(0, .aload_n 0, 1), (1, .getfield 12, 3), (4, .iload_n 1, 1), (5, .iload_n 2, 1), (6, .invokestatic 63, 3), (9, .iload_n 3, 1), (10, .invokevirtual 67, 3), (13, .istore 5, 2), (15, .iload 5, 2), (17, .invokestatic 102, 3), (20, .ifCond .eq 19, 3), (23, .aload_n 0, 1), (24, .getfield 12, 3), (27, .iload 5, 2), (29, .iload_n 1, 1), (30, .iload_n 2, 1), (31, .iload 4, 2), (33, .invokestatic 73, 3), (36, .invokevirtual 89, 3), (39, .aload_n 0, 1), (40, .dup, 1), (41, .getfield 32, 3), (44, .iconst 1, 1), (45, .iadd, 1), (46, .putfield 32, 3), (49, .aload_n 0, 1), (50, .invokevirtual 96, 3), (53, .return_, 1)]
theorem kX4_carryOutLift_ok : kX4_carryOutLift.all (fun q => decide (decode cX4_carryOutLift q.1 = .ok q.2)) = true := by decide +kernel
def kX4_passTurn : List (Nat × Instr × Nat) := [(0, .aload_n 0, 1), (1, .getfield 28, 3), (4, .istore_n 1, 1), (5, .iconst 0, 1), (6, .istore_n 2, 1), (7, .iload_n 2, 1), (8, .bipush 8, 2), (10, .if_icmp .ge 54, 3), (13, .iload_n 1, 1), (14, .iconst 1, 1), (15, .iadd, 1), (16, .iconst 4, 1), (17, .irem, 1), (18, .istore_n 1, 1), (19, .aload_n 0, 1), (20, .getfield 12, 3), (23, .iload_n 1, 1), (24, .invokevirtual 93, 3), (27, .ifCond .eq 6, 3), (30, .goto 28, 3), (33, .aload_n 0, 1), (34, .getfield 25, 3), (37, .iload_n 1, 1), (38, .iaload, 1), (39, .ifCond .ne 9, 3), (42, .aload_n 0, 1), (43, .iload_n 1, 1), (44, .putfield 28, 3), (47, .return_, 1), (48, .aload_n 0, 1), (49, .getfield 25, 3), (52, .iload_n 1, 1), (53, .dup2, 1), (54, .iaload, 1), (55, .iconst 1, 1), (56, .isub, 1), (57, .iastore, 1), (58, .iinc 2 1, 3), (61, .goto (-54), 3), (64, .return_, 1)]
theorem kX4_passTurn_ok : kX4_passTurn.all (fun q => decide (decode cX4_passTurn q.1 = .ok q.2)) = true := by decide +kernel
def kX4_allFlights : List (Nat × Instr × Nat) := [(0, .iconst 0, 1), (1, .istore_n 1, 1), (2, .iconst 0, 1), (3, .istore_n 2, 1), (4, .iload_n 2, 1), (5, .bipush 16, 2), (7, .if_icmp .ge 18, 3), (10, .iload_n 1, 1), (11, .aload_n 0, 1), (12, .getfield 18, 3), (15, .iload_n 2, 1), (16, .iaload, 1), (17, .iadd, 1), (18, .istore_n 1, 1), (19, .iinc 2 1, 3), (22, .goto (-18), 3), (25, .iload_n 1, 1), (26, .ireturn, 1)]
theorem kX4_allFlights_ok : kX4_allFlights.all (fun q => decide (decode cX4_allFlights q.1 = .ok q.2)) = true := by decide +kernel
def kX4_allFouls : List (Nat × Instr × Nat) := [(0, .iconst 0, 1), (1, .istore_n 1, 1), (2, .iconst 0, 1), (3, .istore_n 2, 1), (4, .iload_n 2, 1), (5, .iconst 4, 1), (6, .if_icmp .ge 18, 3), (9, .iload_n 1, 1), (10, .aload_n 0, 1), (11, .getfield 22, 3), (14, .iload_n 2, 1), (15, .iaload, 1), (16, .iadd, 1), (17, .istore_n 1, 1), (18, .iinc 2 1, 3), (21, .goto (-17), 3), (24, .iload_n 1, 1), (25, .ireturn, 1)]
theorem kX4_allFouls_ok : kX4_allFouls.all (fun q => decide (decode cX4_allFouls q.1 = .ok q.2)) = true := by decide +kernel
def kX5_init : List (Nat × Instr × Nat) := [(0, .aload_n 0, 1), (1, .invokespecial 1, 3), (4, .aload_n 0, 1), (5, .new 7, 3), (8, .dup, 1), (9, .invokespecial 9, 3), (12, .putfield 10, 3), (15, .aload_n 0, 1), (16, .new 7, 3), (19, .dup, 1), (20, .invokespecial 9, 3), (23, .putfield 16, 3), (26, .aload_n 0, 1), (27, .new 19, 3), (30, .dup, 1), (31, .invokespecial 21, 3), (34, .putfield 22, 3), (37, .aload_n 0, 1), (38, .new 26, 3), (41, .dup, 1), (42, .invokespecial 28, 3), (45, .putfield 29, 3), (48, .aload_n 0, 1), (49, .new 33, 3), (52, .dup, 1), (53, .invokespecial 35, 3), (56, .putfield 36, 3), (59, .aload_n 0, 1), (60, .new 40, 3), (63, .dup, 1), (64, .invokespecial 42, 3), (67, .putfield 43, 3), (70, .aload_n 0, 1), (71, .iconst 0, 1), (72, .putfield 47, 3), (75, .return_, 1)]
theorem kX5_init_ok : kX5_init.all (fun q => decide (decode cX5_init q.1 = .ok q.2)) = true := by decide +kernel
def kX5_fly : List (Nat × Instr × Nat) := [(0, .iload_n 1, 1), (1, .invokestatic 51, 3), (4, .iload_n 2, 1), (5, .iload_n 3, 1), (6, .invokestatic 55, 3), (9, .aload_n 0, 1), (10, .getfield 10, 3), (13, .iload_n 1, 1), (14, .invokevirtual 59, 3), (17, .ifCond .eq 13, 3), (20, .new 63, 3), (23, .dup, 1), (24, .ldc 65, 2), (26, .invokespecial 67, 3), (29, .athrow, 1), (30, .aload_n 0, 1), (31, .getfield 22, 3), (34, .aload_n 0, 1), (35, .getfield 10, 3), (38, .invokevirtual 70, 3), (41, .aload_n 0, 1), (42, .getfield 10, 3), (45, .iload_n 1, 1), (46, .iload_n 2, 1), (47, .iload_n 3, 1), (48, .invokevirtual 74, 3), (51, .ireturn, 1)]
theorem kX5_fly_ok : kX5_fly.all (fun q => decide (decode cX5_fly q.1 = .ok q.2)) = true := by decide +kernel
def kX5_lift : List (Nat × Instr × Nat) := [(0, .iload_n 1, 1), (1, .iload_n 2, 1), (2, .invokestatic 78, 3), (5, .iload_n 3, 1), (6, .iload 4, 2), (8, .invokestatic 81, 3), (11, .aload_n 0, 1), (12, .getfield 10, 3), (15, .iload_n 1, 1), (16, .iload_n 2, 1), (17, .iload_n 3, 1), (18, .iload 4, 2), (20, .invokevirtual 84, 3), (23, .ifCond .eq 13, 3), (26, .new 63, 3), (29, .dup, 1), (30, .ldc 88, 2), (32, .invokespecial 67, 3), (35, .athrow, 1), (36, .aload_n 0, 1), (37, .getfield 22, 3), (40, .aload_n 0, 1), (41, .getfield 10, 3), (44, .invokevirtual 70, 3), (47, .aload_n 0, 1), (48, .getfield 10, 3), (51, .iload_n 1, 1), (52, .iload_n 2, 1), (53, .iload_n 3, 1), (54, .iload 4, 2), (56, .invokevirtual 90, 3), (59, .aload_n 0, 1), (60, .getfield 10, 3), (63, .getfield 94, 3), (66, .iload_n 1, 1), (67, .iload_n 2, 1), (68, .invokestatic 97, 3), (71, .invokevirtual 101, 3), (74, .ireturn, 1)]
theorem kX5_lift_ok : kX5_lift.all (fun q => decide (decode cX5_lift q.1 = .ok q.2)) = true := by decide +kernel
def kX5_set : List (Nat × Instr × Nat) := [(0, .iload_n 1, 1), (1, .iconst 1, 1), (2, .if_icmp .lt 9, 3), (5, .iload_n 1, 1), (6, .bipush 6, 2), (8, .if_icmp .le 13, 3), (11, .new 104, 3), (14, .dup, 1), (15, .ldc 106, 2), (17, .invokespecial 108, 3), (20, .athrow, 1), (21, .aload_n 0, 1), (22, .getfield 22, 3), (25, .aload_n 0, 1), (26, .getfield 10, 3), (29, .invokevirtual 70, 3), (32, .aload_n 0, 1), (33, .getfield 10, 3), (36, .getfield 109, 3), (39, .istore_n 2, 1), (40, .aload_n 0, 1), (41, .getfield 10, 3), (44, .iload_n 1, 1), (45, .putfield 109, 3), (48, .iload_n 2, 1), (49, .ireturn, 1)]
theorem kX5_set_ok : kX5_set.all (fun q => decide (decode cX5_set q.1 = .ok q.2)) = true := by decide +kernel
def kX5_put : List (Nat × Instr × Nat) := [(0, .iload_n 1, 1), (1, .invokestatic 51, 3), (4, .iload_n 2, 1), (5, .iload_n 3, 1), (6, .invokestatic 78, 3), (9, .aload_n 0, 1), (10, .getfield 10, 3), (13, .getfield 94, 3), (16, .invokevirtual 113, 3), (19, .ifCond .ne 17, 3), (22, .aload_n 0, 1), (23, .getfield 10, 3), (26, .getfield 94, 3), (29, .iload_n 1, 1), (30, .invokevirtual 117, 3), (33, .ifCond .eq 13, 3), (36, .new 63, 3), (39, .dup, 1), (40, .ldc 121, 2), (42, .invokespecial 67, 3), (45, .athrow, 1), (46, .aload_n 0, 1), (47, .getfield 22, 3), (50, .aload_n 0, 1), (51, .getfield 10, 3), (54, .invokevirtual 70, 3), (57, .iload_n 2, 1), (58, .iload_n 3, 1), (59, .invokestatic 97, 3), (62, .istore 4, 2), (64, .aload_n 0, 1), (65, .getfield 10, 3), (68, .getfield 94, 3), (71, .iload_n 1, 1), (72, .iload 4, 2), (74, .invokevirtual 123, 3), (77, .aload_n 0, 1), (78, .getfield 10, 3), (81, .getfield 94, 3), (84, .iload 4, 2), (86, .invokevirtual 101, 3), (89, .ireturn, 1)]
theorem kX5_put_ok : kX5_put.all (fun q => decide (decode cX5_put q.1 = .ok q.2)) = true := by decide +kernel
def kX5_append : List (Nat × Instr × Nat) := [(0, .iload_n 1, 1), (1, .bipush 33, 2), (3, .if_icmp .lt 9, 3), (6, .iload_n 1, 1), (7, .bipush 126, 2), (9, .if_icmp .le 13, 3), (12, .new 104, 3), (15, .dup, 1), (16, .ldc 126, 2), (18, .invokespecial 108, 3), (21, .athrow, 1), (22, .aload_n 0, 1), (23, .getfield 29, 3), (26, .getfield 128, 3), (29, .bipush 60, 2), (31, .if_icmp .lt 13, 3), (34, .new 63, 3), (37, .dup, 1), (38, .ldc 131, 2), (40, .invokespecial 67, 3), (43, .athrow, 1), (44, .aload_n 0, 1), (45, .getfield 29, 3), (48, .iload_n 1, 1), (49, .invokevirtual 133, 3), (52, .aload_n 0, 1), (53, .getfield 29, 3), (56, .getfield 128, 3), (59, .ireturn, 1)]
theorem kX5_append_ok : kX5_append.all (fun q => decide (decode cX5_append q.1 = .ok q.2)) = true := by decide +kernel
def kX5_clearBuffer : List (Nat × Instr × Nat) := [(0, .aload_n 0, 1), (1, .getfield 29, 3), (4, .getfield 128, 3), (7, .istore_n 1, 1), (8, .aload_n 0, 1), (9, .getfield 29, 3), (12, .iconst 0, 1), (13, .putfield 128, 3), (16, .iload_n 1, 1), (17, .ireturn, 1)]
theorem kX5_clearBuffer_ok : kX5_clearBuffer.all (fun q => decide (decode cX5_clearBuffer q.1 = .ok q.2)) = true := by decide +kernel
def kX5_firstError : List (Nat × Instr × Nat) := [(0, .aload_n 0, 1), (1, .getfield 29, 3), (4, .invokevirtual 136, 3), (7, .ireturn, 1)]
theorem kX5_firstError_ok : kX5_firstError.all (fun q => decide (decode cX5_firstError q.1 = .ok q.2)) = true := by decide +kernel
def kX5_play : List (Nat × Instr × Nat) := [(0, .aload_n 0, 1), (1, .getfield 29, 3), (4, .invokevirtual 140, 3), (7, .ifCond .ne 13, 3), (10, .new 104, 3), (13, .dup, 1), (14, .ldc 143, 2), (16, .invokespecial 108, 3), (19, .athrow, 1), (20, .aload_n 0, 1), (21, .getfield 22, 3), (24, .aload_n 0, 1), (25, .getfield 10, 3), (28, .invokevirtual 70, 3), (31, .aload_n 0, 1), (32, .invokevirtual 145, 3), (35, .istore_n 1, 1), (36, .aload_n 0, 1), (37, .getfield 29, 3), (40, .iconst 0, 1), (41, .putfield 128, 3), (44, .iload_n 1, 1), (45, .ireturn, 1)]
theorem kX5_play_ok : kX5_play.all (fun q => decide (decode cX5_play q.1 = .ok q.2)) = true := by decide +kernel
def kX5_keep : List (Nat × Instr × Nat) := [(0, .aload_n 0, 1), (1, .getfield 16, 3), (4, .aload_n 0, 1), (5, .getfield 10, 3), (8, .invokevirtual 148, 3), (11, .aload_n 0, 1), (12, .iconst 1, 1), (13, .putfield 47, 3), (16, .aload_n 0, 1), (17, .getfield 10, 3), (20, .getfield 94, 3), (23, .invokevirtual 151, 3), (26, .ireturn, 1)]
theorem kX5_keep_ok : kX5_keep.all (fun q => decide (decode cX5_keep q.1 = .ok q.2)) = true := by decide +kernel
def kX5_goBack : List (Nat × Instr × Nat) := [(0, .aload_n 0, 1), (1, .getfield 47, 3), (4, .ifCond .ne 13, 3), (7, .new 63, 3), (10, .dup, 1), (11, .ldc 154, 2), (13, .invokespecial 67, 3), (16, .athrow, 1), (17, .aload_n 0, 1), (18, .getfield 22, 3), (21, .aload_n 0, 1), (22, .getfield 10, 3), (25, .invokevirtual 70, 3), (28, .aload_n 0, 1), (29, .getfield 10, 3), (32, .aload_n 0, 1), (33, .getfield 16, 3), (36, .invokevirtual 148, 3), (39, .aload_n 0, 1), (40, .getfield 10, 3), (43, .getfield 94, 3), (46, .invokevirtual 151, 3), (49, .ireturn, 1)]
theorem kX5_goBack_ok : kX5_goBack.all (fun q => decide (decode cX5_goBack q.1 = .ok q.2)) = true := by decide +kernel
def kX5_undo : List (Nat × Instr × Nat) := [(0, .aload_n 0, 1), (1, .getfield 22, 3), (4, .getfield 156, 3), (7, .ifCond .ne 13, 3), (10, .new 63, 3), (13, .dup, 1), (14, .ldc 159, 2), (16, .invokespecial 67, 3), (19, .athrow, 1), (20, .aload_n 0, 1), (21, .getfield 22, 3), (24, .aload_n 0, 1), (25, .getfield 10, 3), (28, .invokevirtual 161, 3), (31, .aload_n 0, 1), (32, .getfield 22, 3), (35, .getfield 156, 3), (38, .ireturn, 1)]
theorem kX5_undo_ok : kX5_undo.all (fun q => decide (decode cX5_undo q.1 = .ok q.2)) = true := by decide +kernel
def kX5_wink : List (Nat × Instr × Nat) := [(0, .iload_n 1, 1), (1, .invokestatic 51, 3), (4, .iload_n 2, 1), (5, .tableswitch 125 0 6 #[43, 48, 61, 74, 86, 106, 116], 43), (48, .iload_n 1, 1), (49, .invokestatic 164, 3), (52, .ireturn, 1), (53, .iload_n 1, 1), (54, .invokestatic 167, 3), (57, .ifCond .eq 7, 3), (60, .iconst 1, 1), (61, .goto 4, 3), (64, .iconst 0, 1), (65, .ireturn, 1), (66, .aload_n 0, 1), (67, .getfield 10, 3), (70, .getfield 94, 3), (73, .getfield 170, 3), (76, .iload_n 1, 1), (77, .iaload, 1), (78, .ireturn, 1), (79, .aload_n 0, 1), (80, .getfield 10, 3), (83, .getfield 94, 3), (86, .iload_n 1, 1), (87, .invokevirtual 174, 3), (90, .ireturn, 1), (91, .aload_n 0, 1), (92, .getfield 10, 3), (95, .getfield 94, 3), (98, .iload_n 1, 1), (99, .invokevirtual 117, 3), (102, .ifCond .eq 7, 3), (105, .iconst 1, 1), (106, .goto 4, 3), (109, .iconst 0, 1), (110, .ireturn, 1), (111, .aload_n 0, 1), (112, .getfield 10, 3), (115, .getfield 177, 3), (118, .iload_n 1, 1), (119, .iaload, 1), (120, .ireturn, 1), (121, .aload_n 0, 1), (122, .getfield 10, 3), (125, .iload_n 1, 1), (126, .invokevirtual 59, 3), (129, .ireturn, 1), (130, .new 104, 3), (133, .dup, 1), (134, .ldc 180, 2), (136, .invokespecial 108, 3), (139, .athrow, 1)]
theorem kX5_wink_ok : kX5_wink.all (fun q => decide (decode cX5_wink q.1 = .ok q.2)) = true := by decide +kernel
def kX5_pile : List (Nat × Instr × Nat) := [(0, .iload_n 1, 1), (1, .iload_n 2, 1), (2, .invokestatic 78, 3), (5, .iload_n 1, 1), (6, .iload_n 2, 1), (7, .invokestatic 97, 3), (10, .istore 4, 2), (12, .iload_n 3, 1), (13, .tableswitch 83 0 3 #[31, 44, 57, 70], 31), (44, .aload_n 0, 1), (45, .getfield 10, 3), (48, .getfield 94, 3), (51, .iload 4, 2), (53, .invokevirtual 101, 3), (56, .ireturn, 1), (57, .aload_n 0, 1), (58, .getfield 10, 3), (61, .getfield 94, 3), (64, .iload 4, 2), (66, .invokevirtual 182, 3), (69, .ireturn, 1), (70, .aload_n 0, 1), (71, .getfield 10, 3), (74, .getfield 94, 3), (77, .iload 4, 2), (79, .invokevirtual 185, 3), (82, .ireturn, 1), (83, .aload_n 0, 1), (84, .getfield 10, 3), (87, .getfield 94, 3), (90, .iload 4, 2), (92, .invokevirtual 188, 3), (95, .ireturn, 1), (96, .new 104, 3), (99, .dup, 1), (100, .ldc 191, 2), (102, .invokespecial 108, 3), (105, .athrow, 1)]
theorem kX5_pile_ok : kX5_pile.all (fun q => decide (decode cX5_pile q.1 = .ok q.2)) = true := by decide +kernel
def kX5_colour_0 : List (Nat × Instr × Nat) := [(0, .iload_n 1, 1), (1, .invokestatic 193, 3), (4, .ifCond .ne 13, 3), (7, .new 196, 3), (10, .dup, 1), (11, .ldc 198, 2), (13, .invokespecial 200, 3), (16, .athrow, 1), (17, .iload_n 2, 1), (18, .tableswitch 136 0 6 #[42, 54, 66, 92, 104, 114, 124], 42), (60, .aload_n 0, 1), (61, .getfield 10, 3), (64, .getfield 94, 3), (67, .iload_n 1, 1), (68, .invokevirtual 201, 3), (71, .ireturn, 1), (72, .aload_n 0, 1), (73, .getfield 10, 3), (76, .getfield 94, 3), (79, .iload_n 1, 1), (80, .invokevirtual 204, 3), (83, .ireturn, 1), (84, .iconst 4, 1), (85, .aload_n 0, 1), (86, .getfield 10, 3), (89, .getfield 94, 3), (92, .iload_n 1, 1), (93, .invokevirtual 201, 3), (96, .isub, 1), (97, .aload_n 0, 1), (98, .getfield 10, 3), (101, .getfield 94, 3), (104, .iload_n 1, 1), (105, .invokevirtual 204, 3), (108, .isub, 1), (109, .ireturn, 1), (110, .aload_n 0, 1), (111, .getfield 10, 3), (114, .getfield 94, 3), (117, .iload_n 1, 1), (118, .invokevirtual 207, 3), (121, .ireturn, 1), (122, .aload_n 0, 1), (123, .getfield 10, 3), (126, .getfield 210, 3), (129, .iload_n 1, 1), (130, .iaload, 1), (131, .ireturn, 1), (132, .aload_n 0, 1), (133, .getfield 10, 3), (136, .getfield 213, 3), (139, .iload_n 1, 1), (140, .iaload, 1), (141, .ireturn, 1), (142, .aload_n 0, 1), (143, .getfield 10, 3), (146, .getfield 94, 3), (149, .iload_n 1, 1), (150, .invokevirtual 216, 3), (153, .ireturn, 1)]
theorem kX5_colour_0_ok : kX5_colour_0.all (fun q => decide (decode cX5_colour q.1 = .ok q.2)) = true := by decide +kernel
def kX5_colour_1 : List (Nat × Instr × Nat) := [(154, .new 104, 3), (157, .dup, 1), (158, .ldc 180, 2), (160, .invokespecial 108, 3), (163, .athrow, 1)]
theorem kX5_colour_1_ok : kX5_colour_1.all (fun q => decide (decode cX5_colour q.1 = .ok q.2)) = true := by decide +kernel
def kX5_count_0 : List (Nat × Instr × Nat) := [(0, .iload_n 1, 1), (1, .tableswitch 234 0 13 #[71, 96, 115, 126, 137, 148, 159, 170, 178, 186, 194, 206, 218, 226], 71), (72, .aload_n 0, 1), (73, .getfield 10, 3), (76, .getfield 94, 3), (79, .invokevirtual 113, 3), (82, .ifCond .eq 7, 3), (85, .iconst (-1), 1), (86, .goto 10, 3), (89, .aload_n 0, 1), (90, .getfield 10, 3), (93, .getfield 219, 3), (96, .ireturn, 1), (97, .aload_n 0, 1), (98, .getfield 10, 3), (101, .getfield 94, 3), (104, .invokevirtual 113, 3), (107, .ifCond .eq 7, 3), (110, .iconst 1, 1), (111, .goto 4, 3), (114, .iconst 0, 1), (115, .ireturn, 1), (116, .aload_n 0, 1), (117, .getfield 10, 3), (120, .getfield 94, 3), (123, .invokevirtual 151, 3), (126, .ireturn, 1), (127, .aload_n 0, 1), (128, .getfield 10, 3), (131, .getfield 94, 3), (134, .invokevirtual 222, 3), (137, .ireturn, 1), (138, .aload_n 0, 1), (139, .getfield 10, 3), (142, .getfield 94, 3), (145, .invokevirtual 225, 3), (148, .ireturn, 1), (149, .aload_n 0, 1), (150, .getfield 10, 3), (153, .getfield 94, 3), (156, .invokevirtual 228, 3), (159, .ireturn, 1), (160, .aload_n 0, 1), (161, .getfield 10, 3), (164, .getfield 94, 3), (167, .invokevirtual 231, 3), (170, .ireturn, 1), (171, .aload_n 0, 1), (172, .getfield 10, 3), (175, .invokevirtual 234, 3), (178, .ireturn, 1), (179, .aload_n 0, 1), (180, .getfield 10, 3), (183, .getfield 237, 3), (186, .ireturn, 1), (187, .aload_n 0, 1), (188, .getfield 10, 3), (191, .invokevirtual 240, 3), (194, .ireturn, 1), (195, .aload_n 0, 1)]
theorem kX5_count_0_ok : kX5_count_0.all (fun q => decide (decode cX5_count q.1 = .ok q.2)) = true := by decide +kernel
def kX5_count_1 : List (Nat × Instr × Nat) := [(196, .getfield 10, 3), (199, .getfield 94, 3), (202, .iconst 0, 1), (203, .invokevirtual 243, 3), (206, .ireturn, 1), (207, .aload_n 0, 1), (208, .getfield 10, 3), (211, .getfield 94, 3), (214, .iconst 1, 1), (215, .invokevirtual 243, 3), (218, .ireturn, 1), (219, .aload_n 0, 1), (220, .getfield 10, 3), (223, .getfield 109, 3), (226, .ireturn, 1), (227, .aload_n 0, 1), (228, .getfield 22, 3), (231, .getfield 156, 3), (234, .ireturn, 1), (235, .new 104, 3), (238, .dup, 1), (239, .ldc 246, 2), (241, .invokespecial 108, 3), (244, .athrow, 1)]
theorem kX5_count_1_ok : kX5_count_1.all (fun q => decide (decode cX5_count q.1 = .ok q.2)) = true := by decide +kernel
def kX5_why : List (Nat × Instr × Nat) := [(0, .iload_n 1, 1), (1, .iload_n 2, 1), (2, .invokestatic 78, 3), (5, .iload_n 3, 1), (6, .iload 4, 2), (8, .invokestatic 81, 3), (11, .aload_n 0, 1), (12, .getfield 10, 3), (15, .iload_n 1, 1), (16, .iload_n 2, 1), (17, .iload_n 3, 1), (18, .iload 4, 2), (20, .invokevirtual 84, 3), (23, .ireturn, 1)]
theorem kX5_why_ok : kX5_why.all (fun q => decide (decode cX5_why q.1 = .ok q.2)) = true := by decide +kernel
def kX5_lands : List (Nat × Instr × Nat) := [(0, .iload_n 1, 1), (1, .invokestatic 51, 3), (4, .iload_n 2, 1), (5, .iload_n 3, 1), (6, .invokestatic 55, 3), (9, .aload_n 0, 1), (10, .getfield 10, 3), (13, .getfield 94, 3), (16, .iload_n 1, 1), (17, .invokevirtual 248, 3), (20, .ifCond .eq 6, 3), (23, .bipush (-2), 2), (25, .ireturn, 1), (26, .aload_n 0, 1), (27, .getfield 10, 3), (30, .getfield 94, 3), (33, .getfield 170, 3), (36, .iload_n 1, 1), (37, .iaload, 1), (38, .iload_n 2, 1), (39, .iload_n 1, 1), (40, .iload_n 3, 1), (41, .invokestatic 251, 3), (44, .invokestatic 254, 3), (47, .invokestatic 257, 3), (50, .ireturn, 1)]
theorem kX5_lands_ok : kX5_lands.all (fun q => decide (decode cX5_lands q.1 = .ok q.2)) = true := by decide +kernel
def kX5_ifFlown : List (Nat × Instr × Nat) := [(0, .iload_n 1, 1), (1, .invokestatic 51, 3), (4, .iload_n 2, 1), (5, .iload_n 3, 1), (6, .invokestatic 55, 3), (9, .iload 4, 2), (11, .ifCond .lt 9, 3), (14, .iload 4, 2), (16, .iconst 1, 1), (17, .if_icmp .le 14, 3), (20, .new 104, 3), (23, .dup, 1), (24, .ldc_w 260, 3), (27, .invokespecial 108, 3), (30, .athrow, 1), (31, .aload_n 0, 1), (32, .getfield 10, 3), (35, .iload_n 1, 1), (36, .invokevirtual 59, 3), (39, .ifCond .eq 7, 3), (42, .sipush (-1000), 3), (45, .ireturn, 1), (46, .aload_n 0, 1), (47, .iload_n 1, 1), (48, .iload_n 2, 1), (49, .iload_n 3, 1), (50, .invokevirtual 262, 3), (53, .iload 4, 2), (55, .ifCond .ne 17, 3), (58, .aload_n 0, 1), (59, .getfield 36, 3), (62, .iload_n 1, 1), (63, .invokestatic 266, 3), (66, .invokevirtual 269, 3), (69, .goto 16, 3), (72, .aload_n 0, 1), (73, .getfield 36, 3), (76, .iconst 1, 1), (77, .iload_n 1, 1), (78, .invokestatic 266, 3), (81, .isub, 1), (82, .invokevirtual 272, 3), (85, .ireturn, 1)]
theorem kX5_ifFlown_ok : kX5_ifFlown.all (fun q => decide (decode cX5_ifFlown q.1 = .ok q.2)) = true := by decide +kernel
def kX5_best_0 : List (Nat × Instr × Nat) := [(0, .iconst (-1), 1), (1, .istore_n 1, 1), (2, .iconst 0, 1), (3, .istore_n 2, 1), (4, .iconst 0, 1), (5, .istore_n 3, 1), (6, .iconst 0, 1), (7, .istore 4, 2), (9, .iload 4, 2), (11, .bipush 16, 2), (13, .if_icmp .ge 141, 3), (16, .aload_n 0, 1), (17, .getfield 10, 3), (20, .iload 4, 2), (22, .invokevirtual 59, 3), (25, .ifCond .eq 6, 3), (28, .goto 120, 3), (31, .iload 4, 2), (33, .invokestatic 266, 3), (36, .istore 5, 2), (38, .iconst 0, 1), (39, .istore 6, 2), (41, .iload 6, 2), (43, .bipush 72, 2), (45, .if_icmp .ge 103, 3), (48, .iload 6, 2), (50, .bipush 9, 2), (52, .idiv, 1), (53, .istore 7, 2), (55, .iload 6, 2), (57, .bipush 9, 2), (59, .irem, 1), (60, .iconst 1, 1), (61, .iadd, 1), (62, .istore 8, 2), (64, .aload_n 0, 1), (65, .iload 4, 2), (67, .iload 7, 2), (69, .iload 8, 2), (71, .invokevirtual 262, 3), (74, .aload_n 0, 1), (75, .getfield 36, 3), (78, .iload 5, 2), (80, .invokevirtual 269, 3), (83, .istore 9, 2), (85, .aload_n 0, 1), (86, .getfield 36, 3), (89, .iconst 1, 1), (90, .iload 5, 2), (92, .isub, 1), (93, .invokevirtual 272, 3), (96, .istore 10, 2), (98, .iload_n 1, 1), (99, .iconst (-1), 1), (100, .if_icmp .eq 21, 3), (103, .iload 9, 2), (105, .iload_n 2, 1), (106, .if_icmp .gt 15, 3), (109, .iload 9, 2), (111, .iload_n 2, 1)]
theorem kX5_best_0_ok : kX5_best_0.all (fun q => decide (decode cX5_best q.1 = .ok q.2)) = true := by decide +kernel
def kX5_best_1 : List (Nat × Instr × Nat) := [(112, .if_icmp .ne 30, 3), (115, .iload 10, 2), (117, .iload_n 3, 1), (118, .if_icmp .le 24, 3), (121, .bipush 100, 2), (123, .iload 4, 2), (125, .imul, 1), (126, .bipush 10, 2), (128, .iload 7, 2), (130, .imul, 1), (131, .iadd, 1), (132, .iload 8, 2), (134, .iadd, 1), (135, .istore_n 1, 1), (136, .iload 9, 2), (138, .istore_n 2, 1), (139, .iload 10, 2), (141, .istore_n 3, 1), (142, .iinc 6 1, 3), (145, .goto (-104), 3), (148, .iinc 4 1, 3), (151, .goto (-142), 3), (154, .iload_n 1, 1), (155, .ireturn, 1)]
theorem kX5_best_1_ok : kX5_best_1.all (fun q => decide (decode cX5_best q.1 = .ok q.2)) = true := by decide +kernel
def kX5_flightsTo : List (Nat × Instr × Nat) := [(0, .iload_n 1, 1), (1, .invokestatic 51, 3), (4, .aload_n 0, 1), (5, .getfield 10, 3), (8, .getfield 94, 3), (11, .iload_n 1, 1), (12, .invokevirtual 248, 3), (15, .ifCond .eq 7, 3), (18, .iconst 0, 1), (19, .goto 26, 3), (22, .aload_n 0, 1), (23, .getfield 43, 3), (26, .aload_n 0, 1), (27, .getfield 10, 3), (30, .getfield 94, 3), (33, .getfield 170, 3), (36, .iload_n 1, 1), (37, .iaload, 1), (38, .iload_n 1, 1), (39, .invokestatic 167, 3), (42, .invokevirtual 275, 3), (45, .ireturn, 1)]
theorem kX5_flightsTo_ok : kX5_flightsTo.all (fun q => decide (decode cX5_flightsTo q.1 = .ok q.2)) = true := by decide +kernel
def kX5_pottedShare : List (Nat × Instr × Nat) := [(0, .aload_n 0, 1), (1, .getfield 10, 3), (4, .getfield 94, 3), (7, .invokevirtual 151, 3), (10, .i2d, 1), (11, .ldc2_w 279, 3), (14, .ddiv, 1), (15, .dreturn, 1)]
theorem kX5_pottedShare_ok : kX5_pottedShare.all (fun q => decide (decode cX5_pottedShare q.1 = .ok q.2)) = true := by decide +kernel
def kX5_meanPile : List (Nat × Instr × Nat) := [(0, .aload_n 0, 1), (1, .getfield 10, 3), (4, .getfield 94, 3), (7, .invokevirtual 228, 3), (10, .istore_n 1, 1), (11, .iload_n 1, 1), (12, .ifCond .ne 7, 3), (15, .fconst 0, 1), (16, .goto 20, 3), (19, .bipush 16, 2), (21, .aload_n 0, 1), (22, .getfield 10, 3), (25, .getfield 94, 3), (28, .invokevirtual 151, 3), (31, .isub, 1), (32, .i2f, 1), (33, .iload_n 1, 1), (34, .i2f, 1), (35, .fdiv, 1), (36, .freturn, 1)]
theorem kX5_meanPile_ok : kX5_meanPile.all (fun q => decide (decode cX5_meanPile q.1 = .ok q.2)) = true := by decide +kernel
def kX5_digest_0 : List (Nat × Instr × Nat) := [(0, .ldc2_w 281, 3), (3, .lstore_n 1, 1), (4, .iconst 0, 1), (5, .istore_n 3, 1), (6, .iload_n 3, 1), (7, .bipush 13, 2), (9, .if_icmp .gt 20, 3), (12, .lload_n 1, 1), (13, .aload_n 0, 1), (14, .iload_n 3, 1), (15, .invokevirtual 283, 3), (18, .i2l, 1), (19, .invokestatic 286, 3), (22, .lstore_n 1, 1), (23, .iinc 3 1, 3), (26, .goto (-20), 3), (29, .aload_n 0, 1), (30, .lload_n 1, 1), (31, .invokevirtual 290, 3), (34, .lstore_n 1, 1), (35, .aload_n 0, 1), (36, .lload_n 1, 1), (37, .invokevirtual 294, 3), (40, .lstore_n 1, 1), (41, .aload_n 0, 1), (42, .lload_n 1, 1), (43, .invokevirtual 297, 3), (46, .lstore_n 1, 1), (47, .lload_n 1, 1), (48, .aload_n 0, 1), (49, .invokevirtual 300, 3), (52, .i2l, 1), (53, .invokestatic 286, 3), (56, .lstore_n 1, 1), (57, .lload_n 1, 1), (58, .aload_n 0, 1), (59, .invokevirtual 303, 3), (62, .bipush 52, 2), (64, .sipush 1023, 3), (67, .invokestatic 307, 3), (70, .invokestatic 286, 3), (73, .lstore_n 1, 1), (74, .lload_n 1, 1), (75, .aload_n 0, 1), (76, .invokevirtual 311, 3), (79, .f2d, 1), (80, .bipush 23, 2), (82, .bipush 127, 2), (84, .invokestatic 307, 3), (87, .invokestatic 286, 3), (90, .lstore_n 1, 1), (91, .lload_n 1, 1), (92, .aload_n 0, 1), (93, .getfield 47, 3), (96, .ifCond .eq 7, 3), (99, .lconst 1, 1), (100, .goto 4, 3), (103, .lconst 0, 1), (104, .invokestatic 286, 3), (107, .lstore_n 1, 1)]
theorem kX5_digest_0_ok : kX5_digest_0.all (fun q => decide (decode cX5_digest q.1 = .ok q.2)) = true := by decide +kernel
def kX5_digest_1 : List (Nat × Instr × Nat) := [(108, .aload_n 0, 1), (109, .lload_n 1, 1), (110, .invokevirtual 315, 3), (113, .lreturn, 1)]
theorem kX5_digest_1_ok : kX5_digest_1.all (fun q => decide (decode cX5_digest q.1 = .ok q.2)) = true := by decide +kernel
def kX5_mixed : List (Nat × Instr × Nat) := [(0, .ldc2_w 318, 3), (3, .lload_n 0, 1), (4, .lmul, 1), (5, .lload_n 2, 1), (6, .ladd, 1), (7, .lreturn, 1)]
theorem kX5_mixed_ok : kX5_mixed.all (fun q => decide (decode cX5_mixed q.1 = .ok q.2)) = true := by decide +kernel
def kX5_withWinks : List (Nat × Instr × Nat) := [(0, .lload_n 1, 1), (1, .lstore_n 3, 1), (2, .iconst 0, 1), (3, .istore 5, 2), (5, .iload 5, 2), (7, .bipush 16, 2), (9, .if_icmp .ge 65, 3), (12, .iconst 0, 1), (13, .istore 6, 2), (15, .iload 6, 2), (17, .bipush 6, 2), (19, .if_icmp .gt 23, 3), (22, .lload_n 3, 1), (23, .aload_n 0, 1), (24, .iload 5, 2), (26, .iload 6, 2), (28, .invokevirtual 320, 3), (31, .i2l, 1), (32, .invokestatic 286, 3), (35, .lstore_n 3, 1), (36, .iinc 6 1, 3), (39, .goto (-24), 3), (42, .lload_n 3, 1), (43, .aload_n 0, 1), (44, .iload 5, 2), (46, .iconst 3, 1), (47, .iconst 5, 1), (48, .invokevirtual 323, 3), (51, .i2l, 1), (52, .invokestatic 286, 3), (55, .lstore_n 3, 1), (56, .lload_n 3, 1), (57, .aload_n 0, 1), (58, .iload 5, 2), (60, .invokevirtual 326, 3), (63, .i2l, 1), (64, .invokestatic 286, 3), (67, .lstore_n 3, 1), (68, .iinc 5 1, 3), (71, .goto (-66), 3), (74, .lload_n 3, 1), (75, .lreturn, 1)]
theorem kX5_withWinks_ok : kX5_withWinks.all (fun q => decide (decode cX5_withWinks q.1 = .ok q.2)) = true := by decide +kernel
def kX5_withColours : List (Nat × Instr × Nat) := [(0, .lload_n 1, 1), (1, .lstore_n 3, 1), (2, .iconst 0, 1), (3, .istore 5, 2), (5, .iload 5, 2), (7, .iconst 4, 1), (8, .if_icmp .ge 39, 3), (11, .iconst 0, 1), (12, .istore 6, 2), (14, .iload 6, 2), (16, .bipush 6, 2), (18, .if_icmp .gt 23, 3), (21, .lload_n 3, 1), (22, .aload_n 0, 1), (23, .iload 5, 2), (25, .iload 6, 2), (27, .invokevirtual 329, 3), (30, .i2l, 1), (31, .invokestatic 286, 3), (34, .lstore_n 3, 1), (35, .iinc 6 1, 3), (38, .goto (-24), 3), (41, .iinc 5 1, 3), (44, .goto (-39), 3), (47, .lload_n 3, 1), (48, .lreturn, 1)]
theorem kX5_withColours_ok : kX5_withColours.all (fun q => decide (decode cX5_withColours q.1 = .ok q.2)) = true := by decide +kernel
def kX5_withPiles : List (Nat × Instr × Nat) := [(0, .lload_n 1, 1), (1, .lstore_n 3, 1), (2, .iconst 0, 1), (3, .istore 5, 2), (5, .iload 5, 2), (7, .sipush 169, 3), (10, .if_icmp .ge 65, 3), (13, .aload_n 0, 1), (14, .getfield 10, 3), (17, .getfield 94, 3), (20, .iload 5, 2), (22, .invokevirtual 182, 3), (25, .iconst (-1), 1), (26, .if_icmp .ne 6, 3), (29, .goto 40, 3), (32, .iconst 0, 1), (33, .istore 6, 2), (35, .iload 6, 2), (37, .iconst 3, 1), (38, .if_icmp .gt 31, 3), (41, .lload_n 3, 1), (42, .aload_n 0, 1), (43, .iload 5, 2), (45, .bipush 13, 2), (47, .irem, 1), (48, .iload 5, 2), (50, .bipush 13, 2), (52, .idiv, 1), (53, .iload 6, 2), (55, .invokevirtual 332, 3), (58, .i2l, 1), (59, .invokestatic 286, 3), (62, .lstore_n 3, 1), (63, .iinc 6 1, 3), (66, .goto (-31), 3), (69, .iinc 5 1, 3), (72, .goto (-67), 3), (75, .lload_n 3, 1), (76, .lreturn, 1)]
theorem kX5_withPiles_ok : kX5_withPiles.all (fun q => decide (decode cX5_withPiles q.1 = .ok q.2)) = true := by decide +kernel
def kX5_withText : List (Nat × Instr × Nat) := [(0, .lload_n 1, 1), (1, .aload_n 0, 1), (2, .getfield 29, 3), (5, .getfield 128, 3), (8, .i2l, 1), (9, .invokestatic 286, 3), (12, .lstore_n 3, 1), (13, .iconst 0, 1), (14, .istore 5, 2), (16, .iload 5, 2), (18, .aload_n 0, 1), (19, .getfield 29, 3), (22, .getfield 128, 3), (25, .if_icmp .ge 24, 3), (28, .lload_n 3, 1), (29, .aload_n 0, 1), (30, .getfield 29, 3), (33, .iload 5, 2), (35, .invokevirtual 335, 3), (38, .i2l, 1), (39, .invokestatic 286, 3), (42, .lstore_n 3, 1), (43, .iinc 5 1, 3), (46, .goto (-30), 3), (49, .lload_n 3, 1), (50, .lreturn, 1)]
theorem kX5_withText_ok : kX5_withText.all (fun q => decide (decode cX5_withText q.1 = .ok q.2)) = true := by decide +kernel
def kX5_bitsOf_0 : List (Nat × Instr × Nat) := [(0, .dload_n 0, 1), (1, .dconst 0, 1), (2, .dcmp .g, 1), (3, .ifCond .gt 5, 3), (6, .lconst 0, 1), (7, .lreturn, 1), (8, .dload_n 0, 1), (9, .dstore 4, 2), (11, .iload_n 3, 1), (12, .i2l, 1), (13, .lstore 6, 2), (15, .iconst 0, 1), (16, .istore 8, 2), (18, .iload 8, 2), (20, .iload_n 3, 1), (21, .if_icmp .ge 32, 3), (24, .dload 4, 2), (26, .ldc2_w 338, 3), (29, .dcmp .l, 1), (30, .ifCond .lt 23, 3), (33, .dload 4, 2), (35, .ldc2_w 338, 3), (38, .ddiv, 1), (39, .dstore 4, 2), (41, .lload 6, 2), (43, .lconst 1, 1), (44, .ladd, 1), (45, .lstore 6, 2), (47, .iinc 8 1, 3), (50, .goto (-32), 3), (53, .iconst 0, 1), (54, .istore 8, 2), (56, .iload 8, 2), (58, .iload_n 3, 1), (59, .if_icmp .ge 30, 3), (62, .dload 4, 2), (64, .dconst 1, 1), (65, .dcmp .g, 1), (66, .ifCond .ge 23, 3), (69, .dload 4, 2), (71, .ldc2_w 338, 3), (74, .dmul, 1), (75, .dstore 4, 2), (77, .lload 6, 2), (79, .lconst 1, 1), (80, .lsub, 1), (81, .lstore 6, 2), (83, .iinc 8 1, 3), (86, .goto (-30), 3), (89, .dload 4, 2), (91, .dconst 1, 1), (92, .dsub, 1), (93, .lconst 1, 1), (94, .iload_n 2, 1), (95, .lshl, 1), (96, .l2d, 1), (97, .dmul, 1), (98, .dstore 8, 2), (100, .lload 6, 2), (102, .iload_n 2, 1)]
theorem kX5_bitsOf_0_ok : kX5_bitsOf_0.all (fun q => decide (decode cX5_bitsOf q.1 = .ok q.2)) = true := by decide +kernel
def kX5_bitsOf_1 : List (Nat × Instr × Nat) := [(103, .lshl, 1), (104, .dload 8, 2), (106, .d2l, 1), (107, .ladd, 1), (108, .lreturn, 1)]
theorem kX5_bitsOf_1_ok : kX5_bitsOf_1.all (fun q => decide (decode cX5_bitsOf q.1 = .ok q.2)) = true := by decide +kernel
def kX5_tryFlight : List (Nat × Instr × Nat) := [(0, .aload_n 0, 1), (1, .getfield 36, 3), (4, .aload_n 0, 1), (5, .getfield 10, 3), (8, .getfield 94, 3), (11, .invokevirtual 340, 3), (14, .aload_n 0, 1), (15, .getfield 36, 3), (18, .getfield 170, 3), (21, .iload_n 1, 1), (22, .iaload, 1), (23, .iload_n 2, 1), (24, .iload_n 1, 1), (25, .iload_n 3, 1), (26, .invokestatic 251, 3), (29, .invokestatic 254, 3), (32, .istore 4, 2), (34, .aload_n 0, 1), (35, .getfield 36, 3), (38, .iload_n 1, 1), (39, .iload_n 1, 1), (40, .iload 4, 2), (42, .invokestatic 343, 3), (45, .invokevirtual 123, 3), (48, .return_, 1)]
theorem kX5_tryFlight_ok : kX5_tryFlight.all (fun q => decide (decode cX5_tryFlight q.1 = .ok q.2)) = true := by decide +kernel
def kX5_doParts : List (Nat × Instr × Nat) := [(0, .iconst 0, 1), (1, .istore_n 1, 1), (2, .iconst 0, 1), (3, .istore_n 2, 1), (4, .iload_n 2, 1), (5, .aload_n 0, 1), (6, .getfield 29, 3), (9, .getfield 128, 3), (12, .if_icmp .ge 66, 3), (15, .aload_n 0, 1), (16, .getfield 29, 3), (19, .iload_n 2, 1), (20, .invokevirtual 335, 3), (23, .bipush 102, 2), (25, .if_icmp .ne 7, 3), (28, .iconst 1, 1), (29, .goto 4, 3), (32, .iconst 0, 1), (33, .istore_n 3, 1), (34, .iload_n 3, 1), (35, .ifCond .eq 14, 3), (38, .aload_n 0, 1), (39, .iload_n 2, 1), (40, .invokevirtual 346, 3), (43, .ifCond .eq 14, 3), (46, .goto 13, 3), (49, .aload_n 0, 1), (50, .iload_n 2, 1), (51, .invokevirtual 349, 3), (54, .ifCond .ne 5, 3), (57, .iload_n 1, 1), (58, .ireturn, 1), (59, .iinc 1 1, 3), (62, .iload_n 2, 1), (63, .iload_n 3, 1), (64, .ifCond .eq 7, 3), (67, .iconst 5, 1), (68, .goto 5, 3), (71, .bipush 6, 2), (73, .iadd, 1), (74, .istore_n 2, 1), (75, .goto (-71), 3), (78, .iload_n 1, 1), (79, .ireturn, 1)]
theorem kX5_doParts_ok : kX5_doParts.all (fun q => decide (decode cX5_doParts q.1 = .ok q.2)) = true := by decide +kernel
def kX5_doFlightPart : List (Nat × Instr × Nat) := [(0, .iconst 4, 1), (1, .aload_n 0, 1), (2, .getfield 10, 3), (5, .getfield 219, 3), (8, .imul, 1), (9, .aload_n 0, 1), (10, .getfield 29, 3), (13, .iload_n 1, 1), (14, .iconst 1, 1), (15, .iadd, 1), (16, .invokevirtual 335, 3), (19, .iadd, 1), (20, .bipush 48, 2), (22, .isub, 1), (23, .istore_n 2, 1), (24, .iload_n 2, 1), (25, .invokestatic 352, 3), (28, .ifCond .eq 14, 3), (31, .aload_n 0, 1), (32, .getfield 10, 3), (35, .iload_n 2, 1), (36, .invokevirtual 59, 3), (39, .ifCond .eq 5, 3), (42, .iconst 0, 1), (43, .ireturn, 1), (44, .aload_n 0, 1), (45, .getfield 10, 3), (48, .iload_n 2, 1), (49, .aload_n 0, 1), (50, .getfield 29, 3), (53, .iload_n 1, 1), (54, .iconst 2, 1), (55, .iadd, 1), (56, .invokevirtual 335, 3), (59, .bipush 48, 2), (61, .isub, 1), (62, .aload_n 0, 1), (63, .getfield 29, 3), (66, .iload_n 1, 1), (67, .iconst 3, 1), (68, .iadd, 1), (69, .invokevirtual 335, 3), (72, .bipush 48, 2), (74, .isub, 1), (75, .invokevirtual 74, 3), (78, .pop, 1), (79, .iconst 1, 1), (80, .ireturn, 1)]
theorem kX5_doFlightPart_ok : kX5_doFlightPart.all (fun q => decide (decode cX5_doFlightPart q.1 = .ok q.2)) = true := by decide +kernel
def kX5_doLiftPart : List (Nat × Instr × Nat) := [(0, .aload_n 0, 1), (1, .getfield 29, 3), (4, .iload_n 1, 1), (5, .iconst 1, 1), (6, .iadd, 1), (7, .invokevirtual 335, 3), (10, .bipush 97, 2), (12, .isub, 1), (13, .istore_n 2, 1), (14, .aload_n 0, 1), (15, .getfield 29, 3), (18, .iload_n 1, 1), (19, .iconst 2, 1), (20, .iadd, 1), (21, .invokevirtual 335, 3), (24, .bipush 97, 2), (26, .isub, 1), (27, .istore_n 3, 1), (28, .aload_n 0, 1), (29, .getfield 29, 3), (32, .iload_n 1, 1), (33, .iconst 3, 1), (34, .iadd, 1), (35, .invokevirtual 335, 3), (38, .bipush 48, 2), (40, .isub, 1), (41, .istore 4, 2), (43, .aload_n 0, 1), (44, .getfield 29, 3), (47, .iload_n 1, 1), (48, .iconst 4, 1), (49, .iadd, 1), (50, .invokevirtual 335, 3), (53, .bipush 48, 2), (55, .isub, 1), (56, .istore 5, 2), (58, .aload_n 0, 1), (59, .getfield 10, 3), (62, .iload_n 2, 1), (63, .iload_n 3, 1), (64, .iload 4, 2), (66, .iload 5, 2), (68, .invokevirtual 84, 3), (71, .ifCond .eq 5, 3), (74, .iconst 0, 1), (75, .ireturn, 1), (76, .aload_n 0, 1), (77, .getfield 10, 3), (80, .iload_n 2, 1), (81, .iload_n 3, 1), (82, .iload 4, 2), (84, .iload 5, 2), (86, .invokevirtual 90, 3), (89, .iconst 1, 1), (90, .ireturn, 1)]
theorem kX5_doLiftPart_ok : kX5_doLiftPart.all (fun q => decide (decode cX5_doLiftPart q.1 = .ok q.2)) = true := by decide +kernel
def kX5_requireWink : List (Nat × Instr × Nat) := [(0, .iload_n 0, 1), (1, .invokestatic 352, 3), (4, .ifCond .ne 14, 3), (7, .new 196, 3), (10, .dup, 1), (11, .ldc_w 355, 3), (14, .invokespecial 200, 3), (17, .athrow, 1), (18, .return_, 1)]
theorem kX5_requireWink_ok : kX5_requireWink.all (fun q => decide (decode cX5_requireWink q.1 = .ok q.2)) = true := by decide +kernel
def kX5_requireCell : List (Nat × Instr × Nat) := [(0, .iload_n 0, 1), (1, .iload_n 1, 1), (2, .invokestatic 357, 3), (5, .ifCond .ne 14, 3), (8, .new 196, 3), (11, .dup, 1), (12, .ldc_w 361, 3), (15, .invokespecial 200, 3), (18, .athrow, 1), (19, .return_, 1)]
theorem kX5_requireCell_ok : kX5_requireCell.all (fun q => decide (decode cX5_requireCell q.1 = .ok q.2)) = true := by decide +kernel
def kX5_requireFlight : List (Nat × Instr × Nat) := [(0, .iload_n 0, 1), (1, .invokestatic 363, 3), (4, .iload_n 1, 1), (5, .iconst 1, 1), (6, .if_icmp .lt 9, 3), (9, .iload_n 1, 1), (10, .bipush 9, 2), (12, .if_icmp .le 14, 3), (15, .new 104, 3), (18, .dup, 1), (19, .ldc_w 366, 3), (22, .invokespecial 108, 3), (25, .athrow, 1), (26, .return_, 1)]
theorem kX5_requireFlight_ok : kX5_requireFlight.all (fun q => decide (decode cX5_requireFlight q.1 = .ok q.2)) = true := by decide +kernel
def kX5_requireLift : List (Nat × Instr × Nat) := [(0, .iload_n 0, 1), (1, .iconst 1, 1), (2, .if_icmp .lt 9, 3), (5, .iload_n 0, 1), (6, .bipush 6, 2), (8, .if_icmp .le 14, 3), (11, .new 104, 3), (14, .dup, 1), (15, .ldc_w 368, 3), (18, .invokespecial 108, 3), (21, .athrow, 1), (22, .iload_n 1, 1), (23, .invokestatic 363, 3), (26, .return_, 1)]
theorem kX5_requireLift_ok : kX5_requireLift.all (fun q => decide (decode cX5_requireLift q.1 = .ok q.2)) = true := by decide +kernel
def kX5_requireDirection : List (Nat × Instr × Nat) := [(0, .iload_n 0, 1), (1, .ifCond .lt 9, 3), (4, .iload_n 0, 1), (5, .bipush 8, 2), (7, .if_icmp .lt 14, 3), (10, .new 104, 3), (13, .dup, 1), (14, .ldc_w 370, 3), (17, .invokespecial 108, 3), (20, .athrow, 1), (21, .return_, 1)]
theorem kX5_requireDirection_ok : kX5_requireDirection.all (fun q => decide (decode cX5_requireDirection q.1 = .ok q.2)) = true := by decide +kernel
def kX5_isWink : List (Nat × Instr × Nat) := [(0, .iload_n 0, 1), (1, .ifCond .lt 13, 3), (4, .iload_n 0, 1), (5, .bipush 16, 2), (7, .if_icmp .ge 7, 3), (10, .iconst 1, 1), (11, .goto 4, 3), (14, .iconst 0, 1), (15, .ireturn, 1)]
theorem kX5_isWink_ok : kX5_isWink.all (fun q => decide (decode cX5_isWink q.1 = .ok q.2)) = true := by decide +kernel
def kX5_isColour : List (Nat × Instr × Nat) := [(0, .iload_n 0, 1), (1, .ifCond .lt 12, 3), (4, .iload_n 0, 1), (5, .iconst 4, 1), (6, .if_icmp .ge 7, 3), (9, .iconst 1, 1), (10, .goto 4, 3), (13, .iconst 0, 1), (14, .ireturn, 1)]
theorem kX5_isColour_ok : kX5_isColour.all (fun q => decide (decode cX5_isColour q.1 = .ok q.2)) = true := by decide +kernel
def kX5_isOnMat : List (Nat × Instr × Nat) := [(0, .iload_n 0, 1), (1, .ifCond .lt 23, 3), (4, .iload_n 0, 1), (5, .bipush 13, 2), (7, .if_icmp .ge 17, 3), (10, .iload_n 1, 1), (11, .ifCond .lt 13, 3), (14, .iload_n 1, 1), (15, .bipush 13, 2), (17, .if_icmp .ge 7, 3), (20, .iconst 1, 1), (21, .goto 4, 3), (24, .iconst 0, 1), (25, .ireturn, 1)]
theorem kX5_isOnMat_ok : kX5_isOnMat.all (fun q => decide (decode cX5_isOnMat q.1 = .ok q.2)) = true := by decide +kernel
def kX5_colourOf : List (Nat × Instr × Nat) := [(0, .iload_n 0, 1), (1, .iconst 4, 1), (2, .idiv, 1), (3, .ireturn, 1)]
theorem kX5_colourOf_ok : kX5_colourOf.all (fun q => decide (decode cX5_colourOf q.1 = .ok q.2)) = true := by decide +kernel
def kX5_teamOf : List (Nat × Instr × Nat) := [(0, .iload_n 0, 1), (1, .invokestatic 164, 3), (4, .iconst 2, 1), (5, .irem, 1), (6, .ireturn, 1)]
theorem kX5_teamOf_ok : kX5_teamOf.all (fun q => decide (decode cX5_teamOf q.1 = .ok q.2)) = true := by decide +kernel
def kX5_isLarge : List (Nat × Instr × Nat) := [(0, .iload_n 0, 1), (1, .iconst 4, 1), (2, .irem, 1), (3, .iconst 2, 1), (4, .if_icmp .ge 7, 3), (7, .iconst 1, 1), (8, .goto 4, 3), (11, .iconst 0, 1), (12, .ireturn, 1)]
theorem kX5_isLarge_ok : kX5_isLarge.all (fun q => decide (decode cX5_isLarge q.1 = .ok q.2)) = true := by decide +kernel
def kX5_stepsOf : List (Nat × Instr × Nat) := [(0, .iload_n 0, 1), (1, .invokestatic 167, 3), (4, .ifCond .eq 7, 3), (7, .iload_n 1, 1), (8, .goto 6, 3), (11, .iload_n 1, 1), (12, .iconst 1, 1), (13, .iadd, 1), (14, .ireturn, 1)]
theorem kX5_stepsOf_ok : kX5_stepsOf.all (fun q => decide (decode cX5_stepsOf q.1 = .ok q.2)) = true := by decide +kernel
def kX5_cellAt : List (Nat × Instr × Nat) := [(0, .bipush 13, 2), (2, .iload_n 1, 1), (3, .imul, 1), (4, .iload_n 0, 1), (5, .iadd, 1), (6, .ireturn, 1)]
theorem kX5_cellAt_ok : kX5_cellAt.all (fun q => decide (decode cX5_cellAt q.1 = .ok q.2)) = true := by decide +kernel
def kX5_baseOf : List (Nat × Instr × Nat) := [(0, .iload_n 0, 1), (1, .tableswitch 48 0 2 #[27, 33, 40], 27), (28, .iconst 0, 1), (29, .iconst 0, 1), (30, .invokestatic 97, 3), (33, .ireturn, 1), (34, .bipush 12, 2), (36, .iconst 0, 1), (37, .invokestatic 97, 3), (40, .ireturn, 1), (41, .bipush 12, 2), (43, .bipush 12, 2), (45, .invokestatic 97, 3), (48, .ireturn, 1), (49, .iconst 0, 1), (50, .bipush 12, 2), (52, .invokestatic 97, 3), (55, .ireturn, 1)]
theorem kX5_baseOf_ok : kX5_baseOf.all (fun q => decide (decode cX5_baseOf q.1 = .ok q.2)) = true := by decide +kernel
def kX5_eastOf : List (Nat × Instr × Nat) := [(0, .iload_n 0, 1), (1, .iconst 1, 1), (2, .if_icmp .lt 12, 3), (5, .iload_n 0, 1), (6, .iconst 3, 1), (7, .if_icmp .gt 7, 3), (10, .iconst 1, 1), (11, .goto 13, 3), (14, .iload_n 0, 1), (15, .iconst 5, 1), (16, .if_icmp .lt 7, 3), (19, .iconst (-1), 1), (20, .goto 4, 3), (23, .iconst 0, 1), (24, .ireturn, 1)]
theorem kX5_eastOf_ok : kX5_eastOf.all (fun q => decide (decode cX5_eastOf q.1 = .ok q.2)) = true := by decide +kernel
def kX5_southOf : List (Nat × Instr × Nat) := [(0, .iload_n 0, 1), (1, .iconst 3, 1), (2, .if_icmp .lt 12, 3), (5, .iload_n 0, 1), (6, .iconst 5, 1), (7, .if_icmp .gt 7, 3), (10, .iconst 1, 1), (11, .goto 19, 3), (14, .iload_n 0, 1), (15, .iconst 2, 1), (16, .if_icmp .eq 9, 3), (19, .iload_n 0, 1), (20, .bipush 6, 2), (22, .if_icmp .ne 7, 3), (25, .iconst 0, 1), (26, .goto 4, 3), (29, .iconst (-1), 1), (30, .ireturn, 1)]
theorem kX5_southOf_ok : kX5_southOf.all (fun q => decide (decode cX5_southOf q.1 = .ok q.2)) = true := by decide +kernel
def kX5_cellBeside : List (Nat × Instr × Nat) := [(0, .iload_n 0, 1), (1, .iload_n 2, 1), (2, .invokestatic 372, 3), (5, .iadd, 1), (6, .istore_n 3, 1), (7, .iload_n 1, 1), (8, .iload_n 2, 1), (9, .invokestatic 375, 3), (12, .iadd, 1), (13, .istore 4, 2), (15, .iload_n 3, 1), (16, .iload 4, 2), (18, .invokestatic 357, 3), (21, .ifCond .eq 12, 3), (24, .iload_n 3, 1), (25, .iload 4, 2), (27, .invokestatic 97, 3), (30, .goto 4, 3), (33, .iconst (-1), 1), (34, .ireturn, 1)]
theorem kX5_cellBeside_ok : kX5_cellBeside.all (fun q => decide (decode cX5_cellBeside q.1 = .ok q.2)) = true := by decide +kernel
def kX5_landing_0 : List (Nat × Instr × Nat) := [(0, .iload_n 0, 1), (1, .bipush 13, 2), (3, .irem, 1), (4, .istore_n 3, 1), (5, .iload_n 0, 1), (6, .bipush 13, 2), (8, .idiv, 1), (9, .istore 4, 2), (11, .iload_n 1, 1), (12, .invokestatic 372, 3), (15, .istore 5, 2), (17, .iload_n 1, 1), (18, .invokestatic 375, 3), (21, .istore 6, 2), (23, .iconst 0, 1), (24, .istore 7, 2), (26, .iconst 0, 1), (27, .istore 8, 2), (29, .iload 8, 2), (31, .iload_n 2, 1), (32, .if_icmp .ge 71, 3), (35, .iload_n 3, 1), (36, .iload 5, 2), (38, .iadd, 1), (39, .iload 4, 2), (41, .iload 6, 2), (43, .iadd, 1), (44, .invokestatic 357, 3), (47, .ifCond .ne 38, 3), (50, .iload 5, 2), (52, .ineg, 1), (53, .istore 5, 2), (55, .iload 6, 2), (57, .ineg, 1), (58, .istore 6, 2), (60, .iload 7, 2), (62, .ifCond .ne 18, 3), (65, .iload_n 3, 1), (66, .iload 5, 2), (68, .iadd, 1), (69, .iload 4, 2), (71, .iload 6, 2), (73, .iadd, 1), (74, .invokestatic 357, 3), (77, .ifCond .ne 5, 3), (80, .iconst (-1), 1), (81, .ireturn, 1), (82, .iconst 1, 1), (83, .istore 7, 2), (85, .iload_n 3, 1), (86, .iload 5, 2), (88, .iadd, 1), (89, .istore_n 3, 1), (90, .iload 4, 2), (92, .iload 6, 2), (94, .iadd, 1), (95, .istore 4, 2), (97, .iinc 8 1, 3), (100, .goto (-71), 3), (103, .iload_n 3, 1)]
theorem kX5_landing_0_ok : kX5_landing_0.all (fun q => decide (decode cX5_landing q.1 = .ok q.2)) = true := by decide +kernel
def kX5_landing_1 : List (Nat × Instr × Nat) := [(104, .iload 4, 2), (106, .invokestatic 97, 3), (109, .ireturn, 1)]
theorem kX5_landing_1_ok : kX5_landing_1.all (fun q => decide (decode cX5_landing q.1 = .ok q.2)) = true := by decide +kernel
def kX5_restingCell : List (Nat × Instr × Nat) := [(0, .iload_n 1, 1), (1, .iconst (-1), 1), (2, .if_icmp .ne 13, 3), (5, .iload_n 0, 1), (6, .invokestatic 164, 3), (9, .invokestatic 378, 3), (12, .goto 4, 3), (15, .iload_n 1, 1), (16, .ireturn, 1)]
theorem kX5_restingCell_ok : kX5_restingCell.all (fun q => decide (decode cX5_restingCell q.1 = .ok q.2)) = true := by decide +kernel
def kX5_flightAnswer : List (Nat × Instr × Nat) := [(0, .iload_n 0, 1), (1, .bipush 84, 2), (3, .if_icmp .ne 9, 3), (6, .sipush 169, 3), (9, .goto 4, 3), (12, .iload_n 0, 1), (13, .ireturn, 1)]
theorem kX5_flightAnswer_ok : kX5_flightAnswer.all (fun q => decide (decode cX5_flightAnswer q.1 = .ok q.2)) = true := by decide +kernel
def kX6_init_0 : List (Nat × Instr × Nat) := [(0, .aload_n 0, 1), (1, .invokespecial 1, 3), (4, .aload_n 0, 1), (5, .bipush 60, 2), (7, .newarray .int, 2), (9, .putfield 7, 3), (12, .aload_n 0, 1), (13, .sipush 360, 3), (16, .newarray .int, 2), (18, .putfield 13, 3), (21, .aload_n 0, 1), (22, .bipush 60, 2), (24, .newarray .int, 2), (26, .putfield 16, 3), (29, .aload_n 0, 1), (30, .bipush 60, 2), (32, .newarray .int, 2), (34, .putfield 19, 3), (37, .aload_n 0, 1), (38, .sipush 169, 3), (41, .newarray .int, 2), (43, .putfield 22, 3), (46, .aload_n 0, 1), (47, .sipush 169, 3), (50, .newarray .int, 2), (52, .putfield 25, 3), (55, .aload_n 0, 1), (56, .bipush 60, 2), (58, .newarray .int, 2), (60, .putfield 28, 3), (63, .iconst 0, 1), (64, .istore_n 1, 1), (65, .iload_n 1, 1), (66, .bipush 16, 2), (68, .if_icmp .ge 35, 3), (71, .aload_n 0, 1), (72, .getfield 7, 3), (75, .iconst 0, 1), (76, .iload_n 1, 1), (77, .iadd, 1), (78, .iload_n 1, 1), (79, .iconst 4, 1), (80, .idiv, 1), (81, .invokestatic 31, 3), (84, .iastore, 1), (85, .aload_n 0, 1), (86, .getfield 7, 3), (89, .bipush 16, 2), (91, .iload_n 1, 1), (92, .iadd, 1), (93, .iload_n 1, 1), (94, .iconst 4, 1), (95, .irem, 1), (96, .iastore, 1), (97, .iinc 1 1, 3), (100, .goto (-35), 3), (103, .aload_n 0, 1), (104, .getfield 7, 3), (107, .bipush 57, 2), (109, .iconst 3, 1)]
theorem kX6_init_0_ok : kX6_init_0.all (fun q => decide (decode cX6_init q.1 = .ok q.2)) = true := by decide +kernel
def kX6_init_1 : List (Nat × Instr × Nat) := [(110, .iastore, 1), (111, .return_, 1)]
theorem kX6_init_1_ok : kX6_init_1.all (fun q => decide (decode cX6_init q.1 = .ok q.2)) = true := by decide +kernel
def kX6_thrown : List (Nat × Instr × Nat) := [(0, .aload_n 0, 1), (1, .getfield 35, 3), (4, .ireturn, 1)]
theorem kX6_thrown_ok : kX6_thrown.all (fun q => decide (decode cX6_thrown q.1 = .ok q.2)) = true := by decide +kernel
def kX6_fails : List (Nat × Instr × Nat) := [(0, .aload_n 0, 1), (1, .iload_n 1, 1), (2, .putfield 35, 3), (5, .iconst 0, 1), (6, .ireturn, 1)]
theorem kX6_fails_ok : kX6_fails.all (fun q => decide (decode cX6_fails q.1 = .ok q.2)) = true := by decide +kernel
def kX6_in : List (Nat × Instr × Nat) := [(0, .iload_n 0, 1), (1, .iload_n 1, 1), (2, .if_icmp .lt 12, 3), (5, .iload_n 0, 1), (6, .iload_n 2, 1), (7, .if_icmp .gt 7, 3), (10, .iconst 1, 1), (11, .goto 4, 3), (14, .iconst 0, 1), (15, .ireturn, 1)]
theorem kX6_in_ok : kX6_in.all (fun q => decide (decode cX6_in q.1 = .ok q.2)) = true := by decide +kernel
def kX6_base : List (Nat × Instr × Nat) := [(0, .iload_n 0, 1), (1, .ifCond .ne 7, 3), (4, .iconst 0, 1), (5, .goto 27, 3), (8, .iload_n 0, 1), (9, .iconst 1, 1), (10, .if_icmp .ne 8, 3), (13, .bipush 12, 2), (15, .goto 17, 3), (18, .iload_n 0, 1), (19, .iconst 2, 1), (20, .if_icmp .ne 9, 3), (23, .sipush 168, 3), (26, .goto 6, 3), (29, .sipush 156, 3), (32, .ireturn, 1)]
theorem kX6_base_ok : kX6_base.all (fun q => decide (decode cX6_base q.1 = .ok q.2)) = true := by decide +kernel
def kX6_eastOf : List (Nat × Instr × Nat) := [(0, .iload_n 0, 1), (1, .iconst 4, 1), (2, .irem, 1), (3, .ifCond .ne 7, 3), (6, .iconst 0, 1), (7, .goto 13, 3), (10, .iload_n 0, 1), (11, .iconst 4, 1), (12, .if_icmp .ge 7, 3), (15, .iconst 1, 1), (16, .goto 4, 3), (19, .iconst (-1), 1), (20, .ireturn, 1)]
theorem kX6_eastOf_ok : kX6_eastOf.all (fun q => decide (decode cX6_eastOf q.1 = .ok q.2)) = true := by decide +kernel
def kX6_southOf : List (Nat × Instr × Nat) := [(0, .iload_n 0, 1), (1, .iconst 2, 1), (2, .if_icmp .eq 9, 3), (5, .iload_n 0, 1), (6, .bipush 6, 2), (8, .if_icmp .ne 7, 3), (11, .iconst 0, 1), (12, .goto 19, 3), (15, .iload_n 0, 1), (16, .iconst 2, 1), (17, .if_icmp .le 13, 3), (20, .iload_n 0, 1), (21, .bipush 6, 2), (23, .if_icmp .ge 7, 3), (26, .iconst 1, 1), (27, .goto 4, 3), (30, .iconst (-1), 1), (31, .ireturn, 1)]
theorem kX6_southOf_ok : kX6_southOf.all (fun q => decide (decode cX6_southOf q.1 = .ok q.2)) = true := by decide +kernel
def kX6_record : List (Nat × Instr × Nat) := [(0, .aload_n 0, 1), (1, .getfield 39, 3), (4, .bipush 6, 2), (6, .if_icmp .ne 43, 3), (9, .iconst 0, 1), (10, .istore_n 1, 1), (11, .iload_n 1, 1), (12, .sipush 300, 3), (15, .if_icmp .ge 24, 3), (18, .aload_n 0, 1), (19, .getfield 13, 3), (22, .iload_n 1, 1), (23, .aload_n 0, 1), (24, .getfield 13, 3), (27, .bipush 60, 2), (29, .iload_n 1, 1), (30, .iadd, 1), (31, .iaload, 1), (32, .iastore, 1), (33, .iinc 1 1, 3), (36, .goto (-25), 3), (39, .aload_n 0, 1), (40, .dup, 1), (41, .getfield 39, 3), (44, .iconst 1, 1), (45, .isub, 1), (46, .putfield 39, 3), (49, .iconst 0, 1), (50, .istore_n 1, 1), (51, .iload_n 1, 1), (52, .bipush 60, 2), (54, .if_icmp .ge 29, 3), (57, .aload_n 0, 1), (58, .getfield 13, 3), (61, .bipush 60, 2), (63, .aload_n 0, 1), (64, .getfield 39, 3), (67, .imul, 1), (68, .iload_n 1, 1), (69, .iadd, 1), (70, .aload_n 0, 1), (71, .getfield 7, 3), (74, .iload_n 1, 1), (75, .iaload, 1), (76, .iastore, 1), (77, .iinc 1 1, 3), (80, .goto (-29), 3), (83, .aload_n 0, 1), (84, .dup, 1), (85, .getfield 39, 3), (88, .iconst 1, 1), (89, .iadd, 1), (90, .putfield 39, 3), (93, .return_, 1)]
theorem kX6_record_ok : kX6_record.all (fun q => decide (decode cX6_record q.1 = .ok q.2)) = true := by decide +kernel
def kX6_putAside : List (Nat × Instr × Nat) := [(0, .iconst 0, 1), (1, .istore_n 1, 1), (2, .iload_n 1, 1), (3, .bipush 60, 2), (5, .if_icmp .ge 21, 3), (8, .aload_n 0, 1), (9, .getfield 19, 3), (12, .iload_n 1, 1), (13, .aload_n 0, 1), (14, .getfield 7, 3), (17, .iload_n 1, 1), (18, .iaload, 1), (19, .iastore, 1), (20, .iinc 1 1, 3), (23, .goto (-21), 3), (26, .return_, 1)]
theorem kX6_putAside_ok : kX6_putAside.all (fun q => decide (decode cX6_putAside q.1 = .ok q.2)) = true := by decide +kernel
def kX6_takeBack : List (Nat × Instr × Nat) := [(0, .iconst 0, 1), (1, .istore_n 1, 1), (2, .iload_n 1, 1), (3, .bipush 60, 2), (5, .if_icmp .ge 21, 3), (8, .aload_n 0, 1), (9, .getfield 7, 3), (12, .iload_n 1, 1), (13, .aload_n 0, 1), (14, .getfield 19, 3), (17, .iload_n 1, 1), (18, .iaload, 1), (19, .iastore, 1), (20, .iinc 1 1, 3), (23, .goto (-21), 3), (26, .return_, 1)]
theorem kX6_takeBack_ok : kX6_takeBack.all (fun q => decide (decode cX6_takeBack q.1 = .ok q.2)) = true := by decide +kernel
def kX6_lying : List (Nat × Instr × Nat) := [(0, .iconst 0, 1), (1, .istore_n 2, 1), (2, .iconst 0, 1), (3, .istore_n 3, 1), (4, .iload_n 3, 1), (5, .bipush 16, 2), (7, .if_icmp .ge 29, 3), (10, .iload_n 2, 1), (11, .aload_n 0, 1), (12, .getfield 7, 3), (15, .iconst 0, 1), (16, .iload_n 3, 1), (17, .iadd, 1), (18, .iaload, 1), (19, .iload_n 1, 1), (20, .if_icmp .ne 7, 3), (23, .iconst 1, 1), (24, .goto 4, 3), (27, .iconst 0, 1), (28, .iadd, 1), (29, .istore_n 2, 1), (30, .iinc 3 1, 3), (33, .goto (-29), 3), (36, .iload_n 2, 1), (37, .ireturn, 1)]
theorem kX6_lying_ok : kX6_lying.all (fun q => decide (decode cX6_lying q.1 = .ok q.2)) = true := by decide +kernel
def kX6_winkAt : List (Nat × Instr × Nat) := [(0, .iconst 0, 1), (1, .istore_n 3, 1), (2, .iload_n 3, 1), (3, .bipush 16, 2), (5, .if_icmp .ge 36, 3), (8, .aload_n 0, 1), (9, .getfield 7, 3), (12, .iconst 0, 1), (13, .iload_n 3, 1), (14, .iadd, 1), (15, .iaload, 1), (16, .iload_n 1, 1), (17, .if_icmp .ne 18, 3), (20, .aload_n 0, 1), (21, .getfield 7, 3), (24, .bipush 16, 2), (26, .iload_n 3, 1), (27, .iadd, 1), (28, .iaload, 1), (29, .iload_n 2, 1), (30, .if_icmp .ne 5, 3), (33, .iload_n 3, 1), (34, .ireturn, 1), (35, .iinc 3 1, 3), (38, .goto (-36), 3), (41, .iconst (-1), 1), (42, .ireturn, 1)]
theorem kX6_winkAt_ok : kX6_winkAt.all (fun q => decide (decode cX6_winkAt q.1 = .ok q.2)) = true := by decide +kernel
def kX6_isPotted : List (Nat × Instr × Nat) := [(0, .aload_n 0, 1), (1, .getfield 7, 3), (4, .iconst 0, 1), (5, .iload_n 1, 1), (6, .iadd, 1), (7, .iaload, 1), (8, .iconst (-1), 1), (9, .if_icmp .ne 7, 3), (12, .iconst 1, 1), (13, .goto 4, 3), (16, .iconst 0, 1), (17, .ireturn, 1)]
theorem kX6_isPotted_ok : kX6_isPotted.all (fun q => decide (decode cX6_isPotted q.1 = .ok q.2)) = true := by decide +kernel
def kX6_isCovered : List (Nat × Instr × Nat) := [(0, .aload_n 0, 1), (1, .iload_n 1, 1), (2, .invokevirtual 42, 3), (5, .ifCond .ne 33, 3), (8, .aload_n 0, 1), (9, .getfield 7, 3), (12, .bipush 16, 2), (14, .iload_n 1, 1), (15, .iadd, 1), (16, .iaload, 1), (17, .aload_n 0, 1), (18, .aload_n 0, 1), (19, .getfield 7, 3), (22, .iconst 0, 1), (23, .iload_n 1, 1), (24, .iadd, 1), (25, .iaload, 1), (26, .invokevirtual 46, 3), (29, .iconst 1, 1), (30, .isub, 1), (31, .if_icmp .ge 7, 3), (34, .iconst 1, 1), (35, .goto 4, 3), (38, .iconst 0, 1), (39, .ireturn, 1)]
theorem kX6_isCovered_ok : kX6_isCovered.all (fun q => decide (decode cX6_isCovered q.1 = .ok q.2)) = true := by decide +kernel
def kX6_pottedOf : List (Nat × Instr × Nat) := [(0, .iconst 0, 1), (1, .istore_n 2, 1), (2, .iconst 4, 1), (3, .iload_n 1, 1), (4, .imul, 1), (5, .istore_n 3, 1), (6, .iload_n 3, 1), (7, .iconst 4, 1), (8, .iload_n 1, 1), (9, .imul, 1), (10, .iconst 4, 1), (11, .iadd, 1), (12, .if_icmp .ge 25, 3), (15, .iload_n 2, 1), (16, .aload_n 0, 1), (17, .iload_n 3, 1), (18, .invokevirtual 42, 3), (21, .ifCond .eq 7, 3), (24, .iconst 1, 1), (25, .goto 4, 3), (28, .iconst 0, 1), (29, .iadd, 1), (30, .istore_n 2, 1), (31, .iinc 3 1, 3), (34, .goto (-28), 3), (37, .iload_n 2, 1), (38, .ireturn, 1)]
theorem kX6_pottedOf_ok : kX6_pottedOf.all (fun q => decide (decode cX6_pottedOf q.1 = .ok q.2)) = true := by decide +kernel
def kX6_isOver : List (Nat × Instr × Nat) := [(0, .aload_n 0, 1), (1, .iconst 0, 1), (2, .invokevirtual 49, 3), (5, .iconst 4, 1), (6, .if_icmp .eq 30, 3), (9, .aload_n 0, 1), (10, .iconst 1, 1), (11, .invokevirtual 49, 3), (14, .iconst 4, 1), (15, .if_icmp .eq 21, 3), (18, .aload_n 0, 1), (19, .iconst 2, 1), (20, .invokevirtual 49, 3), (23, .iconst 4, 1), (24, .if_icmp .eq 12, 3), (27, .aload_n 0, 1), (28, .iconst 3, 1), (29, .invokevirtual 49, 3), (32, .iconst 4, 1), (33, .if_icmp .ne 7, 3), (36, .iconst 1, 1), (37, .goto 4, 3), (40, .iconst 0, 1), (41, .ireturn, 1)]
theorem kX6_isOver_ok : kX6_isOver.all (fun q => decide (decode cX6_isOver q.1 = .ok q.2)) = true := by decide +kernel
def kX6_pottedInAll : List (Nat × Instr × Nat) := [(0, .aload_n 0, 1), (1, .iconst 0, 1), (2, .invokevirtual 49, 3), (5, .aload_n 0, 1), (6, .iconst 1, 1), (7, .invokevirtual 49, 3), (10, .iadd, 1), (11, .aload_n 0, 1), (12, .iconst 2, 1), (13, .invokevirtual 49, 3), (16, .iadd, 1), (17, .aload_n 0, 1), (18, .iconst 3, 1), (19, .invokevirtual 49, 3), (22, .iadd, 1), (23, .ireturn, 1)]
theorem kX6_pottedInAll_ok : kX6_pottedInAll.all (fun q => decide (decode cX6_pottedInAll q.1 = .ok q.2)) = true := by decide +kernel
def kX6_lay : List (Nat × Instr × Nat) := [(0, .aload_n 0, 1), (1, .getfield 7, 3), (4, .iconst 0, 1), (5, .iload_n 1, 1), (6, .iadd, 1), (7, .iconst (-1), 1), (8, .iastore, 1), (9, .aload_n 0, 1), (10, .getfield 7, 3), (13, .bipush 16, 2), (15, .iload_n 1, 1), (16, .iadd, 1), (17, .iconst (-1), 1), (18, .iastore, 1), (19, .iload_n 2, 1), (20, .bipush 84, 2), (22, .if_icmp .eq 26, 3), (25, .aload_n 0, 1), (26, .getfield 7, 3), (29, .bipush 16, 2), (31, .iload_n 1, 1), (32, .iadd, 1), (33, .aload_n 0, 1), (34, .iload_n 2, 1), (35, .invokevirtual 46, 3), (38, .iastore, 1), (39, .aload_n 0, 1), (40, .getfield 7, 3), (43, .iconst 0, 1), (44, .iload_n 1, 1), (45, .iadd, 1), (46, .iload_n 2, 1), (47, .iastore, 1), (48, .return_, 1)]
theorem kX6_lay_ok : kX6_lay.all (fun q => decide (decode cX6_lay q.1 = .ok q.2)) = true := by decide +kernel
def kX6_points : List (Nat × Instr × Nat) := [(0, .iconst 3, 1), (1, .aload_n 0, 1), (2, .iload_n 1, 1), (3, .invokevirtual 49, 3), (6, .imul, 1), (7, .istore_n 2, 1), (8, .iconst 4, 1), (9, .iload_n 1, 1), (10, .imul, 1), (11, .istore_n 3, 1), (12, .iload_n 3, 1), (13, .iconst 4, 1), (14, .iload_n 1, 1), (15, .imul, 1), (16, .iconst 4, 1), (17, .iadd, 1), (18, .if_icmp .ge 48, 3), (21, .iload_n 2, 1), (22, .aload_n 0, 1), (23, .iload_n 3, 1), (24, .invokevirtual 42, 3), (27, .ifCond .ne 30, 3), (30, .aload_n 0, 1), (31, .iload_n 3, 1), (32, .invokevirtual 52, 3), (35, .ifCond .ne 22, 3), (38, .aload_n 0, 1), (39, .getfield 7, 3), (42, .iconst 0, 1), (43, .iload_n 3, 1), (44, .iadd, 1), (45, .iaload, 1), (46, .iload_n 1, 1), (47, .invokestatic 31, 3), (50, .if_icmp .eq 7, 3), (53, .iconst 1, 1), (54, .goto 4, 3), (57, .iconst 0, 1), (58, .iadd, 1), (59, .istore_n 2, 1), (60, .iinc 3 1, 3), (63, .goto (-51), 3), (66, .iload_n 2, 1), (67, .ireturn, 1)]
theorem kX6_points_ok : kX6_points.all (fun q => decide (decode cX6_points q.1 = .ok q.2)) = true := by decide +kernel
def kX6_team : List (Nat × Instr × Nat) := [(0, .aload_n 0, 1), (1, .iload_n 1, 1), (2, .invokevirtual 55, 3), (5, .aload_n 0, 1), (6, .iload_n 1, 1), (7, .iconst 2, 1), (8, .iadd, 1), (9, .invokevirtual 55, 3), (12, .iadd, 1), (13, .ireturn, 1)]
theorem kX6_team_ok : kX6_team.all (fun q => decide (decode cX6_team q.1 = .ok q.2)) = true := by decide +kernel
def kX6_pass : List (Nat × Instr × Nat) := [(0, .aload_n 0, 1), (1, .invokevirtual 58, 3), (4, .ifCond .eq 4, 3), (7, .return_, 1), (8, .iconst 1, 1), (9, .istore_n 1, 1), (10, .iload_n 1, 1), (11, .ifCond .eq 75, 3), (14, .aload_n 0, 1), (15, .getfield 7, 3), (18, .bipush 56, 2), (20, .aload_n 0, 1), (21, .getfield 7, 3), (24, .bipush 56, 2), (26, .iaload, 1), (27, .iconst 1, 1), (28, .iadd, 1), (29, .iconst 4, 1), (30, .irem, 1), (31, .iastore, 1), (32, .aload_n 0, 1), (33, .getfield 7, 3), (36, .bipush 52, 2), (38, .aload_n 0, 1), (39, .getfield 7, 3), (42, .bipush 56, 2), (44, .iaload, 1), (45, .iadd, 1), (46, .iaload, 1), (47, .ifCond .le 7, 3), (50, .iconst 1, 1), (51, .goto 4, 3), (54, .iconst 0, 1), (55, .istore_n 1, 1), (56, .aload_n 0, 1), (57, .getfield 7, 3), (60, .bipush 52, 2), (62, .aload_n 0, 1), (63, .getfield 7, 3), (66, .bipush 56, 2), (68, .iaload, 1), (69, .iadd, 1), (70, .dup2, 1), (71, .iaload, 1), (72, .iload_n 1, 1), (73, .ifCond .eq 7, 3), (76, .iconst 1, 1), (77, .goto 4, 3), (80, .iconst 0, 1), (81, .isub, 1), (82, .iastore, 1), (83, .goto (-73), 3), (86, .return_, 1)]
theorem kX6_pass_ok : kX6_pass.all (fun q => decide (decode cX6_pass q.1 = .ok q.2)) = true := by decide +kernel
def kX6_leads_0 : List (Nat × Instr × Nat) := [(0, .iload_n 0, 1), (1, .bipush 13, 2), (3, .irem, 1), (4, .istore_n 3, 1), (5, .iload_n 0, 1), (6, .bipush 13, 2), (8, .idiv, 1), (9, .istore 4, 2), (11, .iload_n 1, 1), (12, .invokestatic 62, 3), (15, .istore 5, 2), (17, .iload_n 1, 1), (18, .invokestatic 65, 3), (21, .istore 6, 2), (23, .iconst 0, 1), (24, .istore 7, 2), (26, .iconst 0, 1), (27, .istore 8, 2), (29, .iload 8, 2), (31, .iload_n 2, 1), (32, .if_icmp .ge 97, 3), (35, .iload_n 3, 1), (36, .iload 5, 2), (38, .iadd, 1), (39, .iconst 0, 1), (40, .bipush 12, 2), (42, .invokestatic 68, 3), (45, .ifCond .eq 17, 3), (48, .iload 4, 2), (50, .iload 6, 2), (52, .iadd, 1), (53, .iconst 0, 1), (54, .bipush 12, 2), (56, .invokestatic 68, 3), (59, .ifCond .ne 52, 3), (62, .iload 7, 2), (64, .ifCond .eq 5, 3), (67, .iconst (-1), 1), (68, .ireturn, 1), (69, .iconst 1, 1), (70, .istore 7, 2), (72, .iload 5, 2), (74, .ineg, 1), (75, .istore 5, 2), (77, .iload 6, 2), (79, .ineg, 1), (80, .istore 6, 2), (82, .iload_n 3, 1), (83, .iload 5, 2), (85, .iadd, 1), (86, .iconst 0, 1), (87, .bipush 12, 2), (89, .invokestatic 68, 3), (92, .ifCond .eq 17, 3), (95, .iload 4, 2), (97, .iload 6, 2), (99, .iadd, 1), (100, .iconst 0, 1), (101, .bipush 12, 2), (103, .invokestatic 68, 3)]
theorem kX6_leads_0_ok : kX6_leads_0.all (fun q => decide (decode cX6_leads q.1 = .ok q.2)) = true := by decide +kernel
def kX6_leads_1 : List (Nat × Instr × Nat) := [(106, .ifCond .ne 5, 3), (109, .iconst (-1), 1), (110, .ireturn, 1), (111, .iload_n 3, 1), (112, .iload 5, 2), (114, .iadd, 1), (115, .istore_n 3, 1), (116, .iload 4, 2), (118, .iload 6, 2), (120, .iadd, 1), (121, .istore 4, 2), (123, .iinc 8 1, 3), (126, .goto (-97), 3), (129, .bipush 13, 2), (131, .iload 4, 2), (133, .imul, 1), (134, .iload_n 3, 1), (135, .iadd, 1), (136, .ireturn, 1)]
theorem kX6_leads_1_ok : kX6_leads_1.all (fun q => decide (decode cX6_leads q.1 = .ok q.2)) = true := by decide +kernel
def kX6_steps : List (Nat × Instr × Nat) := [(0, .iload_n 0, 1), (1, .iconst 4, 1), (2, .irem, 1), (3, .iconst 2, 1), (4, .if_icmp .ge 7, 3), (7, .iload_n 1, 1), (8, .goto 6, 3), (11, .iload_n 1, 1), (12, .iconst 1, 1), (13, .iadd, 1), (14, .ireturn, 1)]
theorem kX6_steps_ok : kX6_steps.all (fun q => decide (decode cX6_steps q.1 = .ok q.2)) = true := by decide +kernel
def kX6_told : List (Nat × Instr × Nat) := [(0, .iload_n 0, 1), (1, .bipush 84, 2), (3, .if_icmp .ne 9, 3), (6, .sipush 169, 3), (9, .goto 4, 3), (12, .iload_n 0, 1), (13, .ireturn, 1)]
theorem kX6_told_ok : kX6_told.all (fun q => decide (decode cX6_told q.1 = .ok q.2)) = true := by decide +kernel
def kX6_whyNot : List (Nat × Instr × Nat) := [(0, .aload_n 0, 1), (1, .invokevirtual 58, 3), (4, .ifCond .eq 5, 3), (7, .iconst 1, 1), (8, .ireturn, 1), (9, .aload_n 0, 1), (10, .getfield 7, 3), (13, .bipush 56, 2), (15, .iaload, 1), (16, .iload_n 1, 1), (17, .iconst 4, 1), (18, .idiv, 1), (19, .if_icmp .eq 5, 3), (22, .iconst 2, 1), (23, .ireturn, 1), (24, .aload_n 0, 1), (25, .iload_n 1, 1), (26, .invokevirtual 42, 3), (29, .ifCond .eq 7, 3), (32, .iconst 3, 1), (33, .goto 16, 3), (36, .aload_n 0, 1), (37, .iload_n 1, 1), (38, .invokevirtual 52, 3), (41, .ifCond .eq 7, 3), (44, .iconst 4, 1), (45, .goto 4, 3), (48, .iconst 0, 1), (49, .ireturn, 1)]
theorem kX6_whyNot_ok : kX6_whyNot.all (fun q => decide (decode cX6_whyNot q.1 = .ok q.2)) = true := by decide +kernel
def kX6_flies_0 : List (Nat × Instr × Nat) := [(0, .aload_n 0, 1), (1, .getfield 7, 3), (4, .iconst 0, 1), (5, .iload_n 1, 1), (6, .iadd, 1), (7, .iaload, 1), (8, .iload_n 2, 1), (9, .iload_n 1, 1), (10, .iload_n 3, 1), (11, .invokestatic 72, 3), (14, .invokestatic 76, 3), (17, .istore 4, 2), (19, .aload_n 0, 1), (20, .getfield 7, 3), (23, .bipush 32, 2), (25, .iload_n 1, 1), (26, .iadd, 1), (27, .dup2, 1), (28, .iaload, 1), (29, .iconst 1, 1), (30, .iadd, 1), (31, .iastore, 1), (32, .aload_n 0, 1), (33, .getfield 7, 3), (36, .bipush 58, 2), (38, .dup2, 1), (39, .iaload, 1), (40, .iconst 1, 1), (41, .iadd, 1), (42, .iastore, 1), (43, .iload 4, 2), (45, .iconst (-1), 1), (46, .if_icmp .ne 47, 3), (49, .aload_n 0, 1), (50, .iload_n 1, 1), (51, .iload_n 1, 1), (52, .iconst 4, 1), (53, .idiv, 1), (54, .invokestatic 31, 3), (57, .invokevirtual 80, 3), (60, .aload_n 0, 1), (61, .getfield 7, 3), (64, .bipush 48, 2), (66, .iload_n 1, 1), (67, .iconst 4, 1), (68, .idiv, 1), (69, .iadd, 1), (70, .dup2, 1), (71, .iaload, 1), (72, .iconst 1, 1), (73, .iadd, 1), (74, .iastore, 1), (75, .aload_n 0, 1), (76, .getfield 7, 3), (79, .bipush 52, 2), (81, .iload_n 1, 1), (82, .iconst 4, 1), (83, .idiv, 1), (84, .iadd, 1), (85, .dup2, 1)]
theorem kX6_flies_0_ok : kX6_flies_0.all (fun q => decide (decode cX6_flies q.1 = .ok q.2)) = true := by decide +kernel
def kX6_flies_1 : List (Nat × Instr × Nat) := [(86, .iaload, 1), (87, .iconst 1, 1), (88, .iadd, 1), (89, .iastore, 1), (90, .goto 10, 3), (93, .aload_n 0, 1), (94, .iload_n 1, 1), (95, .iload 4, 2), (97, .invokevirtual 80, 3), (100, .iload 4, 2), (102, .bipush 84, 2), (104, .if_icmp .eq 7, 3), (107, .aload_n 0, 1), (108, .invokevirtual 84, 3), (111, .iload 4, 2), (113, .invokestatic 87, 3), (116, .ireturn, 1)]
theorem kX6_flies_1_ok : kX6_flies_1.all (fun q => decide (decode cX6_flies q.1 = .ok q.2)) = true := by decide +kernel
def kX6_beside : List (Nat × Instr × Nat) := [(0, .iload_n 0, 1), (1, .bipush 13, 2), (3, .irem, 1), (4, .iload_n 1, 1), (5, .invokestatic 62, 3), (8, .iadd, 1), (9, .istore_n 2, 1), (10, .iload_n 0, 1), (11, .bipush 13, 2), (13, .idiv, 1), (14, .iload_n 1, 1), (15, .invokestatic 65, 3), (18, .iadd, 1), (19, .istore_n 3, 1), (20, .iload_n 2, 1), (21, .iconst 0, 1), (22, .bipush 12, 2), (24, .invokestatic 68, 3), (27, .ifCond .eq 22, 3), (30, .iload_n 3, 1), (31, .iconst 0, 1), (32, .bipush 12, 2), (34, .invokestatic 68, 3), (37, .ifCond .eq 12, 3), (40, .bipush 13, 2), (42, .iload_n 3, 1), (43, .imul, 1), (44, .iload_n 2, 1), (45, .iadd, 1), (46, .goto 4, 3), (49, .iconst (-1), 1), (50, .ireturn, 1)]
theorem kX6_beside_ok : kX6_beside.all (fun q => decide (decode cX6_beside q.1 = .ok q.2)) = true := by decide +kernel
def kX6_whyNotLifted : List (Nat × Instr × Nat) := [(0, .aload_n 0, 1), (1, .invokevirtual 58, 3), (4, .ifCond .eq 5, 3), (7, .iconst 1, 1), (8, .ireturn, 1), (9, .aload_n 0, 1), (10, .iload_n 1, 1), (11, .invokevirtual 46, 3), (14, .istore 4, 2), (16, .iload 4, 2), (18, .iload_n 2, 1), (19, .if_icmp .ge 5, 3), (22, .iconst 2, 1), (23, .ireturn, 1), (24, .aload_n 0, 1), (25, .iload_n 1, 1), (26, .iload 4, 2), (28, .iconst 1, 1), (29, .isub, 1), (30, .invokevirtual 90, 3), (33, .iconst 4, 1), (34, .idiv, 1), (35, .aload_n 0, 1), (36, .getfield 7, 3), (39, .bipush 56, 2), (41, .iaload, 1), (42, .if_icmp .eq 5, 3), (45, .iconst 3, 1), (46, .ireturn, 1), (47, .iload_n 2, 1), (48, .aload_n 0, 1), (49, .getfield 7, 3), (52, .bipush 57, 2), (54, .iaload, 1), (55, .if_icmp .le 7, 3), (58, .iconst 4, 1), (59, .goto 17, 3), (62, .iload_n 1, 1), (63, .iload_n 3, 1), (64, .invokestatic 93, 3), (67, .iconst (-1), 1), (68, .if_icmp .ne 7, 3), (71, .iconst 5, 1), (72, .goto 4, 3), (75, .iconst 0, 1), (76, .ireturn, 1)]
theorem kX6_whyNotLifted_ok : kX6_whyNotLifted.all (fun q => decide (decode cX6_whyNotLifted q.1 = .ok q.2)) = true := by decide +kernel
def kX6_lifts : List (Nat × Instr × Nat) := [(0, .aload_n 0, 1), (1, .iload_n 1, 1), (2, .invokevirtual 46, 3), (5, .iload_n 2, 1), (6, .isub, 1), (7, .istore 4, 2), (9, .iconst 0, 1), (10, .istore 5, 2), (12, .iload 5, 2), (14, .iload_n 2, 1), (15, .if_icmp .ge 28, 3), (18, .aload_n 0, 1), (19, .aload_n 0, 1), (20, .iload_n 1, 1), (21, .iload 4, 2), (23, .iload 5, 2), (25, .iadd, 1), (26, .invokevirtual 90, 3), (29, .iload_n 1, 1), (30, .iload_n 3, 1), (31, .invokestatic 93, 3), (34, .invokevirtual 80, 3), (37, .iinc 5 1, 3), (40, .goto (-28), 3), (43, .aload_n 0, 1), (44, .getfield 7, 3), (47, .bipush 59, 2), (49, .dup2, 1), (50, .iaload, 1), (51, .iconst 1, 1), (52, .iadd, 1), (53, .iastore, 1), (54, .aload_n 0, 1), (55, .invokevirtual 84, 3), (58, .iload 4, 2), (60, .ireturn, 1)]
theorem kX6_lifts_ok : kX6_lifts.all (fun q => decide (decode cX6_lifts q.1 = .ok q.2)) = true := by decide +kernel
def kX6_fly : List (Nat × Instr × Nat) := [(0, .aload_n 0, 1), (1, .iconst 0, 1), (2, .putfield 35, 3), (5, .iload_n 1, 1), (6, .iconst 0, 1), (7, .bipush 15, 2), (9, .invokestatic 68, 3), (12, .ifCond .ne 9, 3), (15, .aload_n 0, 1), (16, .iconst 1, 1), (17, .invokevirtual 96, 3), (20, .ireturn, 1), (21, .iload_n 2, 1), (22, .iconst 0, 1), (23, .bipush 7, 2), (25, .invokestatic 68, 3), (28, .ifCond .eq 13, 3), (31, .iload_n 3, 1), (32, .iconst 1, 1), (33, .bipush 9, 2), (35, .invokestatic 68, 3), (38, .ifCond .ne 9, 3), (41, .aload_n 0, 1), (42, .iconst 2, 1), (43, .invokevirtual 96, 3), (46, .ireturn, 1), (47, .aload_n 0, 1), (48, .iload_n 1, 1), (49, .invokevirtual 99, 3), (52, .ifCond .eq 9, 3), (55, .aload_n 0, 1), (56, .iconst 3, 1), (57, .invokevirtual 96, 3), (60, .ireturn, 1), (61, .aload_n 0, 1), (62, .invokevirtual 102, 3), (65, .aload_n 0, 1), (66, .iload_n 1, 1), (67, .iload_n 2, 1), (68, .iload_n 3, 1), (69, .invokevirtual 105, 3), (72, .ireturn, 1)]
theorem kX6_fly_ok : kX6_fly.all (fun q => decide (decode cX6_fly q.1 = .ok q.2)) = true := by decide +kernel
def kX6_lift : List (Nat × Instr × Nat) := [(0, .aload_n 0, 1), (1, .iconst 0, 1), (2, .putfield 35, 3), (5, .iload_n 1, 1), (6, .iconst 0, 1), (7, .bipush 12, 2), (9, .invokestatic 68, 3), (12, .ifCond .eq 13, 3), (15, .iload_n 2, 1), (16, .iconst 0, 1), (17, .bipush 12, 2), (19, .invokestatic 68, 3), (22, .ifCond .ne 9, 3), (25, .aload_n 0, 1), (26, .iconst 1, 1), (27, .invokevirtual 96, 3), (30, .ireturn, 1), (31, .iload_n 3, 1), (32, .iconst 1, 1), (33, .bipush 6, 2), (35, .invokestatic 68, 3), (38, .ifCond .eq 14, 3), (41, .iload 4, 2), (43, .iconst 0, 1), (44, .bipush 7, 2), (46, .invokestatic 68, 3), (49, .ifCond .ne 9, 3), (52, .aload_n 0, 1), (53, .iconst 2, 1), (54, .invokevirtual 96, 3), (57, .ireturn, 1), (58, .aload_n 0, 1), (59, .bipush 13, 2), (61, .iload_n 2, 1), (62, .imul, 1), (63, .iload_n 1, 1), (64, .iadd, 1), (65, .iload_n 3, 1), (66, .iload 4, 2), (68, .invokevirtual 108, 3), (71, .ifCond .eq 9, 3), (74, .aload_n 0, 1), (75, .iconst 3, 1), (76, .invokevirtual 96, 3), (79, .ireturn, 1), (80, .aload_n 0, 1), (81, .invokevirtual 102, 3), (84, .aload_n 0, 1), (85, .bipush 13, 2), (87, .iload_n 2, 1), (88, .imul, 1), (89, .iload_n 1, 1), (90, .iadd, 1), (91, .iload_n 3, 1), (92, .iload 4, 2), (94, .invokevirtual 111, 3), (97, .ireturn, 1)]
theorem kX6_lift_ok : kX6_lift.all (fun q => decide (decode cX6_lift q.1 = .ok q.2)) = true := by decide +kernel
def kX6_set : List (Nat × Instr × Nat) := [(0, .aload_n 0, 1), (1, .iconst 0, 1), (2, .putfield 35, 3), (5, .iload_n 1, 1), (6, .iconst 1, 1), (7, .bipush 6, 2), (9, .invokestatic 68, 3), (12, .ifCond .ne 9, 3), (15, .aload_n 0, 1), (16, .iconst 1, 1), (17, .invokevirtual 96, 3), (20, .ireturn, 1), (21, .aload_n 0, 1), (22, .invokevirtual 102, 3), (25, .aload_n 0, 1), (26, .getfield 7, 3), (29, .bipush 57, 2), (31, .iaload, 1), (32, .istore_n 2, 1), (33, .aload_n 0, 1), (34, .getfield 7, 3), (37, .bipush 57, 2), (39, .iload_n 1, 1), (40, .iastore, 1), (41, .iload_n 2, 1), (42, .ireturn, 1)]
theorem kX6_set_ok : kX6_set.all (fun q => decide (decode cX6_set q.1 = .ok q.2)) = true := by decide +kernel
def kX6_put : List (Nat × Instr × Nat) := [(0, .aload_n 0, 1), (1, .iconst 0, 1), (2, .putfield 35, 3), (5, .iload_n 1, 1), (6, .iconst 0, 1), (7, .bipush 15, 2), (9, .invokestatic 68, 3), (12, .ifCond .eq 23, 3), (15, .iload_n 2, 1), (16, .iconst 0, 1), (17, .bipush 12, 2), (19, .invokestatic 68, 3), (22, .ifCond .eq 13, 3), (25, .iload_n 3, 1), (26, .iconst 0, 1), (27, .bipush 12, 2), (29, .invokestatic 68, 3), (32, .ifCond .ne 9, 3), (35, .aload_n 0, 1), (36, .iconst 1, 1), (37, .invokevirtual 96, 3), (40, .ireturn, 1), (41, .aload_n 0, 1), (42, .invokevirtual 58, 3), (45, .ifCond .ne 11, 3), (48, .aload_n 0, 1), (49, .iload_n 1, 1), (50, .invokevirtual 52, 3), (53, .ifCond .eq 9, 3), (56, .aload_n 0, 1), (57, .iconst 2, 1), (58, .invokevirtual 96, 3), (61, .ireturn, 1), (62, .aload_n 0, 1), (63, .invokevirtual 102, 3), (66, .aload_n 0, 1), (67, .iload_n 1, 1), (68, .bipush 13, 2), (70, .iload_n 3, 1), (71, .imul, 1), (72, .iload_n 2, 1), (73, .iadd, 1), (74, .invokevirtual 80, 3), (77, .aload_n 0, 1), (78, .bipush 13, 2), (80, .iload_n 3, 1), (81, .imul, 1), (82, .iload_n 2, 1), (83, .iadd, 1), (84, .invokevirtual 46, 3), (87, .ireturn, 1)]
theorem kX6_put_ok : kX6_put.all (fun q => decide (decode cX6_put q.1 = .ok q.2)) = true := by decide +kernel
def kX6_append : List (Nat × Instr × Nat) := [(0, .aload_n 0, 1), (1, .iconst 0, 1), (2, .putfield 35, 3), (5, .iload_n 1, 1), (6, .bipush 33, 2), (8, .bipush 126, 2), (10, .invokestatic 68, 3), (13, .ifCond .ne 9, 3), (16, .aload_n 0, 1), (17, .iconst 1, 1), (18, .invokevirtual 96, 3), (21, .ireturn, 1), (22, .aload_n 0, 1), (23, .getfield 114, 3), (26, .bipush 60, 2), (28, .if_icmp .ne 9, 3), (31, .aload_n 0, 1), (32, .iconst 2, 1), (33, .invokevirtual 96, 3), (36, .ireturn, 1), (37, .aload_n 0, 1), (38, .getfield 28, 3), (41, .aload_n 0, 1), (42, .getfield 114, 3), (45, .iload_n 1, 1), (46, .iastore, 1), (47, .aload_n 0, 1), (48, .dup, 1), (49, .getfield 114, 3), (52, .iconst 1, 1), (53, .iadd, 1), (54, .putfield 114, 3), (57, .aload_n 0, 1), (58, .getfield 114, 3), (61, .ireturn, 1)]
theorem kX6_append_ok : kX6_append.all (fun q => decide (decode cX6_append q.1 = .ok q.2)) = true := by decide +kernel
def kX6_clearBuffer : List (Nat × Instr × Nat) := [(0, .aload_n 0, 1), (1, .iconst 0, 1), (2, .putfield 35, 3), (5, .aload_n 0, 1), (6, .getfield 114, 3), (9, .istore_n 1, 1), (10, .aload_n 0, 1), (11, .iconst 0, 1), (12, .putfield 114, 3), (15, .iload_n 1, 1), (16, .ireturn, 1)]
theorem kX6_clearBuffer_ok : kX6_clearBuffer.all (fun q => decide (decode cX6_clearBuffer q.1 = .ok q.2)) = true := by decide +kernel
def kX6_takes : List (Nat × Instr × Nat) := [(0, .aload_n 0, 1), (1, .getfield 117, 3), (4, .aload_n 0, 1), (5, .getfield 114, 3), (8, .if_icmp .ge 24, 3), (11, .aload_n 0, 1), (12, .getfield 28, 3), (15, .aload_n 0, 1), (16, .getfield 117, 3), (19, .iaload, 1), (20, .iload_n 1, 1), (21, .iload_n 2, 1), (22, .invokestatic 68, 3), (25, .ifCond .eq 7, 3), (28, .iconst 1, 1), (29, .goto 4, 3), (32, .iconst 0, 1), (33, .istore_n 3, 1), (34, .aload_n 0, 1), (35, .dup, 1), (36, .getfield 117, 3), (39, .iload_n 3, 1), (40, .ifCond .eq 7, 3), (43, .iconst 1, 1), (44, .goto 4, 3), (47, .iconst 0, 1), (48, .iadd, 1), (49, .putfield 117, 3), (52, .iload_n 3, 1), (53, .ireturn, 1)]
theorem kX6_takes_ok : kX6_takes.all (fun q => decide (decode cX6_takes q.1 = .ok q.2)) = true := by decide +kernel
def kX6_part : List (Nat × Instr × Nat) := [(0, .aload_n 0, 1), (1, .bipush 102, 2), (3, .bipush 102, 2), (5, .invokevirtual 120, 3), (8, .ifCond .eq 42, 3), (11, .aload_n 0, 1), (12, .bipush 48, 2), (14, .bipush 51, 2), (16, .invokevirtual 120, 3), (19, .ifCond .eq 29, 3), (22, .aload_n 0, 1), (23, .bipush 48, 2), (25, .bipush 55, 2), (27, .invokevirtual 120, 3), (30, .ifCond .eq 18, 3), (33, .aload_n 0, 1), (34, .bipush 49, 2), (36, .bipush 57, 2), (38, .invokevirtual 120, 3), (41, .ifCond .eq 7, 3), (44, .iconst 1, 1), (45, .goto 4, 3), (48, .iconst 0, 1), (49, .ireturn, 1), (50, .aload_n 0, 1), (51, .bipush 108, 2), (53, .bipush 108, 2), (55, .invokevirtual 120, 3), (58, .ifCond .eq 51, 3), (61, .aload_n 0, 1), (62, .bipush 97, 2), (64, .bipush 109, 2), (66, .invokevirtual 120, 3), (69, .ifCond .eq 40, 3), (72, .aload_n 0, 1), (73, .bipush 97, 2), (75, .bipush 109, 2), (77, .invokevirtual 120, 3), (80, .ifCond .eq 29, 3), (83, .aload_n 0, 1), (84, .bipush 49, 2), (86, .bipush 54, 2), (88, .invokevirtual 120, 3), (91, .ifCond .eq 18, 3), (94, .aload_n 0, 1), (95, .bipush 48, 2), (97, .bipush 55, 2), (99, .invokevirtual 120, 3), (102, .ifCond .eq 7, 3), (105, .iconst 1, 1), (106, .goto 4, 3), (109, .iconst 0, 1), (110, .ireturn, 1)]
theorem kX6_part_ok : kX6_part.all (fun q => decide (decode cX6_part q.1 = .ok q.2)) = true := by decide +kernel
def kX6_isWhole : List (Nat × Instr × Nat) := [(0, .aload_n 0, 1), (1, .iconst 0, 1), (2, .putfield 117, 3), (5, .aload_n 0, 1), (6, .invokevirtual 124, 3), (9, .istore_n 1, 1), (10, .iload_n 1, 1), (11, .ifCond .eq 41, 3), (14, .aload_n 0, 1), (15, .getfield 117, 3), (18, .aload_n 0, 1), (19, .getfield 114, 3), (22, .if_icmp .ge 30, 3), (25, .aload_n 0, 1), (26, .bipush 59, 2), (28, .bipush 59, 2), (30, .invokevirtual 120, 3), (33, .ifCond .eq 14, 3), (36, .aload_n 0, 1), (37, .invokevirtual 124, 3), (40, .ifCond .eq 7, 3), (43, .iconst 1, 1), (44, .goto 4, 3), (47, .iconst 0, 1), (48, .istore_n 1, 1), (49, .goto (-39), 3), (52, .iload_n 1, 1), (53, .ireturn, 1)]
theorem kX6_isWhole_ok : kX6_isWhole.all (fun q => decide (decode cX6_isWhole q.1 = .ok q.2)) = true := by decide +kernel
def kX6_firstError : List (Nat × Instr × Nat) := [(0, .aload_n 0, 1), (1, .iconst 0, 1), (2, .putfield 35, 3), (5, .aload_n 0, 1), (6, .invokevirtual 127, 3), (9, .ifCond .eq 10, 3), (12, .aload_n 0, 1), (13, .getfield 114, 3), (16, .goto 7, 3), (19, .aload_n 0, 1), (20, .getfield 117, 3), (23, .ireturn, 1)]
theorem kX6_firstError_ok : kX6_firstError.all (fun q => decide (decode cX6_firstError q.1 = .ok q.2)) = true := by decide +kernel
def kX6_does_0 : List (Nat × Instr × Nat) := [(0, .aload_n 0, 1), (1, .getfield 28, 3), (4, .iload_n 1, 1), (5, .iaload, 1), (6, .bipush 102, 2), (8, .if_icmp .ne 78, 3), (11, .iconst 4, 1), (12, .aload_n 0, 1), (13, .getfield 7, 3), (16, .bipush 56, 2), (18, .iaload, 1), (19, .imul, 1), (20, .aload_n 0, 1), (21, .getfield 28, 3), (24, .iload_n 1, 1), (25, .iconst 1, 1), (26, .iadd, 1), (27, .iaload, 1), (28, .iadd, 1), (29, .bipush 48, 2), (31, .isub, 1), (32, .istore_n 2, 1), (33, .aload_n 0, 1), (34, .iload_n 2, 1), (35, .invokevirtual 99, 3), (38, .ifCond .ne 7, 3), (41, .iconst 1, 1), (42, .goto 4, 3), (45, .iconst 0, 1), (46, .istore_n 3, 1), (47, .iload_n 3, 1), (48, .ifCond .eq 33, 3), (51, .aload_n 0, 1), (52, .iload_n 2, 1), (53, .aload_n 0, 1), (54, .getfield 28, 3), (57, .iload_n 1, 1), (58, .iconst 2, 1), (59, .iadd, 1), (60, .iaload, 1), (61, .bipush 48, 2), (63, .isub, 1), (64, .aload_n 0, 1), (65, .getfield 28, 3), (68, .iload_n 1, 1), (69, .iconst 3, 1), (70, .iadd, 1), (71, .iaload, 1), (72, .bipush 48, 2), (74, .isub, 1), (75, .invokevirtual 105, 3), (78, .goto 4, 3), (81, .iconst 0, 1), (82, .istore 4, 2), (84, .iload_n 3, 1), (85, .ireturn, 1), (86, .bipush 13, 2), (88, .aload_n 0, 1), (89, .getfield 28, 3), (92, .iload_n 1, 1)]
theorem kX6_does_0_ok : kX6_does_0.all (fun q => decide (decode cX6_does q.1 = .ok q.2)) = true := by decide +kernel
def kX6_does_1 : List (Nat × Instr × Nat) := [(93, .iconst 2, 1), (94, .iadd, 1), (95, .iaload, 1), (96, .bipush 97, 2), (98, .isub, 1), (99, .imul, 1), (100, .aload_n 0, 1), (101, .getfield 28, 3), (104, .iload_n 1, 1), (105, .iconst 1, 1), (106, .iadd, 1), (107, .iaload, 1), (108, .iadd, 1), (109, .bipush 97, 2), (111, .isub, 1), (112, .istore_n 2, 1), (113, .aload_n 0, 1), (114, .iload_n 2, 1), (115, .aload_n 0, 1), (116, .getfield 28, 3), (119, .iload_n 1, 1), (120, .iconst 3, 1), (121, .iadd, 1), (122, .iaload, 1), (123, .bipush 48, 2), (125, .isub, 1), (126, .aload_n 0, 1), (127, .getfield 28, 3), (130, .iload_n 1, 1), (131, .iconst 4, 1), (132, .iadd, 1), (133, .iaload, 1), (134, .bipush 48, 2), (136, .isub, 1), (137, .invokevirtual 108, 3), (140, .ifCond .ne 7, 3), (143, .iconst 1, 1), (144, .goto 4, 3), (147, .iconst 0, 1), (148, .istore_n 3, 1), (149, .iload_n 3, 1), (150, .ifCond .eq 33, 3), (153, .aload_n 0, 1), (154, .iload_n 2, 1), (155, .aload_n 0, 1), (156, .getfield 28, 3), (159, .iload_n 1, 1), (160, .iconst 3, 1), (161, .iadd, 1), (162, .iaload, 1), (163, .bipush 48, 2), (165, .isub, 1), (166, .aload_n 0, 1), (167, .getfield 28, 3), (170, .iload_n 1, 1), (171, .iconst 4, 1), (172, .iadd, 1), (173, .iaload, 1), (174, .bipush 48, 2), (176, .isub, 1)]
theorem kX6_does_1_ok : kX6_does_1.all (fun q => decide (decode cX6_does q.1 = .ok q.2)) = true := by decide +kernel
def kX6_does_2 : List (Nat × Instr × Nat) := [(177, .invokevirtual 111, 3), (180, .goto 4, 3), (183, .iconst 0, 1), (184, .istore 4, 2), (186, .iload_n 3, 1), (187, .ireturn, 1)]
theorem kX6_does_2_ok : kX6_does_2.all (fun q => decide (decode cX6_does q.1 = .ok q.2)) = true := by decide +kernel
def kX6_play : List (Nat × Instr × Nat) := [(0, .aload_n 0, 1), (1, .iconst 0, 1), (2, .putfield 35, 3), (5, .aload_n 0, 1), (6, .invokevirtual 127, 3), (9, .ifCond .ne 9, 3), (12, .aload_n 0, 1), (13, .iconst 1, 1), (14, .invokevirtual 96, 3), (17, .ireturn, 1), (18, .aload_n 0, 1), (19, .invokevirtual 102, 3), (22, .iconst 0, 1), (23, .istore_n 1, 1), (24, .iconst 0, 1), (25, .istore_n 2, 1), (26, .iload_n 2, 1), (27, .aload_n 0, 1), (28, .getfield 114, 3), (31, .if_icmp .ge 37, 3), (34, .aload_n 0, 1), (35, .iload_n 2, 1), (36, .invokevirtual 130, 3), (39, .ifCond .eq 29, 3), (42, .iinc 1 1, 3), (45, .iload_n 2, 1), (46, .aload_n 0, 1), (47, .getfield 28, 3), (50, .iload_n 2, 1), (51, .iaload, 1), (52, .bipush 102, 2), (54, .if_icmp .ne 7, 3), (57, .iconst 5, 1), (58, .goto 5, 3), (61, .bipush 6, 2), (63, .iadd, 1), (64, .istore_n 2, 1), (65, .goto (-39), 3), (68, .aload_n 0, 1), (69, .iconst 0, 1), (70, .putfield 114, 3), (73, .iload_n 1, 1), (74, .ireturn, 1)]
theorem kX6_play_ok : kX6_play.all (fun q => decide (decode cX6_play q.1 = .ok q.2)) = true := by decide +kernel
def kX6_keep : List (Nat × Instr × Nat) := [(0, .aload_n 0, 1), (1, .iconst 0, 1), (2, .putfield 35, 3), (5, .iconst 0, 1), (6, .istore_n 1, 1), (7, .iload_n 1, 1), (8, .bipush 60, 2), (10, .if_icmp .ge 21, 3), (13, .aload_n 0, 1), (14, .getfield 16, 3), (17, .iload_n 1, 1), (18, .aload_n 0, 1), (19, .getfield 7, 3), (22, .iload_n 1, 1), (23, .iaload, 1), (24, .iastore, 1), (25, .iinc 1 1, 3), (28, .goto (-21), 3), (31, .aload_n 0, 1), (32, .iconst 1, 1), (33, .putfield 133, 3), (36, .aload_n 0, 1), (37, .invokevirtual 137, 3), (40, .ireturn, 1)]
theorem kX6_keep_ok : kX6_keep.all (fun q => decide (decode cX6_keep q.1 = .ok q.2)) = true := by decide +kernel
def kX6_goBack : List (Nat × Instr × Nat) := [(0, .aload_n 0, 1), (1, .iconst 0, 1), (2, .putfield 35, 3), (5, .aload_n 0, 1), (6, .getfield 133, 3), (9, .ifCond .ne 9, 3), (12, .aload_n 0, 1), (13, .iconst 1, 1), (14, .invokevirtual 96, 3), (17, .ireturn, 1), (18, .aload_n 0, 1), (19, .invokevirtual 102, 3), (22, .iconst 0, 1), (23, .istore_n 1, 1), (24, .iload_n 1, 1), (25, .bipush 60, 2), (27, .if_icmp .ge 21, 3), (30, .aload_n 0, 1), (31, .getfield 7, 3), (34, .iload_n 1, 1), (35, .aload_n 0, 1), (36, .getfield 16, 3), (39, .iload_n 1, 1), (40, .iaload, 1), (41, .iastore, 1), (42, .iinc 1 1, 3), (45, .goto (-21), 3), (48, .aload_n 0, 1), (49, .invokevirtual 137, 3), (52, .ireturn, 1)]
theorem kX6_goBack_ok : kX6_goBack.all (fun q => decide (decode cX6_goBack q.1 = .ok q.2)) = true := by decide +kernel
def kX6_undo : List (Nat × Instr × Nat) := [(0, .aload_n 0, 1), (1, .iconst 0, 1), (2, .putfield 35, 3), (5, .aload_n 0, 1), (6, .getfield 39, 3), (9, .ifCond .ne 9, 3), (12, .aload_n 0, 1), (13, .iconst 1, 1), (14, .invokevirtual 96, 3), (17, .ireturn, 1), (18, .aload_n 0, 1), (19, .dup, 1), (20, .getfield 39, 3), (23, .iconst 1, 1), (24, .isub, 1), (25, .putfield 39, 3), (28, .iconst 0, 1), (29, .istore_n 1, 1), (30, .iload_n 1, 1), (31, .bipush 60, 2), (33, .if_icmp .ge 29, 3), (36, .aload_n 0, 1), (37, .getfield 7, 3), (40, .iload_n 1, 1), (41, .aload_n 0, 1), (42, .getfield 13, 3), (45, .bipush 60, 2), (47, .aload_n 0, 1), (48, .getfield 39, 3), (51, .imul, 1), (52, .iload_n 1, 1), (53, .iadd, 1), (54, .iaload, 1), (55, .iastore, 1), (56, .iinc 1 1, 3), (59, .goto (-29), 3), (62, .aload_n 0, 1), (63, .getfield 39, 3), (66, .ireturn, 1)]
theorem kX6_undo_ok : kX6_undo.all (fun q => decide (decode cX6_undo q.1 = .ok q.2)) = true := by decide +kernel
def kX6_ofWink_0 : List (Nat × Instr × Nat) := [(0, .iload_n 2, 1), (1, .ifCond .ne 9, 3), (4, .iload_n 1, 1), (5, .iconst 4, 1), (6, .idiv, 1), (7, .goto 99, 3), (10, .iload_n 2, 1), (11, .iconst 1, 1), (12, .if_icmp .ne 18, 3), (15, .iload_n 1, 1), (16, .iconst 4, 1), (17, .irem, 1), (18, .iconst 2, 1), (19, .if_icmp .ge 7, 3), (22, .iconst 1, 1), (23, .goto 83, 3), (26, .iconst 0, 1), (27, .goto 79, 3), (30, .iload_n 2, 1), (31, .iconst 2, 1), (32, .if_icmp .ne 14, 3), (35, .aload_n 0, 1), (36, .getfield 7, 3), (39, .iconst 0, 1), (40, .iload_n 1, 1), (41, .iadd, 1), (42, .iaload, 1), (43, .goto 63, 3), (46, .iload_n 2, 1), (47, .iconst 3, 1), (48, .if_icmp .ne 15, 3), (51, .aload_n 0, 1), (52, .getfield 7, 3), (55, .bipush 16, 2), (57, .iload_n 1, 1), (58, .iadd, 1), (59, .iaload, 1), (60, .goto 46, 3), (63, .iload_n 2, 1), (64, .iconst 4, 1), (65, .if_icmp .ne 19, 3), (68, .aload_n 0, 1), (69, .iload_n 1, 1), (70, .invokevirtual 52, 3), (73, .ifCond .eq 7, 3), (76, .iconst 1, 1), (77, .goto 29, 3), (80, .iconst 0, 1), (81, .goto 25, 3), (84, .iload_n 2, 1), (85, .iconst 5, 1), (86, .if_icmp .ne 15, 3), (89, .aload_n 0, 1), (90, .getfield 7, 3), (93, .bipush 32, 2), (95, .iload_n 1, 1), (96, .iadd, 1), (97, .iaload, 1), (98, .goto 8, 3), (101, .aload_n 0, 1)]
theorem kX6_ofWink_0_ok : kX6_ofWink_0.all (fun q => decide (decode cX6_ofWink q.1 = .ok q.2)) = true := by decide +kernel
def kX6_ofWink_1 : List (Nat × Instr × Nat) := [(102, .iload_n 1, 1), (103, .invokevirtual 99, 3), (106, .ireturn, 1)]
theorem kX6_ofWink_1_ok : kX6_ofWink_1.all (fun q => decide (decode cX6_ofWink q.1 = .ok q.2)) = true := by decide +kernel
def kX6_wink : List (Nat × Instr × Nat) := [(0, .aload_n 0, 1), (1, .iconst 0, 1), (2, .putfield 35, 3), (5, .iload_n 1, 1), (6, .iconst 0, 1), (7, .bipush 15, 2), (9, .invokestatic 68, 3), (12, .ifCond .ne 9, 3), (15, .aload_n 0, 1), (16, .iconst 1, 1), (17, .invokevirtual 96, 3), (20, .ireturn, 1), (21, .iload_n 2, 1), (22, .iconst 0, 1), (23, .bipush 6, 2), (25, .invokestatic 68, 3), (28, .ifCond .eq 12, 3), (31, .aload_n 0, 1), (32, .iload_n 1, 1), (33, .iload_n 2, 1), (34, .invokevirtual 141, 3), (37, .goto 8, 3), (40, .aload_n 0, 1), (41, .iconst 2, 1), (42, .invokevirtual 96, 3), (45, .ireturn, 1)]
theorem kX6_wink_ok : kX6_wink.all (fun q => decide (decode cX6_wink q.1 = .ok q.2)) = true := by decide +kernel
def kX6_colours : List (Nat × Instr × Nat) := [(0, .iconst 0, 1), (1, .istore_n 2, 1), (2, .iconst 0, 1), (3, .istore_n 3, 1), (4, .iload_n 3, 1), (5, .bipush 16, 2), (7, .if_icmp .ge 33, 3), (10, .iload_n 2, 1), (11, .aload_n 0, 1), (12, .getfield 7, 3), (15, .iconst 0, 1), (16, .iload_n 3, 1), (17, .iadd, 1), (18, .iaload, 1), (19, .iload_n 1, 1), (20, .if_icmp .ne 11, 3), (23, .iconst 1, 1), (24, .iload_n 3, 1), (25, .iconst 4, 1), (26, .idiv, 1), (27, .ishl, 1), (28, .goto 4, 3), (31, .iconst 0, 1), (32, .ior, 1), (33, .istore_n 2, 1), (34, .iinc 3 1, 3), (37, .goto (-33), 3), (40, .iload_n 2, 1), (41, .ireturn, 1)]
theorem kX6_colours_ok : kX6_colours.all (fun q => decide (decode cX6_colours q.1 = .ok q.2)) = true := by decide +kernel
def kX6_ofPile : List (Nat × Instr × Nat) := [(0, .aload_n 0, 1), (1, .iload_n 1, 1), (2, .invokevirtual 46, 3), (5, .istore_n 3, 1), (6, .iload_n 2, 1), (7, .ifCond .ne 7, 3), (10, .iload_n 3, 1), (11, .goto 38, 3), (14, .iload_n 2, 1), (15, .iconst 1, 1), (16, .if_icmp .ne 14, 3), (19, .aload_n 0, 1), (20, .iload_n 1, 1), (21, .iload_n 3, 1), (22, .iconst 1, 1), (23, .isub, 1), (24, .invokevirtual 90, 3), (27, .goto 22, 3), (30, .iload_n 2, 1), (31, .iconst 2, 1), (32, .if_icmp .ne 12, 3), (35, .aload_n 0, 1), (36, .iload_n 1, 1), (37, .iconst 0, 1), (38, .invokevirtual 90, 3), (41, .goto 8, 3), (44, .aload_n 0, 1), (45, .iload_n 1, 1), (46, .invokevirtual 144, 3), (49, .ireturn, 1)]
theorem kX6_ofPile_ok : kX6_ofPile.all (fun q => decide (decode cX6_ofPile q.1 = .ok q.2)) = true := by decide +kernel
def kX6_pile : List (Nat × Instr × Nat) := [(0, .aload_n 0, 1), (1, .iconst 0, 1), (2, .putfield 35, 3), (5, .iload_n 1, 1), (6, .iconst 0, 1), (7, .bipush 12, 2), (9, .invokestatic 68, 3), (12, .ifCond .eq 13, 3), (15, .iload_n 2, 1), (16, .iconst 0, 1), (17, .bipush 12, 2), (19, .invokestatic 68, 3), (22, .ifCond .ne 9, 3), (25, .aload_n 0, 1), (26, .iconst 1, 1), (27, .invokevirtual 96, 3), (30, .ireturn, 1), (31, .iload_n 3, 1), (32, .iconst 0, 1), (33, .iconst 3, 1), (34, .invokestatic 68, 3), (37, .ifCond .eq 17, 3), (40, .aload_n 0, 1), (41, .bipush 13, 2), (43, .iload_n 2, 1), (44, .imul, 1), (45, .iload_n 1, 1), (46, .iadd, 1), (47, .iload_n 3, 1), (48, .invokevirtual 147, 3), (51, .goto 8, 3), (54, .aload_n 0, 1), (55, .iconst 2, 1), (56, .invokevirtual 96, 3), (59, .ireturn, 1)]
theorem kX6_pile_ok : kX6_pile.all (fun q => decide (decode cX6_pile q.1 = .ok q.2)) = true := by decide +kernel
def kX6_coveredOf : List (Nat × Instr × Nat) := [(0, .iconst 0, 1), (1, .istore_n 2, 1), (2, .iconst 4, 1), (3, .iload_n 1, 1), (4, .imul, 1), (5, .istore_n 3, 1), (6, .iload_n 3, 1), (7, .iconst 4, 1), (8, .iload_n 1, 1), (9, .imul, 1), (10, .iconst 4, 1), (11, .iadd, 1), (12, .if_icmp .ge 25, 3), (15, .iload_n 2, 1), (16, .aload_n 0, 1), (17, .iload_n 3, 1), (18, .invokevirtual 52, 3), (21, .ifCond .eq 7, 3), (24, .iconst 1, 1), (25, .goto 4, 3), (28, .iconst 0, 1), (29, .iadd, 1), (30, .istore_n 2, 1), (31, .iinc 3 1, 3), (34, .goto (-28), 3), (37, .iload_n 2, 1), (38, .ireturn, 1)]
theorem kX6_coveredOf_ok : kX6_coveredOf.all (fun q => decide (decode cX6_coveredOf q.1 = .ok q.2)) = true := by decide +kernel
def kX6_below_0 : List (Nat × Instr × Nat) := [(0, .iconst 0, 1), (1, .istore_n 2, 1), (2, .iconst 0, 1), (3, .istore_n 3, 1), (4, .iload_n 3, 1), (5, .bipush 16, 2), (7, .if_icmp .ge 115, 3), (10, .iconst 0, 1), (11, .istore 4, 2), (13, .iconst 4, 1), (14, .iload_n 1, 1), (15, .imul, 1), (16, .istore 5, 2), (18, .iload 5, 2), (20, .iconst 4, 1), (21, .iload_n 1, 1), (22, .imul, 1), (23, .iconst 4, 1), (24, .iadd, 1), (25, .if_icmp .ge 71, 3), (28, .iload 4, 2), (30, .ifCond .ne 53, 3), (33, .aload_n 0, 1), (34, .iload_n 3, 1), (35, .invokevirtual 42, 3), (38, .ifCond .ne 49, 3), (41, .aload_n 0, 1), (42, .getfield 7, 3), (45, .iconst 0, 1), (46, .iload 5, 2), (48, .iadd, 1), (49, .iaload, 1), (50, .aload_n 0, 1), (51, .getfield 7, 3), (54, .iconst 0, 1), (55, .iload_n 3, 1), (56, .iadd, 1), (57, .iaload, 1), (58, .if_icmp .ne 29, 3), (61, .aload_n 0, 1), (62, .getfield 7, 3), (65, .bipush 16, 2), (67, .iload 5, 2), (69, .iadd, 1), (70, .iaload, 1), (71, .aload_n 0, 1), (72, .getfield 7, 3), (75, .bipush 16, 2), (77, .iload_n 3, 1), (78, .iadd, 1), (79, .iaload, 1), (80, .if_icmp .le 7, 3), (83, .iconst 1, 1), (84, .goto 4, 3), (87, .iconst 0, 1), (88, .istore 4, 2), (90, .iinc 5 1, 3), (93, .goto (-75), 3), (96, .iload_n 2, 1), (97, .iload 4, 2)]
theorem kX6_below_0_ok : kX6_below_0.all (fun q => decide (decode cX6_below q.1 = .ok q.2)) = true := by decide +kernel
def kX6_below_1 : List (Nat × Instr × Nat) := [(99, .ifCond .eq 14, 3), (102, .iload_n 3, 1), (103, .iconst 4, 1), (104, .idiv, 1), (105, .iload_n 1, 1), (106, .if_icmp .eq 7, 3), (109, .iconst 1, 1), (110, .goto 4, 3), (113, .iconst 0, 1), (114, .iadd, 1), (115, .istore_n 2, 1), (116, .iinc 3 1, 3), (119, .goto (-115), 3), (122, .iload_n 2, 1), (123, .ireturn, 1)]
theorem kX6_below_1_ok : kX6_below_1.all (fun q => decide (decode cX6_below q.1 = .ok q.2)) = true := by decide +kernel
def kX6_ofColour : List (Nat × Instr × Nat) := [(0, .iload_n 2, 1), (1, .ifCond .ne 11, 3), (4, .aload_n 0, 1), (5, .iload_n 1, 1), (6, .invokevirtual 49, 3), (9, .goto 89, 3), (12, .iload_n 2, 1), (13, .iconst 1, 1), (14, .if_icmp .ne 11, 3), (17, .aload_n 0, 1), (18, .iload_n 1, 1), (19, .invokevirtual 150, 3), (22, .goto 76, 3), (25, .iload_n 2, 1), (26, .iconst 2, 1), (27, .if_icmp .ne 19, 3), (30, .iconst 4, 1), (31, .aload_n 0, 1), (32, .iload_n 1, 1), (33, .invokevirtual 49, 3), (36, .isub, 1), (37, .aload_n 0, 1), (38, .iload_n 1, 1), (39, .invokevirtual 150, 3), (42, .isub, 1), (43, .goto 55, 3), (46, .iload_n 2, 1), (47, .iconst 3, 1), (48, .if_icmp .ne 11, 3), (51, .aload_n 0, 1), (52, .iload_n 1, 1), (53, .invokevirtual 55, 3), (56, .goto 42, 3), (59, .iload_n 2, 1), (60, .iconst 4, 1), (61, .if_icmp .ne 15, 3), (64, .aload_n 0, 1), (65, .getfield 7, 3), (68, .bipush 48, 2), (70, .iload_n 1, 1), (71, .iadd, 1), (72, .iaload, 1), (73, .goto 25, 3), (76, .iload_n 2, 1), (77, .iconst 5, 1), (78, .if_icmp .ne 15, 3), (81, .aload_n 0, 1), (82, .getfield 7, 3), (85, .bipush 52, 2), (87, .iload_n 1, 1), (88, .iadd, 1), (89, .iaload, 1), (90, .goto 8, 3), (93, .aload_n 0, 1), (94, .iload_n 1, 1), (95, .invokevirtual 153, 3), (98, .ireturn, 1)]
theorem kX6_ofColour_ok : kX6_ofColour.all (fun q => decide (decode cX6_ofColour q.1 = .ok q.2)) = true := by decide +kernel
def kX6_colour : List (Nat × Instr × Nat) := [(0, .aload_n 0, 1), (1, .iconst 0, 1), (2, .putfield 35, 3), (5, .iload_n 1, 1), (6, .iconst 0, 1), (7, .iconst 3, 1), (8, .invokestatic 68, 3), (11, .ifCond .ne 9, 3), (14, .aload_n 0, 1), (15, .iconst 1, 1), (16, .invokevirtual 96, 3), (19, .ireturn, 1), (20, .iload_n 2, 1), (21, .iconst 0, 1), (22, .bipush 6, 2), (24, .invokestatic 68, 3), (27, .ifCond .eq 12, 3), (30, .aload_n 0, 1), (31, .iload_n 1, 1), (32, .iload_n 2, 1), (33, .invokevirtual 156, 3), (36, .goto 8, 3), (39, .aload_n 0, 1), (40, .iconst 2, 1), (41, .invokevirtual 96, 3), (44, .ireturn, 1)]
theorem kX6_colour_ok : kX6_colour.all (fun q => decide (decode cX6_colour q.1 = .ok q.2)) = true := by decide +kernel
def kX6_piles : List (Nat × Instr × Nat) := [(0, .iconst 0, 1), (1, .istore_n 1, 1), (2, .iconst 0, 1), (3, .istore_n 2, 1), (4, .iload_n 2, 1), (5, .bipush 16, 2), (7, .if_icmp .ge 29, 3), (10, .iload_n 1, 1), (11, .aload_n 0, 1), (12, .getfield 7, 3), (15, .bipush 16, 2), (17, .iload_n 2, 1), (18, .iadd, 1), (19, .iaload, 1), (20, .ifCond .ne 7, 3), (23, .iconst 1, 1), (24, .goto 4, 3), (27, .iconst 0, 1), (28, .iadd, 1), (29, .istore_n 1, 1), (30, .iinc 2 1, 3), (33, .goto (-29), 3), (36, .iload_n 1, 1), (37, .ireturn, 1)]
theorem kX6_piles_ok : kX6_piles.all (fun q => decide (decode cX6_piles q.1 = .ok q.2)) = true := by decide +kernel
def kX6_highest : List (Nat × Instr × Nat) := [(0, .iconst 0, 1), (1, .istore_n 1, 1), (2, .iconst 0, 1), (3, .istore_n 2, 1), (4, .iload_n 2, 1), (5, .bipush 16, 2), (7, .if_icmp .ge 40, 3), (10, .aload_n 0, 1), (11, .getfield 7, 3), (14, .bipush 16, 2), (16, .iload_n 2, 1), (17, .iadd, 1), (18, .iaload, 1), (19, .iconst 1, 1), (20, .iadd, 1), (21, .iload_n 1, 1), (22, .if_icmp .le 17, 3), (25, .aload_n 0, 1), (26, .getfield 7, 3), (29, .bipush 16, 2), (31, .iload_n 2, 1), (32, .iadd, 1), (33, .iaload, 1), (34, .iconst 1, 1), (35, .iadd, 1), (36, .goto 4, 3), (39, .iload_n 1, 1), (40, .istore_n 1, 1), (41, .iinc 2 1, 3), (44, .goto (-40), 3), (47, .iload_n 1, 1), (48, .ireturn, 1)]
theorem kX6_highest_ok : kX6_highest.all (fun q => decide (decode cX6_highest q.1 = .ok q.2)) = true := by decide +kernel
def kX6_covered : List (Nat × Instr × Nat) := [(0, .aload_n 0, 1), (1, .iconst 0, 1), (2, .invokevirtual 150, 3), (5, .aload_n 0, 1), (6, .iconst 1, 1), (7, .invokevirtual 150, 3), (10, .iadd, 1), (11, .aload_n 0, 1), (12, .iconst 2, 1), (13, .invokevirtual 150, 3), (16, .iadd, 1), (17, .aload_n 0, 1), (18, .iconst 3, 1), (19, .invokevirtual 150, 3), (22, .iadd, 1), (23, .ireturn, 1)]
theorem kX6_covered_ok : kX6_covered.all (fun q => decide (decode cX6_covered q.1 = .ok q.2)) = true := by decide +kernel
def kX6_number_0 : List (Nat × Instr × Nat) := [(0, .iload_n 1, 1), (1, .iconst 5, 1), (2, .if_icmp .ge 65, 3), (5, .iload_n 1, 1), (6, .ifCond .ne 24, 3), (9, .aload_n 0, 1), (10, .invokevirtual 58, 3), (13, .ifCond .eq 7, 3), (16, .iconst (-1), 1), (17, .goto 49, 3), (20, .aload_n 0, 1), (21, .getfield 7, 3), (24, .bipush 56, 2), (26, .iaload, 1), (27, .goto 39, 3), (30, .iload_n 1, 1), (31, .iconst 1, 1), (32, .if_icmp .ne 18, 3), (35, .aload_n 0, 1), (36, .invokevirtual 58, 3), (39, .ifCond .eq 7, 3), (42, .iconst 1, 1), (43, .goto 23, 3), (46, .iconst 0, 1), (47, .goto 19, 3), (50, .iload_n 1, 1), (51, .iconst 2, 1), (52, .if_icmp .ne 10, 3), (55, .aload_n 0, 1), (56, .invokevirtual 137, 3), (59, .goto 7, 3), (62, .aload_n 0, 1), (63, .invokevirtual 159, 3), (66, .ireturn, 1), (67, .iload_n 1, 1), (68, .bipush 10, 2), (70, .if_icmp .ge 92, 3), (73, .iload_n 1, 1), (74, .iconst 5, 1), (75, .if_icmp .ne 10, 3), (78, .aload_n 0, 1), (79, .invokevirtual 162, 3), (82, .goto 79, 3), (85, .iload_n 1, 1), (86, .bipush 6, 2), (88, .if_icmp .ne 10, 3), (91, .aload_n 0, 1), (92, .invokevirtual 165, 3), (95, .goto 66, 3), (98, .iload_n 1, 1), (99, .bipush 7, 2), (101, .if_icmp .ne 13, 3), (104, .aload_n 0, 1), (105, .getfield 7, 3), (108, .bipush 58, 2), (110, .iaload, 1), (111, .goto 50, 3), (114, .iload_n 1, 1), (115, .bipush 8, 2), (117, .if_icmp .ne 13, 3)]
theorem kX6_number_0_ok : kX6_number_0.all (fun q => decide (decode cX6_number q.1 = .ok q.2)) = true := by decide +kernel
def kX6_number_1 : List (Nat × Instr × Nat) := [(120, .aload_n 0, 1), (121, .getfield 7, 3), (124, .bipush 59, 2), (126, .iaload, 1), (127, .goto 34, 3), (130, .aload_n 0, 1), (131, .getfield 7, 3), (134, .bipush 48, 2), (136, .iaload, 1), (137, .aload_n 0, 1), (138, .getfield 7, 3), (141, .bipush 49, 2), (143, .iaload, 1), (144, .iadd, 1), (145, .aload_n 0, 1), (146, .getfield 7, 3), (149, .bipush 50, 2), (151, .iaload, 1), (152, .iadd, 1), (153, .aload_n 0, 1), (154, .getfield 7, 3), (157, .bipush 51, 2), (159, .iaload, 1), (160, .iadd, 1), (161, .ireturn, 1), (162, .iload_n 1, 1), (163, .bipush 12, 2), (165, .if_icmp .ge 14, 3), (168, .aload_n 0, 1), (169, .iload_n 1, 1), (170, .bipush 10, 2), (172, .isub, 1), (173, .invokevirtual 168, 3), (176, .goto 23, 3), (179, .iload_n 1, 1), (180, .bipush 12, 2), (182, .if_icmp .ne 13, 3), (185, .aload_n 0, 1), (186, .getfield 7, 3), (189, .bipush 57, 2), (191, .iaload, 1), (192, .goto 7, 3), (195, .aload_n 0, 1), (196, .getfield 39, 3), (199, .ireturn, 1)]
theorem kX6_number_1_ok : kX6_number_1.all (fun q => decide (decode cX6_number q.1 = .ok q.2)) = true := by decide +kernel
def kX6_count : List (Nat × Instr × Nat) := [(0, .aload_n 0, 1), (1, .iconst 0, 1), (2, .putfield 35, 3), (5, .iload_n 1, 1), (6, .iconst 0, 1), (7, .bipush 13, 2), (9, .invokestatic 68, 3), (12, .ifCond .eq 11, 3), (15, .aload_n 0, 1), (16, .iload_n 1, 1), (17, .invokevirtual 171, 3), (20, .goto 8, 3), (23, .aload_n 0, 1), (24, .iconst 1, 1), (25, .invokevirtual 96, 3), (28, .ireturn, 1)]
theorem kX6_count_ok : kX6_count.all (fun q => decide (decode cX6_count q.1 = .ok q.2)) = true := by decide +kernel
def kX6_why : List (Nat × Instr × Nat) := [(0, .aload_n 0, 1), (1, .iconst 0, 1), (2, .putfield 35, 3), (5, .iload_n 1, 1), (6, .iconst 0, 1), (7, .bipush 12, 2), (9, .invokestatic 68, 3), (12, .ifCond .eq 13, 3), (15, .iload_n 2, 1), (16, .iconst 0, 1), (17, .bipush 12, 2), (19, .invokestatic 68, 3), (22, .ifCond .ne 9, 3), (25, .aload_n 0, 1), (26, .iconst 1, 1), (27, .invokevirtual 96, 3), (30, .ireturn, 1), (31, .iload_n 3, 1), (32, .iconst 1, 1), (33, .bipush 6, 2), (35, .invokestatic 68, 3), (38, .ifCond .eq 30, 3), (41, .iload 4, 2), (43, .iconst 0, 1), (44, .bipush 7, 2), (46, .invokestatic 68, 3), (49, .ifCond .eq 19, 3), (52, .aload_n 0, 1), (53, .bipush 13, 2), (55, .iload_n 2, 1), (56, .imul, 1), (57, .iload_n 1, 1), (58, .iadd, 1), (59, .iload_n 3, 1), (60, .iload 4, 2), (62, .invokevirtual 108, 3), (65, .goto 8, 3), (68, .aload_n 0, 1), (69, .iconst 2, 1), (70, .invokevirtual 96, 3), (73, .ireturn, 1)]
theorem kX6_why_ok : kX6_why.all (fun q => decide (decode cX6_why q.1 = .ok q.2)) = true := by decide +kernel
def kX6_landing : List (Nat × Instr × Nat) := [(0, .aload_n 0, 1), (1, .iload_n 1, 1), (2, .invokevirtual 42, 3), (5, .ifCond .eq 8, 3), (8, .bipush (-2), 2), (10, .goto 23, 3), (13, .aload_n 0, 1), (14, .getfield 7, 3), (17, .iconst 0, 1), (18, .iload_n 1, 1), (19, .iadd, 1), (20, .iaload, 1), (21, .iload_n 2, 1), (22, .iload_n 1, 1), (23, .iload_n 3, 1), (24, .invokestatic 72, 3), (27, .invokestatic 76, 3), (30, .invokestatic 87, 3), (33, .ireturn, 1)]
theorem kX6_landing_ok : kX6_landing.all (fun q => decide (decode cX6_landing q.1 = .ok q.2)) = true := by decide +kernel
def kX6_lands : List (Nat × Instr × Nat) := [(0, .aload_n 0, 1), (1, .iconst 0, 1), (2, .putfield 35, 3), (5, .iload_n 1, 1), (6, .iconst 0, 1), (7, .bipush 15, 2), (9, .invokestatic 68, 3), (12, .ifCond .ne 9, 3), (15, .aload_n 0, 1), (16, .iconst 1, 1), (17, .invokevirtual 96, 3), (20, .ireturn, 1), (21, .iload_n 2, 1), (22, .iconst 0, 1), (23, .bipush 7, 2), (25, .invokestatic 68, 3), (28, .ifCond .eq 23, 3), (31, .iload_n 3, 1), (32, .iconst 1, 1), (33, .bipush 9, 2), (35, .invokestatic 68, 3), (38, .ifCond .eq 13, 3), (41, .aload_n 0, 1), (42, .iload_n 1, 1), (43, .iload_n 2, 1), (44, .iload_n 3, 1), (45, .invokevirtual 174, 3), (48, .goto 8, 3), (51, .aload_n 0, 1), (52, .iconst 2, 1), (53, .invokevirtual 96, 3), (56, .ireturn, 1)]
theorem kX6_lands_ok : kX6_lands.all (fun q => decide (decode cX6_lands q.1 = .ok q.2)) = true := by decide +kernel
def kX6_brings : List (Nat × Instr × Nat) := [(0, .aload_n 0, 1), (1, .invokevirtual 177, 3), (4, .aload_n 0, 1), (5, .iload_n 1, 1), (6, .iload_n 2, 1), (7, .iload_n 3, 1), (8, .invokevirtual 105, 3), (11, .istore 5, 2), (13, .iconst 1, 1), (14, .iload_n 1, 1), (15, .iconst 4, 1), (16, .idiv, 1), (17, .iconst 2, 1), (18, .irem, 1), (19, .isub, 1), (20, .istore 6, 2), (22, .iload 4, 2), (24, .ifCond .ne 21, 3), (27, .aload_n 0, 1), (28, .iconst 1, 1), (29, .iload 6, 2), (31, .isub, 1), (32, .invokevirtual 168, 3), (35, .aload_n 0, 1), (36, .iload 6, 2), (38, .invokevirtual 168, 3), (41, .isub, 1), (42, .goto 18, 3), (45, .aload_n 0, 1), (46, .iload 6, 2), (48, .invokevirtual 150, 3), (51, .aload_n 0, 1), (52, .iload 6, 2), (54, .iconst 2, 1), (55, .iadd, 1), (56, .invokevirtual 150, 3), (59, .iadd, 1), (60, .istore 7, 2), (62, .aload_n 0, 1), (63, .invokevirtual 180, 3), (66, .iload 7, 2), (68, .ireturn, 1)]
theorem kX6_brings_ok : kX6_brings.all (fun q => decide (decode cX6_brings q.1 = .ok q.2)) = true := by decide +kernel
def kX6_ifFlown : List (Nat × Instr × Nat) := [(0, .aload_n 0, 1), (1, .iconst 0, 1), (2, .putfield 35, 3), (5, .iload_n 1, 1), (6, .iconst 0, 1), (7, .bipush 15, 2), (9, .invokestatic 68, 3), (12, .ifCond .ne 9, 3), (15, .aload_n 0, 1), (16, .iconst 1, 1), (17, .invokevirtual 96, 3), (20, .ireturn, 1), (21, .iload_n 2, 1), (22, .iconst 0, 1), (23, .bipush 7, 2), (25, .invokestatic 68, 3), (28, .ifCond .eq 23, 3), (31, .iload_n 3, 1), (32, .iconst 1, 1), (33, .bipush 9, 2), (35, .invokestatic 68, 3), (38, .ifCond .eq 13, 3), (41, .iload 4, 2), (43, .iconst 0, 1), (44, .iconst 1, 1), (45, .invokestatic 68, 3), (48, .ifCond .ne 9, 3), (51, .aload_n 0, 1), (52, .iconst 2, 1), (53, .invokevirtual 96, 3), (56, .ireturn, 1), (57, .aload_n 0, 1), (58, .iload_n 1, 1), (59, .invokevirtual 99, 3), (62, .ifCond .eq 9, 3), (65, .sipush (-1000), 3), (68, .goto 12, 3), (71, .aload_n 0, 1), (72, .iload_n 1, 1), (73, .iload_n 2, 1), (74, .iload_n 3, 1), (75, .iload 4, 2), (77, .invokevirtual 183, 3), (80, .ireturn, 1)]
theorem kX6_ifFlown_ok : kX6_ifFlown.all (fun q => decide (decode cX6_ifFlown q.1 = .ok q.2)) = true := by decide +kernel
def kX6_bestFlight_0 : List (Nat × Instr × Nat) := [(0, .iconst (-1), 1), (1, .istore_n 1, 1), (2, .iconst 0, 1), (3, .istore_n 2, 1), (4, .iconst 0, 1), (5, .istore_n 3, 1), (6, .iload_n 3, 1), (7, .sipush 288, 3), (10, .if_icmp .ge 108, 3), (13, .iconst 4, 1), (14, .aload_n 0, 1), (15, .getfield 7, 3), (18, .bipush 56, 2), (20, .iaload, 1), (21, .imul, 1), (22, .iload_n 3, 1), (23, .bipush 72, 2), (25, .idiv, 1), (26, .iadd, 1), (27, .istore 4, 2), (29, .aload_n 0, 1), (30, .iload 4, 2), (32, .invokevirtual 99, 3), (35, .ifCond .ne 77, 3), (38, .iload_n 3, 1), (39, .bipush 9, 2), (41, .idiv, 1), (42, .bipush 8, 2), (44, .irem, 1), (45, .istore 5, 2), (47, .iload_n 3, 1), (48, .bipush 9, 2), (50, .irem, 1), (51, .iconst 1, 1), (52, .iadd, 1), (53, .istore 6, 2), (55, .bipush 100, 2), (57, .aload_n 0, 1), (58, .iload 4, 2), (60, .iload 5, 2), (62, .iload 6, 2), (64, .iconst 0, 1), (65, .invokevirtual 183, 3), (68, .imul, 1), (69, .aload_n 0, 1), (70, .iload 4, 2), (72, .iload 5, 2), (74, .iload 6, 2), (76, .iconst 1, 1), (77, .invokevirtual 183, 3), (80, .iadd, 1), (81, .istore 7, 2), (83, .iload_n 1, 1), (84, .iconst (-1), 1), (85, .if_icmp .eq 9, 3), (88, .iload 7, 2), (90, .iload_n 2, 1), (91, .if_icmp .le 21, 3), (94, .bipush 100, 2), (96, .iload 4, 2)]
theorem kX6_bestFlight_0_ok : kX6_bestFlight_0.all (fun q => decide (decode cX6_bestFlight q.1 = .ok q.2)) = true := by decide +kernel
def kX6_bestFlight_1 : List (Nat × Instr × Nat) := [(98, .imul, 1), (99, .bipush 10, 2), (101, .iload 5, 2), (103, .imul, 1), (104, .iadd, 1), (105, .iload 6, 2), (107, .iadd, 1), (108, .istore_n 1, 1), (109, .iload 7, 2), (111, .istore_n 2, 1), (112, .iinc 3 1, 3), (115, .goto (-109), 3), (118, .iload_n 1, 1), (119, .ireturn, 1)]
theorem kX6_bestFlight_1_ok : kX6_bestFlight_1.all (fun q => decide (decode cX6_bestFlight q.1 = .ok q.2)) = true := by decide +kernel
def kX6_best : List (Nat × Instr × Nat) := [(0, .aload_n 0, 1), (1, .iconst 0, 1), (2, .putfield 35, 3), (5, .aload_n 0, 1), (6, .invokevirtual 187, 3), (9, .ireturn, 1)]
theorem kX6_best_ok : kX6_best.all (fun q => decide (decode cX6_best q.1 = .ok q.2)) = true := by decide +kernel
def kX6_fewest_0 : List (Nat × Instr × Nat) := [(0, .aload_n 0, 1), (1, .iload_n 1, 1), (2, .invokevirtual 42, 3), (5, .ifCond .eq 5, 3), (8, .iconst 0, 1), (9, .ireturn, 1), (10, .iconst 0, 1), (11, .istore_n 2, 1), (12, .iload_n 2, 1), (13, .sipush 169, 3), (16, .if_icmp .ge 32, 3), (19, .aload_n 0, 1), (20, .getfield 22, 3), (23, .iload_n 2, 1), (24, .iload_n 2, 1), (25, .aload_n 0, 1), (26, .getfield 7, 3), (29, .iconst 0, 1), (30, .iload_n 1, 1), (31, .iadd, 1), (32, .iaload, 1), (33, .if_icmp .ne 7, 3), (36, .iconst 0, 1), (37, .goto 4, 3), (40, .iconst (-1), 1), (41, .iastore, 1), (42, .iinc 2 1, 3), (45, .goto (-33), 3), (48, .iconst 1, 1), (49, .istore_n 2, 1), (50, .iload_n 2, 1), (51, .sipush 169, 3), (54, .if_icmp .gt 157, 3), (57, .iconst 0, 1), (58, .istore_n 3, 1), (59, .iconst 0, 1), (60, .istore 4, 2), (62, .iload 4, 2), (64, .sipush 169, 3), (67, .if_icmp .ge 23, 3), (70, .aload_n 0, 1), (71, .getfield 25, 3), (74, .iload 4, 2), (76, .aload_n 0, 1), (77, .getfield 22, 3), (80, .iload 4, 2), (82, .iaload, 1), (83, .iastore, 1), (84, .iinc 4 1, 3), (87, .goto (-25), 3), (90, .iconst 0, 1), (91, .istore 4, 2), (93, .iload 4, 2), (95, .sipush 169, 3), (98, .if_icmp .ge 88, 3), (101, .iconst 0, 1), (102, .istore 5, 2), (104, .iload 5, 2), (106, .bipush 72, 2), (108, .if_icmp .ge 72, 3)]
theorem kX6_fewest_0_ok : kX6_fewest_0.all (fun q => decide (decode cX6_fewest q.1 = .ok q.2)) = true := by decide +kernel
def kX6_fewest_1 : List (Nat × Instr × Nat) := [(111, .aload_n 0, 1), (112, .getfield 25, 3), (115, .iload 4, 2), (117, .iaload, 1), (118, .iload_n 2, 1), (119, .iconst 1, 1), (120, .isub, 1), (121, .if_icmp .ne 59, 3), (124, .iload 4, 2), (126, .iload 5, 2), (128, .bipush 9, 2), (130, .idiv, 1), (131, .iload_n 1, 1), (132, .iload 5, 2), (134, .bipush 9, 2), (136, .irem, 1), (137, .iconst 1, 1), (138, .iadd, 1), (139, .invokestatic 72, 3), (142, .invokestatic 76, 3), (145, .istore 6, 2), (147, .iload 6, 2), (149, .iconst (-1), 1), (150, .if_icmp .eq 24, 3), (153, .aload_n 0, 1), (154, .getfield 22, 3), (157, .iload 6, 2), (159, .iaload, 1), (160, .iconst (-1), 1), (161, .if_icmp .ne 13, 3), (164, .aload_n 0, 1), (165, .getfield 22, 3), (168, .iload 6, 2), (170, .iload_n 2, 1), (171, .iastore, 1), (172, .iconst 1, 1), (173, .istore_n 3, 1), (174, .iinc 5 1, 3), (177, .goto (-73), 3), (180, .iinc 4 1, 3), (183, .goto (-90), 3), (186, .aload_n 0, 1), (187, .getfield 22, 3), (190, .bipush 84, 2), (192, .iaload, 1), (193, .iconst (-1), 1), (194, .if_icmp .eq 5, 3), (197, .iload_n 2, 1), (198, .ireturn, 1), (199, .iload_n 3, 1), (200, .ifCond .ne 5, 3), (203, .iconst (-1), 1), (204, .ireturn, 1), (205, .iinc 2 1, 3), (208, .goto (-158), 3), (211, .iconst (-1), 1), (212, .ireturn, 1)]
theorem kX6_fewest_1_ok : kX6_fewest_1.all (fun q => decide (decode cX6_fewest q.1 = .ok q.2)) = true := by decide +kernel
def kX6_flightsTo : List (Nat × Instr × Nat) := [(0, .aload_n 0, 1), (1, .iconst 0, 1), (2, .putfield 35, 3), (5, .iload_n 1, 1), (6, .iconst 0, 1), (7, .bipush 15, 2), (9, .invokestatic 68, 3), (12, .ifCond .eq 11, 3), (15, .aload_n 0, 1), (16, .iload_n 1, 1), (17, .invokevirtual 190, 3), (20, .goto 8, 3), (23, .aload_n 0, 1), (24, .iconst 1, 1), (25, .invokevirtual 96, 3), (28, .ireturn, 1)]
theorem kX6_flightsTo_ok : kX6_flightsTo.all (fun q => decide (decode cX6_flightsTo q.1 = .ok q.2)) = true := by decide +kernel
def kX6_pottedShare : List (Nat × Instr × Nat) := [(0, .aload_n 0, 1), (1, .iconst 0, 1), (2, .putfield 35, 3), (5, .aload_n 0, 1), (6, .invokevirtual 137, 3), (9, .i2d, 1), (10, .ldc2_w 193, 3), (13, .ddiv, 1), (14, .dreturn, 1)]
theorem kX6_pottedShare_ok : kX6_pottedShare.all (fun q => decide (decode cX6_pottedShare q.1 = .ok q.2)) = true := by decide +kernel
def kX6_meanPile : List (Nat × Instr × Nat) := [(0, .aload_n 0, 1), (1, .iconst 0, 1), (2, .putfield 35, 3), (5, .aload_n 0, 1), (6, .invokevirtual 162, 3), (9, .ifCond .ne 7, 3), (12, .fconst 0, 1), (13, .goto 17, 3), (16, .bipush 16, 2), (18, .aload_n 0, 1), (19, .invokevirtual 137, 3), (22, .isub, 1), (23, .i2f, 1), (24, .aload_n 0, 1), (25, .invokevirtual 162, 3), (28, .i2f, 1), (29, .fdiv, 1), (30, .freturn, 1)]
theorem kX6_meanPile_ok : kX6_meanPile.all (fun q => decide (decode cX6_meanPile q.1 = .ok q.2)) = true := by decide +kernel
def kX6_ofCells : List (Nat × Instr × Nat) := [(0, .lload_n 1, 1), (1, .lstore_n 3, 1), (2, .iconst 0, 1), (3, .istore 5, 2), (5, .iload 5, 2), (7, .sipush 169, 3), (10, .if_icmp .ge 49, 3), (13, .iconst 0, 1), (14, .istore 6, 2), (16, .iload 6, 2), (18, .iconst 4, 1), (19, .if_icmp .ge 34, 3), (22, .aload_n 0, 1), (23, .iload 5, 2), (25, .invokevirtual 46, 3), (28, .ifCond .le 25, 3), (31, .ldc2_w 195, 3), (34, .lload_n 3, 1), (35, .lmul, 1), (36, .aload_n 0, 1), (37, .iload 5, 2), (39, .iload 6, 2), (41, .invokevirtual 147, 3), (44, .i2l, 1), (45, .ladd, 1), (46, .lstore_n 3, 1), (47, .iinc 6 1, 3), (50, .goto (-34), 3), (53, .iinc 5 1, 3), (56, .goto (-51), 3), (59, .lload_n 3, 1), (60, .lreturn, 1)]
theorem kX6_ofCells_ok : kX6_ofCells.all (fun q => decide (decode cX6_ofCells q.1 = .ok q.2)) = true := by decide +kernel
def kX6_ofWinks_0 : List (Nat × Instr × Nat) := [(0, .lload_n 1, 1), (1, .lstore_n 3, 1), (2, .iconst 0, 1), (3, .istore 5, 2), (5, .iload 5, 2), (7, .bipush 16, 2), (9, .if_icmp .ge 71, 3), (12, .iconst 0, 1), (13, .istore 6, 2), (15, .iload 6, 2), (17, .bipush 7, 2), (19, .if_icmp .ge 25, 3), (22, .ldc2_w 195, 3), (25, .lload_n 3, 1), (26, .lmul, 1), (27, .aload_n 0, 1), (28, .iload 5, 2), (30, .iload 6, 2), (32, .invokevirtual 141, 3), (35, .i2l, 1), (36, .ladd, 1), (37, .lstore_n 3, 1), (38, .iinc 6 1, 3), (41, .goto (-26), 3), (44, .ldc2_w 195, 3), (47, .lload_n 3, 1), (48, .lmul, 1), (49, .aload_n 0, 1), (50, .iload 5, 2), (52, .iconst 3, 1), (53, .iconst 5, 1), (54, .invokevirtual 174, 3), (57, .i2l, 1), (58, .ladd, 1), (59, .lstore_n 3, 1), (60, .ldc2_w 195, 3), (63, .lload_n 3, 1), (64, .lmul, 1), (65, .aload_n 0, 1), (66, .iload 5, 2), (68, .invokevirtual 190, 3), (71, .i2l, 1), (72, .ladd, 1), (73, .lstore_n 3, 1), (74, .iinc 5 1, 3), (77, .goto (-72), 3), (80, .iconst 0, 1), (81, .istore 5, 2), (83, .iload 5, 2), (85, .iconst 4, 1), (86, .if_icmp .ge 41, 3), (89, .iconst 0, 1), (90, .istore 6, 2), (92, .iload 6, 2), (94, .bipush 7, 2), (96, .if_icmp .ge 25, 3), (99, .ldc2_w 195, 3), (102, .lload_n 3, 1), (103, .lmul, 1), (104, .aload_n 0, 1)]
theorem kX6_ofWinks_0_ok : kX6_ofWinks_0.all (fun q => decide (decode cX6_ofWinks q.1 = .ok q.2)) = true := by decide +kernel
def kX6_ofWinks_1 : List (Nat × Instr × Nat) := [(105, .iload 5, 2), (107, .iload 6, 2), (109, .invokevirtual 156, 3), (112, .i2l, 1), (113, .ladd, 1), (114, .lstore_n 3, 1), (115, .iinc 6 1, 3), (118, .goto (-26), 3), (121, .iinc 5 1, 3), (124, .goto (-41), 3), (127, .lload_n 3, 1), (128, .lreturn, 1)]
theorem kX6_ofWinks_1_ok : kX6_ofWinks_1.all (fun q => decide (decode cX6_ofWinks q.1 = .ok q.2)) = true := by decide +kernel
def kX6_digest_0 : List (Nat × Instr × Nat) := [(0, .aload_n 0, 1), (1, .iconst 0, 1), (2, .putfield 35, 3), (5, .ldc2_w 197, 3), (8, .lstore_n 1, 1), (9, .iconst 0, 1), (10, .istore_n 3, 1), (11, .iload_n 3, 1), (12, .bipush 14, 2), (14, .if_icmp .ge 22, 3), (17, .ldc2_w 195, 3), (20, .lload_n 1, 1), (21, .lmul, 1), (22, .aload_n 0, 1), (23, .iload_n 3, 1), (24, .invokevirtual 171, 3), (27, .i2l, 1), (28, .ladd, 1), (29, .lstore_n 1, 1), (30, .iinc 3 1, 3), (33, .goto (-22), 3), (36, .aload_n 0, 1), (37, .aload_n 0, 1), (38, .lload_n 1, 1), (39, .invokevirtual 199, 3), (42, .invokevirtual 203, 3), (45, .lstore_n 1, 1), (46, .ldc2_w 195, 3), (49, .lload_n 1, 1), (50, .lmul, 1), (51, .aload_n 0, 1), (52, .invokevirtual 187, 3), (55, .i2l, 1), (56, .ladd, 1), (57, .lstore_n 1, 1), (58, .ldc2_w 195, 3), (61, .lload_n 1, 1), (62, .lmul, 1), (63, .aload_n 0, 1), (64, .invokevirtual 206, 3), (67, .invokestatic 210, 3), (70, .ladd, 1), (71, .lstore_n 1, 1), (72, .ldc2_w 195, 3), (75, .lload_n 1, 1), (76, .lmul, 1), (77, .aload_n 0, 1), (78, .invokevirtual 216, 3), (81, .invokestatic 220, 3), (84, .i2l, 1), (85, .ladd, 1), (86, .lstore_n 1, 1), (87, .ldc2_w 195, 3), (90, .lload_n 1, 1), (91, .lmul, 1), (92, .aload_n 0, 1), (93, .getfield 133, 3), (96, .ifCond .eq 7, 3), (99, .iconst 1, 1), (100, .goto 4, 3)]
theorem kX6_digest_0_ok : kX6_digest_0.all (fun q => decide (decode cX6_digest q.1 = .ok q.2)) = true := by decide +kernel
def kX6_digest_1 : List (Nat × Instr × Nat) := [(103, .iconst 0, 1), (104, .i2l, 1), (105, .ladd, 1), (106, .lstore_n 1, 1), (107, .ldc2_w 195, 3), (110, .lload_n 1, 1), (111, .lmul, 1), (112, .aload_n 0, 1), (113, .getfield 114, 3), (116, .i2l, 1), (117, .ladd, 1), (118, .lstore_n 1, 1), (119, .iconst 0, 1), (120, .istore_n 3, 1), (121, .iload_n 3, 1), (122, .aload_n 0, 1), (123, .getfield 114, 3), (126, .if_icmp .ge 23, 3), (129, .ldc2_w 195, 3), (132, .lload_n 1, 1), (133, .lmul, 1), (134, .aload_n 0, 1), (135, .getfield 28, 3), (138, .iload_n 3, 1), (139, .iaload, 1), (140, .i2l, 1), (141, .ladd, 1), (142, .lstore_n 1, 1), (143, .iinc 3 1, 3), (146, .goto (-25), 3), (149, .lload_n 1, 1), (150, .lreturn, 1)]
theorem kX6_digest_1_ok : kX6_digest_1.all (fun q => decide (decode cX6_digest q.1 = .ok q.2)) = true := by decide +kernel
def kJxe99ae_isNaN_b9ae7 : List (Nat × Instr × Nat) := [(0, .dload_n 0, 1), (1, .dload_n 0, 1), (2, .dcmp .l, 1), (3, .ifCond .eq 7, 3), (6, .iconst 1, 1), (7, .goto 4, 3), (10, .iconst 0, 1), (11, .ireturn, 1)]
theorem kJxe99ae_isNaN_b9ae7_ok : kJxe99ae_isNaN_b9ae7.all (fun q => decide (decode cJxe99ae_isNaN_b9ae7 q.1 = .ok q.2)) = true := by decide +kernel
def kJxe99ae_doubleToLongBits_ccdee : List (Nat × Instr × Nat) := [(0, .dload_n 0, 1), (1, .invokestatic 122, 3), (4, .ifCond .ne 8, 3), (7, .dload_n 0, 1), (8, .invokestatic 134, 3), (11, .lreturn, 1), (12, .ldc2_w 137, 3), (15, .lreturn, 1)]
theorem kJxe99ae_doubleToLongBits_ccdee_ok : kJxe99ae_doubleToLongBits_ccdee.all (fun q => decide (decode cJxe99ae_doubleToLongBits_ccdee q.1 = .ok q.2)) = true := by decide +kernel
def kJxf58ca_isNaN_12338 : List (Nat × Instr × Nat) := [(0, .fload_n 0, 1), (1, .fload_n 0, 1), (2, .fcmp .l, 1), (3, .ifCond .eq 7, 3), (6, .iconst 1, 1), (7, .goto 4, 3), (10, .iconst 0, 1), (11, .ireturn, 1)]
theorem kJxf58ca_isNaN_12338_ok : kJxf58ca_isNaN_12338.all (fun q => decide (decode cJxf58ca_isNaN_12338 q.1 = .ok q.2)) = true := by decide +kernel
def kJxf58ca_floatToIntBits_5c35a : List (Nat × Instr × Nat) := [(0, .fload_n 0, 1), (1, .invokestatic 59, 3), (4, .ifCond .ne 8, 3), (7, .fload_n 0, 1), (8, .invokestatic 74, 3), (11, .ireturn, 1), (12, .ldc 77, 2), (14, .ireturn, 1)]
theorem kJxf58ca_floatToIntBits_5c35a_ok : kJxf58ca_floatToIntBits_5c35a.all (fun q => decide (decode cJxf58ca_floatToIntBits_5c35a q.1 = .ok q.2)) = true := by decide +kernel
def kJ9_max_7cf53 : List (Nat × Instr × Nat) := [(0, .iload_n 0, 1), (1, .iload_n 1, 1), (2, .if_icmp .lt 7, 3), (5, .iload_n 0, 1), (6, .goto 4, 3), (9, .iload_n 1, 1), (10, .ireturn, 1)]
theorem kJ9_max_7cf53_ok : kJ9_max_7cf53.all (fun q => decide (decode cJ9_max_7cf53 q.1 = .ok q.2)) = true := by decide +kernel
def kJ9_min_7cf53 : List (Nat × Instr × Nat) := [(0, .iload_n 0, 1), (1, .iload_n 1, 1), (2, .if_icmp .gt 7, 3), (5, .iload_n 0, 1), (6, .goto 4, 3), (9, .iload_n 1, 1), (10, .ireturn, 1)]
theorem kJ9_min_7cf53_ok : kJ9_min_7cf53.all (fun q => decide (decode cJ9_min_7cf53 q.1 = .ok q.2)) = true := by decide +kernel
def kJ7_fill_53178 : List (Nat × Instr × Nat) := [(0, .iconst 0, 1), (1, .istore_n 2, 1), (2, .aload_n 0, 1), (3, .arraylength, 1), (4, .istore_n 3, 1), (5, .iload_n 2, 1), (6, .iload_n 3, 1), (7, .if_icmp .ge 13, 3), (10, .aload_n 0, 1), (11, .iload_n 2, 1), (12, .iload_n 1, 1), (13, .iastore, 1), (14, .iinc 2 1, 3), (17, .goto (-12), 3), (20, .return_, 1)]
theorem kJ7_fill_53178_ok : kJ7_fill_53178.all (fun q => decide (decode cJ7_fill_53178 q.1 = .ok q.2)) = true := by decide +kernel
theorem tb1 : ∀ w ∈ tables_1_1, w ∈ lw_tbl := fun _ h => List.mem_append_right _ (List.mem_append_left _ h)
theorem tb2 : ∀ w ∈ tables_1_2, w ∈ lw_tbl := fun _ h => List.mem_append_right _ (List.mem_append_right _ (List.mem_append_left _ h))
theorem tb3 : ∀ w ∈ tables_1_3, w ∈ lw_tbl := fun _ h => List.mem_append_right _ (List.mem_append_right _ (List.mem_append_right _ (List.mem_append_left _ h)))
theorem tb4 : ∀ w ∈ tables_1_4, w ∈ lw_tbl := fun _ h => List.mem_append_right _ (List.mem_append_right _ (List.mem_append_right _ (List.mem_append_right _ (List.mem_append_left _ h))))
theorem tb5 : ∀ w ∈ tables_1_5, w ∈ lw_tbl := fun _ h => List.mem_append_right _ (List.mem_append_right _ (List.mem_append_right _ (List.mem_append_right _ (List.mem_append_right _ (h)))))
theorem tp1 : ∀ q ∈ lw_privs_1, Cond.selects q.1.cls q.1 q.1 ∈ lw_tbl := fun q hq => List.mem_append_left _ (List.mem_map.mpr ⟨q, List.mem_append_left _ hq, rfl⟩)
theorem tp2 : ∀ q ∈ lw_privs_2, Cond.selects q.1.cls q.1 q.1 ∈ lw_tbl := fun q hq => List.mem_append_left _ (List.mem_map.mpr ⟨q, List.mem_append_right _ (List.mem_append_left _ hq), rfl⟩)
theorem tp3 : ∀ q ∈ lw_privs_3, Cond.selects q.1.cls q.1 q.1 ∈ lw_tbl := fun q hq => List.mem_append_left _ (List.mem_map.mpr ⟨q, List.mem_append_right _ (List.mem_append_right _ (List.mem_append_left _ hq)), rfl⟩)
theorem tp4 : ∀ q ∈ lw_privs_4, Cond.selects q.1.cls q.1 q.1 ∈ lw_tbl := fun q hq => List.mem_append_left _ (List.mem_map.mpr ⟨q, List.mem_append_right _ (List.mem_append_right _ (List.mem_append_right _ (hq))), rfl⟩)
def AC0 : List Cond := [.methodLink RX0 3 objectInit, .instanceMethod objectInit, .code objectInit ⟨#[0xb1]⟩ 1 none, .arrayClass .int, .fieldLink RX0 9 "SquopPiles$GameText" "codes" "[I", .fieldLink RX0 15 "SquopPiles$GameText" "length" "I", .methodLink RX0 27 yX0_between, .static yX0_between, .initialized RX0, .code yX0_between cX0_between 3 (some .boolean), .methodLink RX0 19 yX0_codeAt, .instanceMethod yX0_codeAt, .selects RX0 yX0_codeAt yX0_codeAt, .code yX0_codeAt cX0_codeAt 2 (some .int), .methodLink RX0 23 yX0_stateBehind, .static yX0_stateBehind, .code yX0_stateBehind cX0_stateBehind 2 (some .int), .methodLink RX5 97 yX5_cellAt, .static yX5_cellAt, .initialized RX5, .code yX5_cellAt cX5_cellAt 2 (some .int), .methodLink RX1 3 objectInit, .fieldLink RX1 9 "SquopPiles$Mat" "cell" "[I", .fieldLink RX1 15 "SquopPiles$Mat" "below" "[I"]
theorem AC0_in : ∀ w ∈ AC0, w ∈ lw_tbl := List.forall_mem_cons.mpr ⟨tb1 _ (List.mem_of_getElem? (i := 116) rfl), List.forall_mem_cons.mpr ⟨tb1 _ (List.mem_of_getElem? (i := 26) rfl), List.forall_mem_cons.mpr ⟨tb1 _ (List.mem_of_getElem? (i := 27) rfl), List.forall_mem_cons.mpr ⟨tb1 _ (List.mem_of_getElem? (i := 61) rfl), List.forall_mem_cons.mpr ⟨tb1 _ (List.mem_of_getElem? (i := 117) rfl), List.forall_mem_cons.mpr ⟨tb1 _ (List.mem_of_getElem? (i := 118) rfl), List.forall_mem_cons.mpr ⟨tb1 _ (List.mem_of_getElem? (i := 184) rfl), List.forall_mem_cons.mpr ⟨tb1 _ (List.mem_of_getElem? (i := 185) rfl), List.forall_mem_cons.mpr ⟨tb1 _ (List.mem_of_getElem? (i := 5) rfl), List.forall_mem_cons.mpr ⟨tb1 _ (List.mem_of_getElem? (i := 186) rfl), List.forall_mem_cons.mpr ⟨tb1 _ (List.mem_of_getElem? (i := 177) rfl), List.forall_mem_cons.mpr ⟨tb1 _ (List.mem_of_getElem? (i := 178) rfl), List.forall_mem_cons.mpr ⟨tb1 _ (List.mem_of_getElem? (i := 179) rfl), List.forall_mem_cons.mpr ⟨tb1 _ (List.mem_of_getElem? (i := 180) rfl), List.forall_mem_cons.mpr ⟨tb1 _ (List.mem_of_getElem? (i := 181) rfl), List.forall_mem_cons.mpr ⟨tb1 _ (List.mem_of_getElem? (i := 182) rfl), List.forall_mem_cons.mpr ⟨tb1 _ (List.mem_of_getElem? (i := 183) rfl), List.forall_mem_cons.mpr ⟨tb1 _ (List.mem_of_getElem? (i := 46) rfl), List.forall_mem_cons.mpr ⟨tb1 _ (List.mem_of_getElem? (i := 47) rfl), List.forall_mem_cons.mpr ⟨tb1 _ (List.mem_of_getElem? (i := 1) rfl), List.forall_mem_cons.mpr ⟨tb1 _ (List.mem_of_getElem? (i := 48) rfl), List.forall_mem_cons.mpr ⟨tb1 _ (List.mem_of_getElem? (i := 39) rfl), List.forall_mem_cons.mpr ⟨tb1 _ (List.mem_of_getElem? (i := 49) rfl), List.forall_mem_cons.mpr ⟨tb1 _ (List.mem_of_getElem? (i := 52) rfl), fun _ h => absurd h List.not_mem_nil⟩⟩⟩⟩⟩⟩⟩⟩⟩⟩⟩⟩⟩⟩⟩⟩⟩⟩⟩⟩⟩⟩⟩⟩
def AC1 : List Cond := [.fieldLink RX1 18 "SquopPiles$Mat" "above" "[I", .static yX5_colourOf, .code yX5_colourOf cX5_colourOf 1 (some .int), .static yX5_baseOf, .code yX5_baseOf cX5_baseOf 1 (some .int), .methodLink RX1 28 arraycopyName, .native arraycopyName, .static arraycopyName, .initialized "java/lang/System", .static yX5_isWink, .code yX5_isWink cX5_isWink 1 (some .boolean), .methodLink RX1 38 yX1_setCells, .instanceMethod yX1_setCells, .selects RX1 yX1_setCells yX1_setCells, .initialized RX1, .code yX1_setCells cX1_setCells 5 none, .methodLink RX1 42 yX1_separate, .instanceMethod yX1_separate, .selects RX1 yX1_separate yX1_separate, .code yX1_separate cX1_separate 5 none, .methodLink RX1 46 yX1_topAt, .instanceMethod yX1_topAt, .selects RX1 yX1_topAt yX1_topAt, .code yX1_topAt cX1_topAt 3 (some .int)]
theorem AC1_in : ∀ w ∈ AC1, w ∈ lw_tbl := List.forall_mem_cons.mpr ⟨tb1 _ (List.mem_of_getElem? (i := 53) rfl), List.forall_mem_cons.mpr ⟨tb1 _ (List.mem_of_getElem? (i := 41) rfl), List.forall_mem_cons.mpr ⟨tb1 _ (List.mem_of_getElem? (i := 42) rfl), List.forall_mem_cons.mpr ⟨tb1 _ (List.mem_of_getElem? (i := 44) rfl), List.forall_mem_cons.mpr ⟨tb1 _ (List.mem_of_getElem? (i := 45) rfl), List.forall_mem_cons.mpr ⟨tb1 _ (List.mem_of_getElem? (i := 199) rfl), List.forall_mem_cons.mpr ⟨tb1 _ (List.mem_of_getElem? (i := 201) rfl), List.forall_mem_cons.mpr ⟨tb1 _ (List.mem_of_getElem? (i := 200) rfl), List.forall_mem_cons.mpr ⟨tb1 _ (List.mem_of_getElem? (i := 14) rfl), List.forall_mem_cons.mpr ⟨tb2 _ (List.mem_of_getElem? (i := 32) rfl), List.forall_mem_cons.mpr ⟨tb2 _ (List.mem_of_getElem? (i := 33) rfl), List.forall_mem_cons.mpr ⟨tb2 _ (List.mem_of_getElem? (i := 34) rfl), List.forall_mem_cons.mpr ⟨tb2 _ (List.mem_of_getElem? (i := 36) rfl), List.forall_mem_cons.mpr ⟨tp1 _ (List.mem_of_getElem? (i := 1) rfl), List.forall_mem_cons.mpr ⟨tb1 _ (List.mem_of_getElem? (i := 3) rfl), List.forall_mem_cons.mpr ⟨tb2 _ (List.mem_of_getElem? (i := 37) rfl), List.forall_mem_cons.mpr ⟨tb2 _ (List.mem_of_getElem? (i := 38) rfl), List.forall_mem_cons.mpr ⟨tb2 _ (List.mem_of_getElem? (i := 40) rfl), List.forall_mem_cons.mpr ⟨tp1 _ (List.mem_of_getElem? (i := 2) rfl), List.forall_mem_cons.mpr ⟨tb2 _ (List.mem_of_getElem? (i := 41) rfl), List.forall_mem_cons.mpr ⟨tb2 _ (List.mem_of_getElem? (i := 42) rfl), List.forall_mem_cons.mpr ⟨tb2 _ (List.mem_of_getElem? (i := 43) rfl), List.forall_mem_cons.mpr ⟨tb2 _ (List.mem_of_getElem? (i := 44) rfl), List.forall_mem_cons.mpr ⟨tb2 _ (List.mem_of_getElem? (i := 45) rfl), fun _ h => absurd h List.not_mem_nil⟩⟩⟩⟩⟩⟩⟩⟩⟩⟩⟩⟩⟩⟩⟩⟩⟩⟩⟩⟩⟩⟩⟩⟩
def AC2 : List Cond := [.methodLink RX1 49 yX1_isPotted, .instanceMethod yX1_isPotted, .selects RX1 yX1_isPotted yX1_isPotted, .code yX1_isPotted cX1_isPotted 2 (some .boolean), .methodLink RX1 52 yX1_isBottom, .instanceMethod yX1_isBottom, .selects RX1 yX1_isBottom yX1_isBottom, .code yX1_isBottom cX1_isBottom 2 (some .boolean), .methodLink RX1 58 Lib.Math.max.name, .static Lib.Math.max.name, .initialized "java/lang/Math", .code Lib.Math.max.name Lib.Math.max.code 2 (some .int), .methodLink RX1 55 yX1_heightAt, .instanceMethod yX1_heightAt, .selects RX1 yX1_heightAt yX1_heightAt, .code yX1_heightAt cX1_heightAt 4 (some .int), .methodLink RX1 70 yX1_isCovered, .instanceMethod yX1_isCovered, .selects RX1 yX1_isCovered yX1_isCovered, .code yX1_isCovered cX1_isCovered 2 (some .boolean), .methodLink RX1 67 yX1_coveredOf, .instanceMethod yX1_coveredOf, .selects RX1 yX1_coveredOf yX1_coveredOf, .code yX1_coveredOf cX1_coveredOf 4 (some .int)]
theorem AC2_in : ∀ w ∈ AC2, w ∈ lw_tbl := List.forall_mem_cons.mpr ⟨tb2 _ (List.mem_of_getElem? (i := 58) rfl), List.forall_mem_cons.mpr ⟨tb1 _ (List.mem_of_getElem? (i := 229) rfl), List.forall_mem_cons.mpr ⟨tb1 _ (List.mem_of_getElem? (i := 230) rfl), List.forall_mem_cons.mpr ⟨tb1 _ (List.mem_of_getElem? (i := 231) rfl), List.forall_mem_cons.mpr ⟨tb2 _ (List.mem_of_getElem? (i := 81) rfl), List.forall_mem_cons.mpr ⟨tb2 _ (List.mem_of_getElem? (i := 83) rfl), List.forall_mem_cons.mpr ⟨tp1 _ (List.mem_of_getElem? (i := 3) rfl), List.forall_mem_cons.mpr ⟨tb2 _ (List.mem_of_getElem? (i := 84) rfl), List.forall_mem_cons.mpr ⟨tb2 _ (List.mem_of_getElem? (i := 112) rfl), List.forall_mem_cons.mpr ⟨tb2 _ (List.mem_of_getElem? (i := 113) rfl), List.forall_mem_cons.mpr ⟨tb1 _ (List.mem_of_getElem? (i := 15) rfl), List.forall_mem_cons.mpr ⟨tb2 _ (List.mem_of_getElem? (i := 114) rfl), List.forall_mem_cons.mpr ⟨tb2 _ (List.mem_of_getElem? (i := 99) rfl), List.forall_mem_cons.mpr ⟨tb2 _ (List.mem_of_getElem? (i := 100) rfl), List.forall_mem_cons.mpr ⟨tb2 _ (List.mem_of_getElem? (i := 101) rfl), List.forall_mem_cons.mpr ⟨tb2 _ (List.mem_of_getElem? (i := 102) rfl), List.forall_mem_cons.mpr ⟨tb2 _ (List.mem_of_getElem? (i := 59) rfl), List.forall_mem_cons.mpr ⟨tb1 _ (List.mem_of_getElem? (i := 233) rfl), List.forall_mem_cons.mpr ⟨tb1 _ (List.mem_of_getElem? (i := 234) rfl), List.forall_mem_cons.mpr ⟨tb1 _ (List.mem_of_getElem? (i := 235) rfl), List.forall_mem_cons.mpr ⟨tb2 _ (List.mem_of_getElem? (i := 64) rfl), List.forall_mem_cons.mpr ⟨tb2 _ (List.mem_of_getElem? (i := 65) rfl), List.forall_mem_cons.mpr ⟨tb2 _ (List.mem_of_getElem? (i := 66) rfl), List.forall_mem_cons.mpr ⟨tb2 _ (List.mem_of_getElem? (i := 67) rfl), fun _ h => absurd h List.not_mem_nil⟩⟩⟩⟩⟩⟩⟩⟩⟩⟩⟩⟩⟩⟩⟩⟩⟩⟩⟩⟩⟩⟩⟩⟩
def AC3 : List Cond := [.methodLink RX1 64 yX1_coveredOfTeam, .instanceMethod yX1_coveredOfTeam, .selects RX1 yX1_coveredOfTeam yX1_coveredOfTeam, .code yX1_coveredOfTeam cX1_coveredOfTeam 2 (some .int), .methodLink RX1 73 yX1_pottedOf, .instanceMethod yX1_pottedOf, .selects RX1 yX1_pottedOf yX1_pottedOf, .code yX1_pottedOf cX1_pottedOf 4 (some .int), .methodLink RX1 76 yX1_isAllPotted, .instanceMethod yX1_isAllPotted, .selects RX1 yX1_isAllPotted yX1_isAllPotted, .code yX1_isAllPotted cX1_isAllPotted 2 (some .boolean), .methodLink RX1 79 yX1_pointsOf, .instanceMethod yX1_pointsOf, .selects RX1 yX1_pointsOf yX1_pointsOf, .code yX1_pointsOf cX1_pointsOf 6 (some .int), .methodLink RX1 82 yX1_pointsOfTeam, .instanceMethod yX1_pointsOfTeam, .selects RX1 yX1_pointsOfTeam yX1_pointsOfTeam, .code yX1_pointsOfTeam cX1_pointsOfTeam 2 (some .int), .methodLink RX1 85 yX1_liesBelow, .instanceMethod yX1_liesBelow, .selects RX1 yX1_liesBelow yX1_liesBelow, .code yX1_liesBelow cX1_liesBelow 5 (some .boolean)]
theorem AC3_in : ∀ w ∈ AC3, w ∈ lw_tbl := List.forall_mem_cons.mpr ⟨tb2 _ (List.mem_of_getElem? (i := 107) rfl), List.forall_mem_cons.mpr ⟨tb2 _ (List.mem_of_getElem? (i := 61) rfl), List.forall_mem_cons.mpr ⟨tb2 _ (List.mem_of_getElem? (i := 62) rfl), List.forall_mem_cons.mpr ⟨tb2 _ (List.mem_of_getElem? (i := 63) rfl), List.forall_mem_cons.mpr ⟨tb1 _ (List.mem_of_getElem? (i := 207) rfl), List.forall_mem_cons.mpr ⟨tb1 _ (List.mem_of_getElem? (i := 208) rfl), List.forall_mem_cons.mpr ⟨tb1 _ (List.mem_of_getElem? (i := 209) rfl), List.forall_mem_cons.mpr ⟨tb1 _ (List.mem_of_getElem? (i := 210) rfl), List.forall_mem_cons.mpr ⟨tb1 _ (List.mem_of_getElem? (i := 223) rfl), List.forall_mem_cons.mpr ⟨tb1 _ (List.mem_of_getElem? (i := 224) rfl), List.forall_mem_cons.mpr ⟨tb1 _ (List.mem_of_getElem? (i := 225) rfl), List.forall_mem_cons.mpr ⟨tb1 _ (List.mem_of_getElem? (i := 226) rfl), List.forall_mem_cons.mpr ⟨tb2 _ (List.mem_of_getElem? (i := 54) rfl), List.forall_mem_cons.mpr ⟨tb2 _ (List.mem_of_getElem? (i := 55) rfl), List.forall_mem_cons.mpr ⟨tb2 _ (List.mem_of_getElem? (i := 56) rfl), List.forall_mem_cons.mpr ⟨tb2 _ (List.mem_of_getElem? (i := 57) rfl), List.forall_mem_cons.mpr ⟨tb2 _ (List.mem_of_getElem? (i := 50) rfl), List.forall_mem_cons.mpr ⟨tb2 _ (List.mem_of_getElem? (i := 51) rfl), List.forall_mem_cons.mpr ⟨tb2 _ (List.mem_of_getElem? (i := 52) rfl), List.forall_mem_cons.mpr ⟨tb2 _ (List.mem_of_getElem? (i := 53) rfl), List.forall_mem_cons.mpr ⟨tb3 _ (List.mem_of_getElem? (i := 41) rfl), List.forall_mem_cons.mpr ⟨tb3 _ (List.mem_of_getElem? (i := 43) rfl), List.forall_mem_cons.mpr ⟨tp1 _ (List.mem_of_getElem? (i := 8) rfl), List.forall_mem_cons.mpr ⟨tb3 _ (List.mem_of_getElem? (i := 44) rfl), fun _ h => absurd h List.not_mem_nil⟩⟩⟩⟩⟩⟩⟩⟩⟩⟩⟩⟩⟩⟩⟩⟩⟩⟩⟩⟩⟩⟩⟩⟩
def AC4 : List Cond := [.methodLink RX4 3 objectInit, .classLink RX4 9 RX1, .instantiable RX1 3, .fieldLink RX4 12 "SquopPiles$State" "mat" "LSquopPiles$Mat;", .fieldLink RX4 18 "SquopPiles$State" "flights" "[I", .fieldLink RX4 22 "SquopPiles$State" "fouls" "[I", .fieldLink RX4 25 "SquopPiles$State" "lost" "[I", .fieldLink RX4 28 "SquopPiles$State" "turn" "I", .fieldLink RX4 32 "SquopPiles$State" "lifts" "I", .fieldLink RX4 35 "SquopPiles$State" "setting" "I", .methodLink RX4 11 yX1_init, .instanceMethod yX1_init, .code yX1_init cX1_init 3 none, .methodLink RX2 3 objectInit, .classLink RX2 9 RX4, .fieldLink RX2 11 "SquopPiles$Past" "saved" "[LSquopPiles$State;", .fieldLink RX2 17 "SquopPiles$Past" "next" "I", .fieldLink RX2 21 "SquopPiles$Past" "many" "I", .instantiable RX4 7, .initialized RX4, .instanceMethod yX4_init, .code yX4_init cX4_init 1 none, .methodLink RX4 42 arraycopyName, .methodLink RX4 38 yX1_copyFrom]
theorem AC4_in : ∀ w ∈ AC4, w ∈ lw_tbl := List.forall_mem_cons.mpr ⟨tb1 _ (List.mem_of_getElem? (i := 33) rfl), List.forall_mem_cons.mpr ⟨tb1 _ (List.mem_of_getElem? (i := 34) rfl), List.forall_mem_cons.mpr ⟨tb1 _ (List.mem_of_getElem? (i := 35) rfl), List.forall_mem_cons.mpr ⟨tb1 _ (List.mem_of_getElem? (i := 62) rfl), List.forall_mem_cons.mpr ⟨tb1 _ (List.mem_of_getElem? (i := 64) rfl), List.forall_mem_cons.mpr ⟨tb1 _ (List.mem_of_getElem? (i := 66) rfl), List.forall_mem_cons.mpr ⟨tb1 _ (List.mem_of_getElem? (i := 68) rfl), List.forall_mem_cons.mpr ⟨tb1 _ (List.mem_of_getElem? (i := 70) rfl), List.forall_mem_cons.mpr ⟨tb1 _ (List.mem_of_getElem? (i := 72) rfl), List.forall_mem_cons.mpr ⟨tb1 _ (List.mem_of_getElem? (i := 74) rfl), List.forall_mem_cons.mpr ⟨tb1 _ (List.mem_of_getElem? (i := 36) rfl), List.forall_mem_cons.mpr ⟨tb1 _ (List.mem_of_getElem? (i := 37) rfl), List.forall_mem_cons.mpr ⟨tb1 _ (List.mem_of_getElem? (i := 38) rfl), List.forall_mem_cons.mpr ⟨tb1 _ (List.mem_of_getElem? (i := 96) rfl), List.forall_mem_cons.mpr ⟨tb1 _ (List.mem_of_getElem? (i := 97) rfl), List.forall_mem_cons.mpr ⟨tb1 _ (List.mem_of_getElem? (i := 100) rfl), List.forall_mem_cons.mpr ⟨tb1 _ (List.mem_of_getElem? (i := 101) rfl), List.forall_mem_cons.mpr ⟨tb1 _ (List.mem_of_getElem? (i := 102) rfl), List.forall_mem_cons.mpr ⟨tb1 _ (List.mem_of_getElem? (i := 29) rfl), List.forall_mem_cons.mpr ⟨tb1 _ (List.mem_of_getElem? (i := 2) rfl), List.forall_mem_cons.mpr ⟨tb1 _ (List.mem_of_getElem? (i := 31) rfl), List.forall_mem_cons.mpr ⟨tb1 _ (List.mem_of_getElem? (i := 32) rfl), List.forall_mem_cons.mpr ⟨tb1 _ (List.mem_of_getElem? (i := 202) rfl), List.forall_mem_cons.mpr ⟨tb1 _ (List.mem_of_getElem? (i := 195) rfl), fun _ h => absurd h List.not_mem_nil⟩⟩⟩⟩⟩⟩⟩⟩⟩⟩⟩⟩⟩⟩⟩⟩⟩⟩⟩⟩⟩⟩⟩⟩
def AC5 : List Cond := [.instanceMethod yX1_copyFrom, .selects RX1 yX1_copyFrom yX1_copyFrom, .code yX1_copyFrom cX1_copyFrom 2 none, .methodLink RX2 29 Lib.Math.min.name, .static Lib.Math.min.name, .code Lib.Math.min.name Lib.Math.min.code 2 (some .int), .methodLink RX2 25 yX4_copyFrom, .instanceMethod yX4_copyFrom, .selects RX4 yX4_copyFrom yX4_copyFrom, .code yX4_copyFrom cX4_copyFrom 2 none, .methodLink RX3 3 objectInit, .fieldLink RX3 9 "SquopPiles$Routes" "known" "[I", .fieldLink RX3 15 "SquopPiles$Routes" "distance" "[I", .fieldLink RX3 18 "SquopPiles$Routes" "queue" "[I", .methodLink RX5 372 yX5_eastOf, .static yX5_eastOf, .code yX5_eastOf cX5_eastOf 1 (some .int), .methodLink RX5 375 yX5_southOf, .static yX5_southOf, .code yX5_southOf cX5_southOf 1 (some .int), .methodLink RX5 357 yX5_isOnMat, .static yX5_isOnMat, .code yX5_isOnMat cX5_isOnMat 2 (some .boolean), .methodLink RX3 25 yJ7_fill_53178]
theorem AC5_in : ∀ w ∈ AC5, w ∈ lw_tbl := List.forall_mem_cons.mpr ⟨tb1 _ (List.mem_of_getElem? (i := 196) rfl), List.forall_mem_cons.mpr ⟨tb1 _ (List.mem_of_getElem? (i := 197) rfl), List.forall_mem_cons.mpr ⟨tb1 _ (List.mem_of_getElem? (i := 198) rfl), List.forall_mem_cons.mpr ⟨tb3 _ (List.mem_of_getElem? (i := 111) rfl), List.forall_mem_cons.mpr ⟨tb3 _ (List.mem_of_getElem? (i := 112) rfl), List.forall_mem_cons.mpr ⟨tb3 _ (List.mem_of_getElem? (i := 113) rfl), List.forall_mem_cons.mpr ⟨tb3 _ (List.mem_of_getElem? (i := 110) rfl), List.forall_mem_cons.mpr ⟨tb1 _ (List.mem_of_getElem? (i := 192) rfl), List.forall_mem_cons.mpr ⟨tb1 _ (List.mem_of_getElem? (i := 193) rfl), List.forall_mem_cons.mpr ⟨tb1 _ (List.mem_of_getElem? (i := 194) rfl), List.forall_mem_cons.mpr ⟨tb1 _ (List.mem_of_getElem? (i := 132) rfl), List.forall_mem_cons.mpr ⟨tb1 _ (List.mem_of_getElem? (i := 133) rfl), List.forall_mem_cons.mpr ⟨tb1 _ (List.mem_of_getElem? (i := 134) rfl), List.forall_mem_cons.mpr ⟨tb1 _ (List.mem_of_getElem? (i := 135) rfl), List.forall_mem_cons.mpr ⟨tb2 _ (List.mem_of_getElem? (i := 14) rfl), List.forall_mem_cons.mpr ⟨tb2 _ (List.mem_of_getElem? (i := 15) rfl), List.forall_mem_cons.mpr ⟨tb2 _ (List.mem_of_getElem? (i := 16) rfl), List.forall_mem_cons.mpr ⟨tb2 _ (List.mem_of_getElem? (i := 17) rfl), List.forall_mem_cons.mpr ⟨tb2 _ (List.mem_of_getElem? (i := 18) rfl), List.forall_mem_cons.mpr ⟨tb2 _ (List.mem_of_getElem? (i := 19) rfl), List.forall_mem_cons.mpr ⟨tb2 _ (List.mem_of_getElem? (i := 20) rfl), List.forall_mem_cons.mpr ⟨tb2 _ (List.mem_of_getElem? (i := 21) rfl), List.forall_mem_cons.mpr ⟨tb2 _ (List.mem_of_getElem? (i := 22) rfl), List.forall_mem_cons.mpr ⟨tb3 _ (List.mem_of_getElem? (i := 18) rfl), fun _ h => absurd h List.not_mem_nil⟩⟩⟩⟩⟩⟩⟩⟩⟩⟩⟩⟩⟩⟩⟩⟩⟩⟩⟩⟩⟩⟩⟩⟩
def AC6 : List Cond := [.static yJ7_fill_53178, .initialized RJ7, .code yJ7_fill_53178 cJ7_fill_53178 4 none, .static yX5_landing, .code yX5_landing cX5_landing 9 (some .int), .methodLink RX3 21 yX3_search, .instanceMethod yX3_search, .selects RX3 yX3_search yX3_search, .initialized RX3, .code yX3_search cX3_search 8 (some .int), .methodLink RX4 48 yX1_isOver, .instanceMethod yX1_isOver, .selects RX1 yX1_isOver yX1_isOver, .code yX1_isOver cX1_isOver 2 (some .boolean), .methodLink RX4 56 yX1_isPotted, .methodLink RX4 60 yX1_isCovered, .methodLink RX4 67 yX1_lowestOfUpper, .instanceMethod yX1_lowestOfUpper, .selects RX1 yX1_lowestOfUpper yX1_lowestOfUpper, .code yX1_lowestOfUpper cX1_lowestOfUpper 5 (some .int), .methodLink RX4 70 yX1_topAt, .static yX5_cellBeside, .code yX5_cellBeside cX5_cellBeside 5 (some .int), .methodLink RX5 167 yX5_isLarge]
theorem AC6_in : ∀ w ∈ AC6, w ∈ lw_tbl := List.forall_mem_cons.mpr ⟨tb3 _ (List.mem_of_getElem? (i := 19) rfl), List.forall_mem_cons.mpr ⟨tb1 _ (List.mem_of_getElem? (i := 16) rfl), List.forall_mem_cons.mpr ⟨tb3 _ (List.mem_of_getElem? (i := 20) rfl), List.forall_mem_cons.mpr ⟨tb2 _ (List.mem_of_getElem? (i := 12) rfl), List.forall_mem_cons.mpr ⟨tb2 _ (List.mem_of_getElem? (i := 13) rfl), List.forall_mem_cons.mpr ⟨tb3 _ (List.mem_of_getElem? (i := 14) rfl), List.forall_mem_cons.mpr ⟨tb3 _ (List.mem_of_getElem? (i := 16) rfl), List.forall_mem_cons.mpr ⟨tp1 _ (List.mem_of_getElem? (i := 6) rfl), List.forall_mem_cons.mpr ⟨tb1 _ (List.mem_of_getElem? (i := 6) rfl), List.forall_mem_cons.mpr ⟨tb3 _ (List.mem_of_getElem? (i := 17) rfl), List.forall_mem_cons.mpr ⟨tb1 _ (List.mem_of_getElem? (i := 219) rfl), List.forall_mem_cons.mpr ⟨tb1 _ (List.mem_of_getElem? (i := 220) rfl), List.forall_mem_cons.mpr ⟨tb1 _ (List.mem_of_getElem? (i := 221) rfl), List.forall_mem_cons.mpr ⟨tb1 _ (List.mem_of_getElem? (i := 222) rfl), List.forall_mem_cons.mpr ⟨tb1 _ (List.mem_of_getElem? (i := 228) rfl), List.forall_mem_cons.mpr ⟨tb1 _ (List.mem_of_getElem? (i := 232) rfl), List.forall_mem_cons.mpr ⟨tb3 _ (List.mem_of_getElem? (i := 144) rfl), List.forall_mem_cons.mpr ⟨tb3 _ (List.mem_of_getElem? (i := 145) rfl), List.forall_mem_cons.mpr ⟨tb3 _ (List.mem_of_getElem? (i := 146) rfl), List.forall_mem_cons.mpr ⟨tb3 _ (List.mem_of_getElem? (i := 147) rfl), List.forall_mem_cons.mpr ⟨tb3 _ (List.mem_of_getElem? (i := 148) rfl), List.forall_mem_cons.mpr ⟨tb3 _ (List.mem_of_getElem? (i := 150) rfl), List.forall_mem_cons.mpr ⟨tb3 _ (List.mem_of_getElem? (i := 151) rfl), List.forall_mem_cons.mpr ⟨tb2 _ (List.mem_of_getElem? (i := 8) rfl), fun _ h => absurd h List.not_mem_nil⟩⟩⟩⟩⟩⟩⟩⟩⟩⟩⟩⟩⟩⟩⟩⟩⟩⟩⟩⟩⟩⟩⟩⟩
def AC7 : List Cond := [.static yX5_isLarge, .code yX5_isLarge cX5_isLarge 1 (some .boolean), .methodLink RX5 164 yX5_colourOf, .methodLink RX5 378 yX5_baseOf, .methodLink RX4 93 yX1_isAllPotted, .static yX5_stepsOf, .code yX5_stepsOf cX5_stepsOf 2 (some .int), .static yX5_restingCell, .code yX5_restingCell cX5_restingCell 2 (some .int), .methodLink RX4 89 yX1_move, .instanceMethod yX1_move, .selects RX1 yX1_move yX1_move, .code yX1_move cX1_move 5 none, .methodLink RX4 96 yX4_passTurn, .instanceMethod yX4_passTurn, .selects RX4 yX4_passTurn yX4_passTurn, .code yX4_passTurn cX4_passTurn 3 none, .static yX5_flightAnswer, .code yX5_flightAnswer cX5_flightAnswer 1 (some .int), .methodLink RX5 1 objectInit, .classLink RX5 7 RX4, .fieldLink RX5 10 "SquopPiles" "now" "LSquopPiles$State;", .fieldLink RX5 16 "SquopPiles" "snapshot" "LSquopPiles$State;", .classLink RX5 19 RX2]
theorem AC7_in : ∀ w ∈ AC7, w ∈ lw_tbl := List.forall_mem_cons.mpr ⟨tb2 _ (List.mem_of_getElem? (i := 9) rfl), List.forall_mem_cons.mpr ⟨tb2 _ (List.mem_of_getElem? (i := 10) rfl), List.forall_mem_cons.mpr ⟨tb1 _ (List.mem_of_getElem? (i := 239) rfl), List.forall_mem_cons.mpr ⟨tb2 _ (List.mem_of_getElem? (i := 26) rfl), List.forall_mem_cons.mpr ⟨tb3 _ (List.mem_of_getElem? (i := 122) rfl), List.forall_mem_cons.mpr ⟨tb2 _ (List.mem_of_getElem? (i := 6) rfl), List.forall_mem_cons.mpr ⟨tb2 _ (List.mem_of_getElem? (i := 7) rfl), List.forall_mem_cons.mpr ⟨tb2 _ (List.mem_of_getElem? (i := 24) rfl), List.forall_mem_cons.mpr ⟨tb2 _ (List.mem_of_getElem? (i := 25) rfl), List.forall_mem_cons.mpr ⟨tb3 _ (List.mem_of_getElem? (i := 121) rfl), List.forall_mem_cons.mpr ⟨tb2 _ (List.mem_of_getElem? (i := 28) rfl), List.forall_mem_cons.mpr ⟨tb2 _ (List.mem_of_getElem? (i := 29) rfl), List.forall_mem_cons.mpr ⟨tb2 _ (List.mem_of_getElem? (i := 30) rfl), List.forall_mem_cons.mpr ⟨tb3 _ (List.mem_of_getElem? (i := 123) rfl), List.forall_mem_cons.mpr ⟨tb3 _ (List.mem_of_getElem? (i := 125) rfl), List.forall_mem_cons.mpr ⟨tp1 _ (List.mem_of_getElem? (i := 11) rfl), List.forall_mem_cons.mpr ⟨tb3 _ (List.mem_of_getElem? (i := 126) rfl), List.forall_mem_cons.mpr ⟨tb3 _ (List.mem_of_getElem? (i := 4) rfl), List.forall_mem_cons.mpr ⟨tb3 _ (List.mem_of_getElem? (i := 5) rfl), List.forall_mem_cons.mpr ⟨tb1 _ (List.mem_of_getElem? (i := 25) rfl), List.forall_mem_cons.mpr ⟨tb1 _ (List.mem_of_getElem? (i := 28) rfl), List.forall_mem_cons.mpr ⟨tb1 _ (List.mem_of_getElem? (i := 143) rfl), List.forall_mem_cons.mpr ⟨tb1 _ (List.mem_of_getElem? (i := 144) rfl), List.forall_mem_cons.mpr ⟨tb1 _ (List.mem_of_getElem? (i := 91) rfl), fun _ h => absurd h List.not_mem_nil⟩⟩⟩⟩⟩⟩⟩⟩⟩⟩⟩⟩⟩⟩⟩⟩⟩⟩⟩⟩⟩⟩⟩⟩
def AC8 : List Cond := [.instantiable RX2 3, .initialized RX2, .fieldLink RX5 22 "SquopPiles" "past" "LSquopPiles$Past;", .classLink RX5 26 RX0, .instantiable RX0 2, .fieldLink RX5 29 "SquopPiles" "text" "LSquopPiles$GameText;", .classLink RX5 33 RX1, .fieldLink RX5 36 "SquopPiles" "trial" "LSquopPiles$Mat;", .classLink RX5 40 RX3, .instantiable RX3 3, .fieldLink RX5 43 "SquopPiles" "routes" "LSquopPiles$Routes;", .fieldLink RX5 47 "SquopPiles" "hasSnapshot" "Z", .methodLink RX5 21 yX2_init, .instanceMethod yX2_init, .code yX2_init cX2_init 2 none, .instanceMethod yX0_init, .code yX0_init cX0_init 1 none, .methodLink RX5 35 yX1_init, .instanceMethod yX3_init, .code yX3_init cX3_init 1 none, .classLink RX5 196 "java/lang/IndexOutOfBoundsException", .initialized "java/lang/IndexOutOfBoundsException", .methodLink RX5 352 yX5_isWink, .classLink RX5 104 "java/lang/IllegalArgumentException"]
theorem AC8_in : ∀ w ∈ AC8, w ∈ lw_tbl := List.forall_mem_cons.mpr ⟨tb1 _ (List.mem_of_getElem? (i := 92) rfl), List.forall_mem_cons.mpr ⟨tb1 _ (List.mem_of_getElem? (i := 4) rfl), List.forall_mem_cons.mpr ⟨tb1 _ (List.mem_of_getElem? (i := 145) rfl), List.forall_mem_cons.mpr ⟨tb1 _ (List.mem_of_getElem? (i := 111) rfl), List.forall_mem_cons.mpr ⟨tb1 _ (List.mem_of_getElem? (i := 112) rfl), List.forall_mem_cons.mpr ⟨tb1 _ (List.mem_of_getElem? (i := 146) rfl), List.forall_mem_cons.mpr ⟨tb1 _ (List.mem_of_getElem? (i := 125) rfl), List.forall_mem_cons.mpr ⟨tb1 _ (List.mem_of_getElem? (i := 147) rfl), List.forall_mem_cons.mpr ⟨tb1 _ (List.mem_of_getElem? (i := 127) rfl), List.forall_mem_cons.mpr ⟨tb1 _ (List.mem_of_getElem? (i := 128) rfl), List.forall_mem_cons.mpr ⟨tb1 _ (List.mem_of_getElem? (i := 148) rfl), List.forall_mem_cons.mpr ⟨tb1 _ (List.mem_of_getElem? (i := 149) rfl), List.forall_mem_cons.mpr ⟨tb1 _ (List.mem_of_getElem? (i := 93) rfl), List.forall_mem_cons.mpr ⟨tb1 _ (List.mem_of_getElem? (i := 94) rfl), List.forall_mem_cons.mpr ⟨tb1 _ (List.mem_of_getElem? (i := 95) rfl), List.forall_mem_cons.mpr ⟨tb1 _ (List.mem_of_getElem? (i := 114) rfl), List.forall_mem_cons.mpr ⟨tb1 _ (List.mem_of_getElem? (i := 115) rfl), List.forall_mem_cons.mpr ⟨tb1 _ (List.mem_of_getElem? (i := 126) rfl), List.forall_mem_cons.mpr ⟨tb1 _ (List.mem_of_getElem? (i := 130) rfl), List.forall_mem_cons.mpr ⟨tb1 _ (List.mem_of_getElem? (i := 131) rfl), List.forall_mem_cons.mpr ⟨tb2 _ (List.mem_of_getElem? (i := 208) rfl), List.forall_mem_cons.mpr ⟨tb1 _ (List.mem_of_getElem? (i := 11) rfl), List.forall_mem_cons.mpr ⟨tb2 _ (List.mem_of_getElem? (i := 207) rfl), List.forall_mem_cons.mpr ⟨tb2 _ (List.mem_of_getElem? (i := 124) rfl), fun _ h => absurd h List.not_mem_nil⟩⟩⟩⟩⟩⟩⟩⟩⟩⟩⟩⟩⟩⟩⟩⟩⟩⟩⟩⟩⟩⟩⟩⟩
def AC9 : List Cond := [.initialized "java/lang/IllegalArgumentException", .methodLink RX5 363 yX5_requireDirection, .static yX5_requireDirection, .code yX5_requireDirection cX5_requireDirection 1 none, .classLink RX5 63 "java/lang/IllegalStateException", .initialized "java/lang/IllegalStateException", .methodLink RX5 51 yX5_requireWink, .static yX5_requireWink, .code yX5_requireWink cX5_requireWink 1 none, .methodLink RX5 55 yX5_requireFlight, .static yX5_requireFlight, .code yX5_requireFlight cX5_requireFlight 2 none, .methodLink RX5 59 yX4_whyNotFlown, .instanceMethod yX4_whyNotFlown, .selects RX4 yX4_whyNotFlown yX4_whyNotFlown, .code yX4_whyNotFlown cX4_whyNotFlown 2 (some .int), .methodLink RX5 70 yX2_save, .instanceMethod yX2_save, .selects RX2 yX2_save yX2_save, .code yX2_save cX2_save 2 none, .methodLink RX5 74 yX4_carryOutFlight, .instanceMethod yX4_carryOutFlight, .selects RX4 yX4_carryOutFlight yX4_carryOutFlight, .code yX4_carryOutFlight cX4_carryOutFlight 6 (some .int)]
theorem AC9_in : ∀ w ∈ AC9, w ∈ lw_tbl := List.forall_mem_cons.mpr ⟨tb1 _ (List.mem_of_getElem? (i := 12) rfl), List.forall_mem_cons.mpr ⟨tb2 _ (List.mem_of_getElem? (i := 237) rfl), List.forall_mem_cons.mpr ⟨tb2 _ (List.mem_of_getElem? (i := 238) rfl), List.forall_mem_cons.mpr ⟨tb2 _ (List.mem_of_getElem? (i := 239) rfl), List.forall_mem_cons.mpr ⟨tb3 _ (List.mem_of_getElem? (i := 90) rfl), List.forall_mem_cons.mpr ⟨tb1 _ (List.mem_of_getElem? (i := 13) rfl), List.forall_mem_cons.mpr ⟨tb2 _ (List.mem_of_getElem? (i := 204) rfl), List.forall_mem_cons.mpr ⟨tb2 _ (List.mem_of_getElem? (i := 205) rfl), List.forall_mem_cons.mpr ⟨tb2 _ (List.mem_of_getElem? (i := 206) rfl), List.forall_mem_cons.mpr ⟨tb2 _ (List.mem_of_getElem? (i := 234) rfl), List.forall_mem_cons.mpr ⟨tb2 _ (List.mem_of_getElem? (i := 235) rfl), List.forall_mem_cons.mpr ⟨tb2 _ (List.mem_of_getElem? (i := 236) rfl), List.forall_mem_cons.mpr ⟨tb1 _ (List.mem_of_getElem? (i := 215) rfl), List.forall_mem_cons.mpr ⟨tb1 _ (List.mem_of_getElem? (i := 216) rfl), List.forall_mem_cons.mpr ⟨tb1 _ (List.mem_of_getElem? (i := 217) rfl), List.forall_mem_cons.mpr ⟨tb1 _ (List.mem_of_getElem? (i := 218) rfl), List.forall_mem_cons.mpr ⟨tb3 _ (List.mem_of_getElem? (i := 106) rfl), List.forall_mem_cons.mpr ⟨tb3 _ (List.mem_of_getElem? (i := 107) rfl), List.forall_mem_cons.mpr ⟨tb3 _ (List.mem_of_getElem? (i := 108) rfl), List.forall_mem_cons.mpr ⟨tb3 _ (List.mem_of_getElem? (i := 109) rfl), List.forall_mem_cons.mpr ⟨tb3 _ (List.mem_of_getElem? (i := 114) rfl), List.forall_mem_cons.mpr ⟨tb3 _ (List.mem_of_getElem? (i := 115) rfl), List.forall_mem_cons.mpr ⟨tb3 _ (List.mem_of_getElem? (i := 116) rfl), List.forall_mem_cons.mpr ⟨tb3 _ (List.mem_of_getElem? (i := 117) rfl), fun _ h => absurd h List.not_mem_nil⟩⟩⟩⟩⟩⟩⟩⟩⟩⟩⟩⟩⟩⟩⟩⟩⟩⟩⟩⟩⟩⟩⟩⟩
def AC10 : List Cond := [.methodLink RX5 78 yX5_requireCell, .static yX5_requireCell, .code yX5_requireCell cX5_requireCell 2 none, .methodLink RX5 81 yX5_requireLift, .static yX5_requireLift, .code yX5_requireLift cX5_requireLift 2 none, .methodLink RX5 84 yX4_whyNotLifted, .instanceMethod yX4_whyNotLifted, .selects RX4 yX4_whyNotLifted yX4_whyNotLifted, .code yX4_whyNotLifted cX4_whyNotLifted 6 (some .int), .methodLink RX5 90 yX4_carryOutLift, .instanceMethod yX4_carryOutLift, .selects RX4 yX4_carryOutLift yX4_carryOutLift, .code yX4_carryOutLift cX4_carryOutLift 6 none, .methodLink RX5 101 yX1_heightAt, .methodLink RX5 113 yX1_isOver, .methodLink RX5 117 yX1_isCovered, .methodLink RX5 123 yX1_move, .methodLink RX5 133 yX0_add, .instanceMethod yX0_add, .selects RX0 yX0_add yX0_add, .code yX0_add cX0_add 2 none, .methodLink RX5 136 yX0_errorIndex, .instanceMethod yX0_errorIndex]
theorem AC10_in : ∀ w ∈ AC10, w ∈ lw_tbl := List.forall_mem_cons.mpr ⟨tb3 _ (List.mem_of_getElem? (i := 54) rfl), List.forall_mem_cons.mpr ⟨tb3 _ (List.mem_of_getElem? (i := 55) rfl), List.forall_mem_cons.mpr ⟨tb3 _ (List.mem_of_getElem? (i := 56) rfl), List.forall_mem_cons.mpr ⟨tb3 _ (List.mem_of_getElem? (i := 135) rfl), List.forall_mem_cons.mpr ⟨tb3 _ (List.mem_of_getElem? (i := 136) rfl), List.forall_mem_cons.mpr ⟨tb3 _ (List.mem_of_getElem? (i := 137) rfl), List.forall_mem_cons.mpr ⟨tb3 _ (List.mem_of_getElem? (i := 139) rfl), List.forall_mem_cons.mpr ⟨tb3 _ (List.mem_of_getElem? (i := 140) rfl), List.forall_mem_cons.mpr ⟨tb3 _ (List.mem_of_getElem? (i := 141) rfl), List.forall_mem_cons.mpr ⟨tb3 _ (List.mem_of_getElem? (i := 142) rfl), List.forall_mem_cons.mpr ⟨tb3 _ (List.mem_of_getElem? (i := 153) rfl), List.forall_mem_cons.mpr ⟨tb3 _ (List.mem_of_getElem? (i := 154) rfl), List.forall_mem_cons.mpr ⟨tb3 _ (List.mem_of_getElem? (i := 155) rfl), List.forall_mem_cons.mpr ⟨tb3 _ (List.mem_of_getElem? (i := 156) rfl), List.forall_mem_cons.mpr ⟨tb3 _ (List.mem_of_getElem? (i := 58) rfl), List.forall_mem_cons.mpr ⟨tb2 _ (List.mem_of_getElem? (i := 94) rfl), List.forall_mem_cons.mpr ⟨tb2 _ (List.mem_of_getElem? (i := 228) rfl), List.forall_mem_cons.mpr ⟨tb2 _ (List.mem_of_getElem? (i := 27) rfl), List.forall_mem_cons.mpr ⟨tb3 _ (List.mem_of_getElem? (i := 183) rfl), List.forall_mem_cons.mpr ⟨tb3 _ (List.mem_of_getElem? (i := 184) rfl), List.forall_mem_cons.mpr ⟨tb3 _ (List.mem_of_getElem? (i := 185) rfl), List.forall_mem_cons.mpr ⟨tb3 _ (List.mem_of_getElem? (i := 186) rfl), List.forall_mem_cons.mpr ⟨tb1 _ (List.mem_of_getElem? (i := 173) rfl), List.forall_mem_cons.mpr ⟨tb1 _ (List.mem_of_getElem? (i := 174) rfl), fun _ h => absurd h List.not_mem_nil⟩⟩⟩⟩⟩⟩⟩⟩⟩⟩⟩⟩⟩⟩⟩⟩⟩⟩⟩⟩⟩⟩⟩⟩
def AC11 : List Cond := [.selects RX0 yX0_errorIndex yX0_errorIndex, .code yX0_errorIndex cX0_errorIndex 3 (some .int), .methodLink RX5 335 yX0_codeAt, .methodLink RX5 346 yX5_doFlightPart, .instanceMethod yX5_doFlightPart, .selects RX5 yX5_doFlightPart yX5_doFlightPart, .code yX5_doFlightPart cX5_doFlightPart 3 (some .boolean), .methodLink RX5 349 yX5_doLiftPart, .instanceMethod yX5_doLiftPart, .selects RX5 yX5_doLiftPart yX5_doLiftPart, .code yX5_doLiftPart cX5_doLiftPart 6 (some .boolean), .methodLink RX5 140 yX0_isComplete, .instanceMethod yX0_isComplete, .selects RX0 yX0_isComplete yX0_isComplete, .code yX0_isComplete cX0_isComplete 3 (some .boolean), .methodLink RX5 145 yX5_doParts, .instanceMethod yX5_doParts, .selects RX5 yX5_doParts yX5_doParts, .code yX5_doParts cX5_doParts 4 (some .int), .methodLink RX5 148 yX4_copyFrom, .methodLink RX5 151 yX1_potted, .instanceMethod yX1_potted, .selects RX1 yX1_potted yX1_potted, .code yX1_potted cX1_potted 3 (some .int)]
theorem AC11_in : ∀ w ∈ AC11, w ∈ lw_tbl := List.forall_mem_cons.mpr ⟨tb1 _ (List.mem_of_getElem? (i := 175) rfl), List.forall_mem_cons.mpr ⟨tb1 _ (List.mem_of_getElem? (i := 176) rfl), List.forall_mem_cons.mpr ⟨tb3 _ (List.mem_of_getElem? (i := 79) rfl), List.forall_mem_cons.mpr ⟨tb3 _ (List.mem_of_getElem? (i := 203) rfl), List.forall_mem_cons.mpr ⟨tb3 _ (List.mem_of_getElem? (i := 205) rfl), List.forall_mem_cons.mpr ⟨tp1 _ (List.mem_of_getElem? (i := 13) rfl), List.forall_mem_cons.mpr ⟨tb3 _ (List.mem_of_getElem? (i := 206) rfl), List.forall_mem_cons.mpr ⟨tb3 _ (List.mem_of_getElem? (i := 207) rfl), List.forall_mem_cons.mpr ⟨tb3 _ (List.mem_of_getElem? (i := 209) rfl), List.forall_mem_cons.mpr ⟨tp1 _ (List.mem_of_getElem? (i := 14) rfl), List.forall_mem_cons.mpr ⟨tb3 _ (List.mem_of_getElem? (i := 210) rfl), List.forall_mem_cons.mpr ⟨tb3 _ (List.mem_of_getElem? (i := 194) rfl), List.forall_mem_cons.mpr ⟨tb3 _ (List.mem_of_getElem? (i := 195) rfl), List.forall_mem_cons.mpr ⟨tb3 _ (List.mem_of_getElem? (i := 196) rfl), List.forall_mem_cons.mpr ⟨tb3 _ (List.mem_of_getElem? (i := 197) rfl), List.forall_mem_cons.mpr ⟨tb3 _ (List.mem_of_getElem? (i := 199) rfl), List.forall_mem_cons.mpr ⟨tb3 _ (List.mem_of_getElem? (i := 201) rfl), List.forall_mem_cons.mpr ⟨tp1 _ (List.mem_of_getElem? (i := 12) rfl), List.forall_mem_cons.mpr ⟨tb3 _ (List.mem_of_getElem? (i := 202) rfl), List.forall_mem_cons.mpr ⟨tb1 _ (List.mem_of_getElem? (i := 191) rfl), List.forall_mem_cons.mpr ⟨tb1 _ (List.mem_of_getElem? (i := 203) rfl), List.forall_mem_cons.mpr ⟨tb1 _ (List.mem_of_getElem? (i := 204) rfl), List.forall_mem_cons.mpr ⟨tb1 _ (List.mem_of_getElem? (i := 205) rfl), List.forall_mem_cons.mpr ⟨tb1 _ (List.mem_of_getElem? (i := 206) rfl), fun _ h => absurd h List.not_mem_nil⟩⟩⟩⟩⟩⟩⟩⟩⟩⟩⟩⟩⟩⟩⟩⟩⟩⟩⟩⟩⟩⟩⟩⟩
def AC12 : List Cond := [.methodLink RX5 161 yX2_restore, .instanceMethod yX2_restore, .selects RX2 yX2_restore yX2_restore, .code yX2_restore cX2_restore 2 none, .methodLink RX5 174 yX1_placeOf, .instanceMethod yX1_placeOf, .selects RX1 yX1_placeOf yX1_placeOf, .code yX1_placeOf cX1_placeOf 5 (some .int), .methodLink RX5 182 yX1_topAt, .methodLink RX5 185 yX1_bottomAt, .instanceMethod yX1_bottomAt, .selects RX1 yX1_bottomAt yX1_bottomAt, .code yX1_bottomAt cX1_bottomAt 3 (some .int), .methodLink RX5 188 yX1_coloursAt, .instanceMethod yX1_coloursAt, .selects RX1 yX1_coloursAt yX1_coloursAt, .code yX1_coloursAt cX1_coloursAt 4 (some .int), .methodLink RX5 193 yX5_isColour, .static yX5_isColour, .code yX5_isColour cX5_isColour 1 (some .boolean), .methodLink RX5 201 yX1_pottedOf, .methodLink RX5 204 yX1_coveredOf, .methodLink RX5 207 yX1_pointsOf, .methodLink RX5 216 yX1_othersBelow]
theorem AC12_in : ∀ w ∈ AC12, w ∈ lw_tbl := List.forall_mem_cons.mpr ⟨tb3 _ (List.mem_of_getElem? (i := 227) rfl), List.forall_mem_cons.mpr ⟨tb3 _ (List.mem_of_getElem? (i := 228) rfl), List.forall_mem_cons.mpr ⟨tb3 _ (List.mem_of_getElem? (i := 229) rfl), List.forall_mem_cons.mpr ⟨tb3 _ (List.mem_of_getElem? (i := 230) rfl), List.forall_mem_cons.mpr ⟨tb2 _ (List.mem_of_getElem? (i := 224) rfl), List.forall_mem_cons.mpr ⟨tb2 _ (List.mem_of_getElem? (i := 225) rfl), List.forall_mem_cons.mpr ⟨tb2 _ (List.mem_of_getElem? (i := 226) rfl), List.forall_mem_cons.mpr ⟨tb2 _ (List.mem_of_getElem? (i := 227) rfl), List.forall_mem_cons.mpr ⟨tb3 _ (List.mem_of_getElem? (i := 49) rfl), List.forall_mem_cons.mpr ⟨tb3 _ (List.mem_of_getElem? (i := 59) rfl), List.forall_mem_cons.mpr ⟨tb3 _ (List.mem_of_getElem? (i := 60) rfl), List.forall_mem_cons.mpr ⟨tb3 _ (List.mem_of_getElem? (i := 61) rfl), List.forall_mem_cons.mpr ⟨tb3 _ (List.mem_of_getElem? (i := 62) rfl), List.forall_mem_cons.mpr ⟨tb3 _ (List.mem_of_getElem? (i := 63) rfl), List.forall_mem_cons.mpr ⟨tb3 _ (List.mem_of_getElem? (i := 64) rfl), List.forall_mem_cons.mpr ⟨tb3 _ (List.mem_of_getElem? (i := 65) rfl), List.forall_mem_cons.mpr ⟨tb3 _ (List.mem_of_getElem? (i := 66) rfl), List.forall_mem_cons.mpr ⟨tb3 _ (List.mem_of_getElem? (i := 30) rfl), List.forall_mem_cons.mpr ⟨tb3 _ (List.mem_of_getElem? (i := 31) rfl), List.forall_mem_cons.mpr ⟨tb3 _ (List.mem_of_getElem? (i := 32) rfl), List.forall_mem_cons.mpr ⟨tb3 _ (List.mem_of_getElem? (i := 34) rfl), List.forall_mem_cons.mpr ⟨tb3 _ (List.mem_of_getElem? (i := 35) rfl), List.forall_mem_cons.mpr ⟨tb3 _ (List.mem_of_getElem? (i := 36) rfl), List.forall_mem_cons.mpr ⟨tb3 _ (List.mem_of_getElem? (i := 37) rfl), fun _ h => absurd h List.not_mem_nil⟩⟩⟩⟩⟩⟩⟩⟩⟩⟩⟩⟩⟩⟩⟩⟩⟩⟩⟩⟩⟩⟩⟩⟩
def AC13 : List Cond := [.instanceMethod yX1_othersBelow, .selects RX1 yX1_othersBelow yX1_othersBelow, .code yX1_othersBelow cX1_othersBelow 4 (some .int), .methodLink RX5 222 yX1_coveredByPiles, .instanceMethod yX1_coveredByPiles, .selects RX1 yX1_coveredByPiles yX1_coveredByPiles, .code yX1_coveredByPiles cX1_coveredByPiles 3 (some .int), .methodLink RX5 225 yX1_coveredByWinks, .instanceMethod yX1_coveredByWinks, .selects RX1 yX1_coveredByWinks yX1_coveredByWinks, .code yX1_coveredByWinks cX1_coveredByWinks 1 (some .int), .methodLink RX5 228 yX1_piles, .instanceMethod yX1_piles, .selects RX1 yX1_piles yX1_piles, .code yX1_piles cX1_piles 3 (some .int), .methodLink RX5 231 yX1_highest, .instanceMethod yX1_highest, .selects RX1 yX1_highest yX1_highest, .code yX1_highest cX1_highest 3 (some .int), .methodLink RX5 234 yX4_allFlights, .instanceMethod yX4_allFlights, .selects RX4 yX4_allFlights yX4_allFlights, .code yX4_allFlights cX4_allFlights 3 (some .int), .methodLink RX5 240 yX4_allFouls]
theorem AC13_in : ∀ w ∈ AC13, w ∈ lw_tbl := List.forall_mem_cons.mpr ⟨tb3 _ (List.mem_of_getElem? (i := 38) rfl), List.forall_mem_cons.mpr ⟨tb3 _ (List.mem_of_getElem? (i := 39) rfl), List.forall_mem_cons.mpr ⟨tb3 _ (List.mem_of_getElem? (i := 40) rfl), List.forall_mem_cons.mpr ⟨tb2 _ (List.mem_of_getElem? (i := 95) rfl), List.forall_mem_cons.mpr ⟨tb2 _ (List.mem_of_getElem? (i := 96) rfl), List.forall_mem_cons.mpr ⟨tb2 _ (List.mem_of_getElem? (i := 97) rfl), List.forall_mem_cons.mpr ⟨tb2 _ (List.mem_of_getElem? (i := 98) rfl), List.forall_mem_cons.mpr ⟨tb2 _ (List.mem_of_getElem? (i := 103) rfl), List.forall_mem_cons.mpr ⟨tb2 _ (List.mem_of_getElem? (i := 104) rfl), List.forall_mem_cons.mpr ⟨tb2 _ (List.mem_of_getElem? (i := 105) rfl), List.forall_mem_cons.mpr ⟨tb2 _ (List.mem_of_getElem? (i := 106) rfl), List.forall_mem_cons.mpr ⟨tb2 _ (List.mem_of_getElem? (i := 77) rfl), List.forall_mem_cons.mpr ⟨tb2 _ (List.mem_of_getElem? (i := 78) rfl), List.forall_mem_cons.mpr ⟨tb2 _ (List.mem_of_getElem? (i := 79) rfl), List.forall_mem_cons.mpr ⟨tb2 _ (List.mem_of_getElem? (i := 80) rfl), List.forall_mem_cons.mpr ⟨tb2 _ (List.mem_of_getElem? (i := 108) rfl), List.forall_mem_cons.mpr ⟨tb2 _ (List.mem_of_getElem? (i := 109) rfl), List.forall_mem_cons.mpr ⟨tb2 _ (List.mem_of_getElem? (i := 110) rfl), List.forall_mem_cons.mpr ⟨tb2 _ (List.mem_of_getElem? (i := 111) rfl), List.forall_mem_cons.mpr ⟨tb2 _ (List.mem_of_getElem? (i := 115) rfl), List.forall_mem_cons.mpr ⟨tb2 _ (List.mem_of_getElem? (i := 116) rfl), List.forall_mem_cons.mpr ⟨tb2 _ (List.mem_of_getElem? (i := 117) rfl), List.forall_mem_cons.mpr ⟨tb2 _ (List.mem_of_getElem? (i := 118) rfl), List.forall_mem_cons.mpr ⟨tb2 _ (List.mem_of_getElem? (i := 119) rfl), fun _ h => absurd h List.not_mem_nil⟩⟩⟩⟩⟩⟩⟩⟩⟩⟩⟩⟩⟩⟩⟩⟩⟩⟩⟩⟩⟩⟩⟩⟩
def AC14 : List Cond := [.instanceMethod yX4_allFouls, .selects RX4 yX4_allFouls yX4_allFouls, .code yX4_allFouls cX4_allFouls 3 (some .int), .methodLink RX5 243 yX1_pointsOfTeam, .methodLink RX5 248 yX1_isPotted, .methodLink RX5 251 yX5_stepsOf, .methodLink RX5 254 yX5_landing, .methodLink RX5 257 yX5_flightAnswer, .methodLink RX5 340 yX1_copyFrom, .methodLink RX5 343 yX5_restingCell, .methodLink RX5 262 yX5_tryFlight, .instanceMethod yX5_tryFlight, .selects RX5 yX5_tryFlight yX5_tryFlight, .code yX5_tryFlight cX5_tryFlight 5 none, .methodLink RX5 266 yX5_teamOf, .static yX5_teamOf, .code yX5_teamOf cX5_teamOf 1 (some .int), .methodLink RX5 269 yX1_leadOf, .instanceMethod yX1_leadOf, .selects RX1 yX1_leadOf yX1_leadOf, .code yX1_leadOf cX1_leadOf 2 (some .int), .methodLink RX5 272 yX1_coveredOfTeam, .methodLink RX5 275 yX3_fewest, .instanceMethod yX3_fewest]
theorem AC14_in : ∀ w ∈ AC14, w ∈ lw_tbl := List.forall_mem_cons.mpr ⟨tb2 _ (List.mem_of_getElem? (i := 120) rfl), List.forall_mem_cons.mpr ⟨tb2 _ (List.mem_of_getElem? (i := 121) rfl), List.forall_mem_cons.mpr ⟨tb2 _ (List.mem_of_getElem? (i := 122) rfl), List.forall_mem_cons.mpr ⟨tb2 _ (List.mem_of_getElem? (i := 123) rfl), List.forall_mem_cons.mpr ⟨tb3 _ (List.mem_of_getElem? (i := 2) rfl), List.forall_mem_cons.mpr ⟨tb2 _ (List.mem_of_getElem? (i := 5) rfl), List.forall_mem_cons.mpr ⟨tb2 _ (List.mem_of_getElem? (i := 11) rfl), List.forall_mem_cons.mpr ⟨tb3 _ (List.mem_of_getElem? (i := 3) rfl), List.forall_mem_cons.mpr ⟨tb2 _ (List.mem_of_getElem? (i := 4) rfl), List.forall_mem_cons.mpr ⟨tb2 _ (List.mem_of_getElem? (i := 23) rfl), List.forall_mem_cons.mpr ⟨tb2 _ (List.mem_of_getElem? (i := 0) rfl), List.forall_mem_cons.mpr ⟨tb2 _ (List.mem_of_getElem? (i := 2) rfl), List.forall_mem_cons.mpr ⟨tp1 _ (List.mem_of_getElem? (i := 0) rfl), List.forall_mem_cons.mpr ⟨tb2 _ (List.mem_of_getElem? (i := 3) rfl), List.forall_mem_cons.mpr ⟨tb1 _ (List.mem_of_getElem? (i := 236) rfl), List.forall_mem_cons.mpr ⟨tb1 _ (List.mem_of_getElem? (i := 237) rfl), List.forall_mem_cons.mpr ⟨tb1 _ (List.mem_of_getElem? (i := 238) rfl), List.forall_mem_cons.mpr ⟨tb2 _ (List.mem_of_getElem? (i := 46) rfl), List.forall_mem_cons.mpr ⟨tb2 _ (List.mem_of_getElem? (i := 47) rfl), List.forall_mem_cons.mpr ⟨tb2 _ (List.mem_of_getElem? (i := 48) rfl), List.forall_mem_cons.mpr ⟨tb2 _ (List.mem_of_getElem? (i := 49) rfl), List.forall_mem_cons.mpr ⟨tb2 _ (List.mem_of_getElem? (i := 60) rfl), List.forall_mem_cons.mpr ⟨tb3 _ (List.mem_of_getElem? (i := 10) rfl), List.forall_mem_cons.mpr ⟨tb3 _ (List.mem_of_getElem? (i := 11) rfl), fun _ h => absurd h List.not_mem_nil⟩⟩⟩⟩⟩⟩⟩⟩⟩⟩⟩⟩⟩⟩⟩⟩⟩⟩⟩⟩⟩⟩⟩⟩
def AC15 : List Cond := [.selects RX3 yX3_fewest yX3_fewest, .code yX3_fewest cX3_fewest 4 (some .int), .constantDouble RX5 279 (4625196817309499392), .constantLong RX5 318 (31), .methodLink RX5 320 yX5_wink, .instanceMethod yX5_wink, .selects RX5 yX5_wink yX5_wink, .code yX5_wink cX5_wink 3 (some .int), .methodLink RX5 286 yX5_mixed, .static yX5_mixed, .code yX5_mixed cX5_mixed 4 (some .long), .methodLink RX5 323 yX5_lands, .instanceMethod yX5_lands, .selects RX5 yX5_lands yX5_lands, .code yX5_lands cX5_lands 4 (some .int), .methodLink RX5 326 yX5_flightsTo, .instanceMethod yX5_flightsTo, .selects RX5 yX5_flightsTo yX5_flightsTo, .code yX5_flightsTo cX5_flightsTo 2 (some .int), .methodLink RX5 329 yX5_colour, .instanceMethod yX5_colour, .selects RX5 yX5_colour yX5_colour, .code yX5_colour cX5_colour 3 (some .int), .methodLink RX5 332 yX5_pile]
theorem AC15_in : ∀ w ∈ AC15, w ∈ lw_tbl := List.forall_mem_cons.mpr ⟨tb3 _ (List.mem_of_getElem? (i := 12) rfl), List.forall_mem_cons.mpr ⟨tb3 _ (List.mem_of_getElem? (i := 13) rfl), List.forall_mem_cons.mpr ⟨tb2 _ (List.mem_of_getElem? (i := 72) rfl), List.forall_mem_cons.mpr ⟨tb2 _ (List.mem_of_getElem? (i := 195) rfl), List.forall_mem_cons.mpr ⟨tb2 _ (List.mem_of_getElem? (i := 200) rfl), List.forall_mem_cons.mpr ⟨tb2 _ (List.mem_of_getElem? (i := 201) rfl), List.forall_mem_cons.mpr ⟨tb2 _ (List.mem_of_getElem? (i := 202) rfl), List.forall_mem_cons.mpr ⟨tb2 _ (List.mem_of_getElem? (i := 203) rfl), List.forall_mem_cons.mpr ⟨tb2 _ (List.mem_of_getElem? (i := 192) rfl), List.forall_mem_cons.mpr ⟨tb2 _ (List.mem_of_getElem? (i := 193) rfl), List.forall_mem_cons.mpr ⟨tb2 _ (List.mem_of_getElem? (i := 194) rfl), List.forall_mem_cons.mpr ⟨tb2 _ (List.mem_of_getElem? (i := 230) rfl), List.forall_mem_cons.mpr ⟨tb2 _ (List.mem_of_getElem? (i := 231) rfl), List.forall_mem_cons.mpr ⟨tb2 _ (List.mem_of_getElem? (i := 232) rfl), List.forall_mem_cons.mpr ⟨tb2 _ (List.mem_of_getElem? (i := 233) rfl), List.forall_mem_cons.mpr ⟨tb3 _ (List.mem_of_getElem? (i := 6) rfl), List.forall_mem_cons.mpr ⟨tb3 _ (List.mem_of_getElem? (i := 7) rfl), List.forall_mem_cons.mpr ⟨tb3 _ (List.mem_of_getElem? (i := 8) rfl), List.forall_mem_cons.mpr ⟨tb3 _ (List.mem_of_getElem? (i := 9) rfl), List.forall_mem_cons.mpr ⟨tb3 _ (List.mem_of_getElem? (i := 26) rfl), List.forall_mem_cons.mpr ⟨tb3 _ (List.mem_of_getElem? (i := 27) rfl), List.forall_mem_cons.mpr ⟨tb3 _ (List.mem_of_getElem? (i := 28) rfl), List.forall_mem_cons.mpr ⟨tb3 _ (List.mem_of_getElem? (i := 29) rfl), List.forall_mem_cons.mpr ⟨tb3 _ (List.mem_of_getElem? (i := 50) rfl), fun _ h => absurd h List.not_mem_nil⟩⟩⟩⟩⟩⟩⟩⟩⟩⟩⟩⟩⟩⟩⟩⟩⟩⟩⟩⟩⟩⟩⟩⟩
def AC16 : List Cond := [.instanceMethod yX5_pile, .selects RX5 yX5_pile yX5_pile, .code yX5_pile cX5_pile 5 (some .int), .constantDouble RX5 338 (4611686018427387904), .constantLong RX5 281 (3823), .methodLink RX5 283 yX5_count, .instanceMethod yX5_count, .selects RX5 yX5_count yX5_count, .code yX5_count cX5_count 2 (some .int), .methodLink RX5 290 yX5_withWinks, .instanceMethod yX5_withWinks, .selects RX5 yX5_withWinks yX5_withWinks, .code yX5_withWinks cX5_withWinks 7 (some .long), .methodLink RX5 294 yX5_withColours, .instanceMethod yX5_withColours, .selects RX5 yX5_withColours yX5_withColours, .code yX5_withColours cX5_withColours 7 (some .long), .methodLink RX5 297 yX5_withPiles, .instanceMethod yX5_withPiles, .selects RX5 yX5_withPiles yX5_withPiles, .code yX5_withPiles cX5_withPiles 7 (some .long), .methodLink RX5 300 yX5_best, .instanceMethod yX5_best, .selects RX5 yX5_best yX5_best]
theorem AC16_in : ∀ w ∈ AC16, w ∈ lw_tbl := List.forall_mem_cons.mpr ⟨tb3 _ (List.mem_of_getElem? (i := 51) rfl), List.forall_mem_cons.mpr ⟨tb3 _ (List.mem_of_getElem? (i := 52) rfl), List.forall_mem_cons.mpr ⟨tb3 _ (List.mem_of_getElem? (i := 53) rfl), List.forall_mem_cons.mpr ⟨tb3 _ (List.mem_of_getElem? (i := 73) rfl), List.forall_mem_cons.mpr ⟨tb2 _ (List.mem_of_getElem? (i := 89) rfl), List.forall_mem_cons.mpr ⟨tb2 _ (List.mem_of_getElem? (i := 90) rfl), List.forall_mem_cons.mpr ⟨tb2 _ (List.mem_of_getElem? (i := 91) rfl), List.forall_mem_cons.mpr ⟨tb2 _ (List.mem_of_getElem? (i := 92) rfl), List.forall_mem_cons.mpr ⟨tb2 _ (List.mem_of_getElem? (i := 93) rfl), List.forall_mem_cons.mpr ⟨tb2 _ (List.mem_of_getElem? (i := 196) rfl), List.forall_mem_cons.mpr ⟨tb2 _ (List.mem_of_getElem? (i := 198) rfl), List.forall_mem_cons.mpr ⟨tp1 _ (List.mem_of_getElem? (i := 5) rfl), List.forall_mem_cons.mpr ⟨tb2 _ (List.mem_of_getElem? (i := 199) rfl), List.forall_mem_cons.mpr ⟨tb3 _ (List.mem_of_getElem? (i := 22) rfl), List.forall_mem_cons.mpr ⟨tb3 _ (List.mem_of_getElem? (i := 24) rfl), List.forall_mem_cons.mpr ⟨tp1 _ (List.mem_of_getElem? (i := 7) rfl), List.forall_mem_cons.mpr ⟨tb3 _ (List.mem_of_getElem? (i := 25) rfl), List.forall_mem_cons.mpr ⟨tb3 _ (List.mem_of_getElem? (i := 45) rfl), List.forall_mem_cons.mpr ⟨tb3 _ (List.mem_of_getElem? (i := 47) rfl), List.forall_mem_cons.mpr ⟨tp1 _ (List.mem_of_getElem? (i := 9) rfl), List.forall_mem_cons.mpr ⟨tb3 _ (List.mem_of_getElem? (i := 48) rfl), List.forall_mem_cons.mpr ⟨tb3 _ (List.mem_of_getElem? (i := 68) rfl), List.forall_mem_cons.mpr ⟨tb1 _ (List.mem_of_getElem? (i := 212) rfl), List.forall_mem_cons.mpr ⟨tb1 _ (List.mem_of_getElem? (i := 213) rfl), fun _ h => absurd h List.not_mem_nil⟩⟩⟩⟩⟩⟩⟩⟩⟩⟩⟩⟩⟩⟩⟩⟩⟩⟩⟩⟩⟩⟩⟩⟩
def AC17 : List Cond := [.code yX5_best cX5_best 11 (some .int), .methodLink RX5 303 yX5_pottedShare, .instanceMethod yX5_pottedShare, .selects RX5 yX5_pottedShare yX5_pottedShare, .code yX5_pottedShare cX5_pottedShare 1 (some .double), .methodLink RX5 307 yX5_bitsOf, .static yX5_bitsOf, .code yX5_bitsOf cX5_bitsOf 10 (some .long), .methodLink RX5 311 yX5_meanPile, .instanceMethod yX5_meanPile, .selects RX5 yX5_meanPile yX5_meanPile, .code yX5_meanPile cX5_meanPile 2 (some .float), .methodLink RX5 315 yX5_withText, .instanceMethod yX5_withText, .selects RX5 yX5_withText yX5_withText, .code yX5_withText cX5_withText 6 (some .long), .methodLink RX6 1 objectInit, .fieldLink RX6 7 "SquopPilesModel" "row" "[I", .fieldLink RX6 13 "SquopPilesModel" "past" "[I", .fieldLink RX6 16 "SquopPilesModel" "slot" "[I", .fieldLink RX6 19 "SquopPilesModel" "aside" "[I", .fieldLink RX6 22 "SquopPilesModel" "near" "[I", .fieldLink RX6 25 "SquopPilesModel" "far" "[I", .fieldLink RX6 28 "SquopPilesModel" "buffer" "[I"]
theorem AC17_in : ∀ w ∈ AC17, w ∈ lw_tbl := List.forall_mem_cons.mpr ⟨tb1 _ (List.mem_of_getElem? (i := 214) rfl), List.forall_mem_cons.mpr ⟨tb3 _ (List.mem_of_getElem? (i := 69) rfl), List.forall_mem_cons.mpr ⟨tb2 _ (List.mem_of_getElem? (i := 69) rfl), List.forall_mem_cons.mpr ⟨tb2 _ (List.mem_of_getElem? (i := 70) rfl), List.forall_mem_cons.mpr ⟨tb2 _ (List.mem_of_getElem? (i := 71) rfl), List.forall_mem_cons.mpr ⟨tb3 _ (List.mem_of_getElem? (i := 70) rfl), List.forall_mem_cons.mpr ⟨tb3 _ (List.mem_of_getElem? (i := 71) rfl), List.forall_mem_cons.mpr ⟨tb3 _ (List.mem_of_getElem? (i := 72) rfl), List.forall_mem_cons.mpr ⟨tb3 _ (List.mem_of_getElem? (i := 74) rfl), List.forall_mem_cons.mpr ⟨tb2 _ (List.mem_of_getElem? (i := 74) rfl), List.forall_mem_cons.mpr ⟨tb2 _ (List.mem_of_getElem? (i := 75) rfl), List.forall_mem_cons.mpr ⟨tb2 _ (List.mem_of_getElem? (i := 76) rfl), List.forall_mem_cons.mpr ⟨tb3 _ (List.mem_of_getElem? (i := 75) rfl), List.forall_mem_cons.mpr ⟨tb3 _ (List.mem_of_getElem? (i := 77) rfl), List.forall_mem_cons.mpr ⟨tp1 _ (List.mem_of_getElem? (i := 10) rfl), List.forall_mem_cons.mpr ⟨tb3 _ (List.mem_of_getElem? (i := 78) rfl), List.forall_mem_cons.mpr ⟨tb4 _ (List.mem_of_getElem? (i := 35) rfl), List.forall_mem_cons.mpr ⟨tb4 _ (List.mem_of_getElem? (i := 39) rfl), List.forall_mem_cons.mpr ⟨tb4 _ (List.mem_of_getElem? (i := 40) rfl), List.forall_mem_cons.mpr ⟨tb4 _ (List.mem_of_getElem? (i := 41) rfl), List.forall_mem_cons.mpr ⟨tb4 _ (List.mem_of_getElem? (i := 42) rfl), List.forall_mem_cons.mpr ⟨tb4 _ (List.mem_of_getElem? (i := 43) rfl), List.forall_mem_cons.mpr ⟨tb4 _ (List.mem_of_getElem? (i := 44) rfl), List.forall_mem_cons.mpr ⟨tb4 _ (List.mem_of_getElem? (i := 45) rfl), fun _ h => absurd h List.not_mem_nil⟩⟩⟩⟩⟩⟩⟩⟩⟩⟩⟩⟩⟩⟩⟩⟩⟩⟩⟩⟩⟩⟩⟩⟩
def AC18 : List Cond := [.methodLink RX6 31 yX6_base, .static yX6_base, .initialized RX6, .code yX6_base cX6_base 1 (some .int), .fieldLink RX6 35 "SquopPilesModel" "thrown" "I", .fieldLink RX6 39 "SquopPilesModel" "states" "I", .methodLink RX6 42 yX6_isPotted, .instanceMethod yX6_isPotted, .selects RX6 yX6_isPotted yX6_isPotted, .code yX6_isPotted cX6_isPotted 2 (some .boolean), .methodLink RX6 46 yX6_lying, .instanceMethod yX6_lying, .selects RX6 yX6_lying yX6_lying, .code yX6_lying cX6_lying 4 (some .int), .methodLink RX6 49 yX6_pottedOf, .instanceMethod yX6_pottedOf, .selects RX6 yX6_pottedOf yX6_pottedOf, .code yX6_pottedOf cX6_pottedOf 4 (some .int), .methodLink RX6 52 yX6_isCovered, .instanceMethod yX6_isCovered, .selects RX6 yX6_isCovered yX6_isCovered, .code yX6_isCovered cX6_isCovered 2 (some .boolean), .methodLink RX6 55 yX6_points, .instanceMethod yX6_points]
theorem AC18_in : ∀ w ∈ AC18, w ∈ lw_tbl := List.forall_mem_cons.mpr ⟨tb4 _ (List.mem_of_getElem? (i := 36) rfl), List.forall_mem_cons.mpr ⟨tb4 _ (List.mem_of_getElem? (i := 37) rfl), List.forall_mem_cons.mpr ⟨tb1 _ (List.mem_of_getElem? (i := 7) rfl), List.forall_mem_cons.mpr ⟨tb4 _ (List.mem_of_getElem? (i := 38) rfl), List.forall_mem_cons.mpr ⟨tb4 _ (List.mem_of_getElem? (i := 50) rfl), List.forall_mem_cons.mpr ⟨tb4 _ (List.mem_of_getElem? (i := 47) rfl), List.forall_mem_cons.mpr ⟨tb4 _ (List.mem_of_getElem? (i := 103) rfl), List.forall_mem_cons.mpr ⟨tb4 _ (List.mem_of_getElem? (i := 105) rfl), List.forall_mem_cons.mpr ⟨tp2 _ (List.mem_of_getElem? (i := 3) rfl), List.forall_mem_cons.mpr ⟨tb4 _ (List.mem_of_getElem? (i := 106) rfl), List.forall_mem_cons.mpr ⟨tb4 _ (List.mem_of_getElem? (i := 111) rfl), List.forall_mem_cons.mpr ⟨tb4 _ (List.mem_of_getElem? (i := 113) rfl), List.forall_mem_cons.mpr ⟨tp2 _ (List.mem_of_getElem? (i := 5) rfl), List.forall_mem_cons.mpr ⟨tb4 _ (List.mem_of_getElem? (i := 114) rfl), List.forall_mem_cons.mpr ⟨tb4 _ (List.mem_of_getElem? (i := 99) rfl), List.forall_mem_cons.mpr ⟨tb4 _ (List.mem_of_getElem? (i := 101) rfl), List.forall_mem_cons.mpr ⟨tp2 _ (List.mem_of_getElem? (i := 2) rfl), List.forall_mem_cons.mpr ⟨tb4 _ (List.mem_of_getElem? (i := 102) rfl), List.forall_mem_cons.mpr ⟨tb4 _ (List.mem_of_getElem? (i := 107) rfl), List.forall_mem_cons.mpr ⟨tb4 _ (List.mem_of_getElem? (i := 109) rfl), List.forall_mem_cons.mpr ⟨tp2 _ (List.mem_of_getElem? (i := 4) rfl), List.forall_mem_cons.mpr ⟨tb4 _ (List.mem_of_getElem? (i := 110) rfl), List.forall_mem_cons.mpr ⟨tb5 _ (List.mem_of_getElem? (i := 13) rfl), List.forall_mem_cons.mpr ⟨tb5 _ (List.mem_of_getElem? (i := 15) rfl), fun _ h => absurd h List.not_mem_nil⟩⟩⟩⟩⟩⟩⟩⟩⟩⟩⟩⟩⟩⟩⟩⟩⟩⟩⟩⟩⟩⟩⟩⟩
def AC19 : List Cond := [.selects RX6 yX6_points yX6_points, .code yX6_points cX6_points 4 (some .int), .methodLink RX6 58 yX6_isOver, .instanceMethod yX6_isOver, .selects RX6 yX6_isOver yX6_isOver, .code yX6_isOver cX6_isOver 1 (some .boolean), .methodLink RX6 62 yX6_eastOf, .static yX6_eastOf, .code yX6_eastOf cX6_eastOf 1 (some .int), .methodLink RX6 65 yX6_southOf, .static yX6_southOf, .code yX6_southOf cX6_southOf 1 (some .int), .methodLink RX6 68 yX6_in, .static yX6_in, .code yX6_in cX6_in 3 (some .boolean), .methodLink RX6 72 yX6_steps, .static yX6_steps, .code yX6_steps cX6_steps 2 (some .int), .methodLink RX6 76 yX6_leads, .static yX6_leads, .code yX6_leads cX6_leads 9 (some .int), .methodLink RX6 80 yX6_lay, .instanceMethod yX6_lay, .selects RX6 yX6_lay yX6_lay]
theorem AC19_in : ∀ w ∈ AC19, w ∈ lw_tbl := List.forall_mem_cons.mpr ⟨tp3 _ (List.mem_of_getElem? (i := 7) rfl), List.forall_mem_cons.mpr ⟨tb5 _ (List.mem_of_getElem? (i := 16) rfl), List.forall_mem_cons.mpr ⟨tb4 _ (List.mem_of_getElem? (i := 95) rfl), List.forall_mem_cons.mpr ⟨tb4 _ (List.mem_of_getElem? (i := 97) rfl), List.forall_mem_cons.mpr ⟨tp2 _ (List.mem_of_getElem? (i := 1) rfl), List.forall_mem_cons.mpr ⟨tb4 _ (List.mem_of_getElem? (i := 98) rfl), List.forall_mem_cons.mpr ⟨tb4 _ (List.mem_of_getElem? (i := 129) rfl), List.forall_mem_cons.mpr ⟨tb4 _ (List.mem_of_getElem? (i := 130) rfl), List.forall_mem_cons.mpr ⟨tb4 _ (List.mem_of_getElem? (i := 131) rfl), List.forall_mem_cons.mpr ⟨tb4 _ (List.mem_of_getElem? (i := 132) rfl), List.forall_mem_cons.mpr ⟨tb4 _ (List.mem_of_getElem? (i := 133) rfl), List.forall_mem_cons.mpr ⟨tb4 _ (List.mem_of_getElem? (i := 134) rfl), List.forall_mem_cons.mpr ⟨tb4 _ (List.mem_of_getElem? (i := 84) rfl), List.forall_mem_cons.mpr ⟨tb4 _ (List.mem_of_getElem? (i := 85) rfl), List.forall_mem_cons.mpr ⟨tb4 _ (List.mem_of_getElem? (i := 86) rfl), List.forall_mem_cons.mpr ⟨tb4 _ (List.mem_of_getElem? (i := 123) rfl), List.forall_mem_cons.mpr ⟨tb4 _ (List.mem_of_getElem? (i := 124) rfl), List.forall_mem_cons.mpr ⟨tb4 _ (List.mem_of_getElem? (i := 125) rfl), List.forall_mem_cons.mpr ⟨tb4 _ (List.mem_of_getElem? (i := 126) rfl), List.forall_mem_cons.mpr ⟨tb4 _ (List.mem_of_getElem? (i := 127) rfl), List.forall_mem_cons.mpr ⟨tb4 _ (List.mem_of_getElem? (i := 128) rfl), List.forall_mem_cons.mpr ⟨tb4 _ (List.mem_of_getElem? (i := 135) rfl), List.forall_mem_cons.mpr ⟨tb4 _ (List.mem_of_getElem? (i := 137) rfl), List.forall_mem_cons.mpr ⟨tp2 _ (List.mem_of_getElem? (i := 8) rfl), fun _ h => absurd h List.not_mem_nil⟩⟩⟩⟩⟩⟩⟩⟩⟩⟩⟩⟩⟩⟩⟩⟩⟩⟩⟩⟩⟩⟩⟩⟩
def AC20 : List Cond := [.code yX6_lay cX6_lay 3 none, .methodLink RX6 84 yX6_pass, .instanceMethod yX6_pass, .selects RX6 yX6_pass yX6_pass, .code yX6_pass cX6_pass 2 none, .methodLink RX6 87 yX6_told, .static yX6_told, .code yX6_told cX6_told 1 (some .int), .methodLink RX6 90 yX6_winkAt, .instanceMethod yX6_winkAt, .selects RX6 yX6_winkAt yX6_winkAt, .code yX6_winkAt cX6_winkAt 4 (some .int), .methodLink RX6 93 yX6_beside, .static yX6_beside, .code yX6_beside cX6_beside 4 (some .int), .methodLink RX6 96 yX6_fails, .instanceMethod yX6_fails, .selects RX6 yX6_fails yX6_fails, .code yX6_fails cX6_fails 2 (some .int), .methodLink RX6 99 yX6_whyNot, .instanceMethod yX6_whyNot, .selects RX6 yX6_whyNot yX6_whyNot, .code yX6_whyNot cX6_whyNot 2 (some .int), .methodLink RX6 102 yX6_record]
theorem AC20_in : ∀ w ∈ AC20, w ∈ lw_tbl := List.forall_mem_cons.mpr ⟨tb4 _ (List.mem_of_getElem? (i := 138) rfl), List.forall_mem_cons.mpr ⟨tb4 _ (List.mem_of_getElem? (i := 139) rfl), List.forall_mem_cons.mpr ⟨tb4 _ (List.mem_of_getElem? (i := 141) rfl), List.forall_mem_cons.mpr ⟨tp2 _ (List.mem_of_getElem? (i := 9) rfl), List.forall_mem_cons.mpr ⟨tb4 _ (List.mem_of_getElem? (i := 142) rfl), List.forall_mem_cons.mpr ⟨tb4 _ (List.mem_of_getElem? (i := 143) rfl), List.forall_mem_cons.mpr ⟨tb4 _ (List.mem_of_getElem? (i := 144) rfl), List.forall_mem_cons.mpr ⟨tb4 _ (List.mem_of_getElem? (i := 145) rfl), List.forall_mem_cons.mpr ⟨tb4 _ (List.mem_of_getElem? (i := 154) rfl), List.forall_mem_cons.mpr ⟨tb4 _ (List.mem_of_getElem? (i := 156) rfl), List.forall_mem_cons.mpr ⟨tp2 _ (List.mem_of_getElem? (i := 11) rfl), List.forall_mem_cons.mpr ⟨tb4 _ (List.mem_of_getElem? (i := 157) rfl), List.forall_mem_cons.mpr ⟨tb4 _ (List.mem_of_getElem? (i := 158) rfl), List.forall_mem_cons.mpr ⟨tb4 _ (List.mem_of_getElem? (i := 159) rfl), List.forall_mem_cons.mpr ⟨tb4 _ (List.mem_of_getElem? (i := 160) rfl), List.forall_mem_cons.mpr ⟨tb4 _ (List.mem_of_getElem? (i := 87) rfl), List.forall_mem_cons.mpr ⟨tb4 _ (List.mem_of_getElem? (i := 89) rfl), List.forall_mem_cons.mpr ⟨tp1 _ (List.mem_of_getElem? (i := 15) rfl), List.forall_mem_cons.mpr ⟨tb4 _ (List.mem_of_getElem? (i := 90) rfl), List.forall_mem_cons.mpr ⟨tb4 _ (List.mem_of_getElem? (i := 91) rfl), List.forall_mem_cons.mpr ⟨tb4 _ (List.mem_of_getElem? (i := 93) rfl), List.forall_mem_cons.mpr ⟨tp2 _ (List.mem_of_getElem? (i := 0) rfl), List.forall_mem_cons.mpr ⟨tb4 _ (List.mem_of_getElem? (i := 94) rfl), List.forall_mem_cons.mpr ⟨tb4 _ (List.mem_of_getElem? (i := 115) rfl), fun _ h => absurd h List.not_mem_nil⟩⟩⟩⟩⟩⟩⟩⟩⟩⟩⟩⟩⟩⟩⟩⟩⟩⟩⟩⟩⟩⟩⟩⟩
def AC21 : List Cond := [.instanceMethod yX6_record, .selects RX6 yX6_record yX6_record, .code yX6_record cX6_record 2 none, .methodLink RX6 105 yX6_flies, .instanceMethod yX6_flies, .selects RX6 yX6_flies yX6_flies, .code yX6_flies cX6_flies 5 (some .int), .methodLink RX6 108 yX6_whyNotLifted, .instanceMethod yX6_whyNotLifted, .selects RX6 yX6_whyNotLifted yX6_whyNotLifted, .code yX6_whyNotLifted cX6_whyNotLifted 5 (some .int), .methodLink RX6 111 yX6_lifts, .instanceMethod yX6_lifts, .selects RX6 yX6_lifts yX6_lifts, .code yX6_lifts cX6_lifts 6 (some .int), .fieldLink RX6 114 "SquopPilesModel" "length" "I", .fieldLink RX6 117 "SquopPilesModel" "at" "I", .methodLink RX6 120 yX6_takes, .instanceMethod yX6_takes, .selects RX6 yX6_takes yX6_takes, .code yX6_takes cX6_takes 4 (some .boolean), .methodLink RX6 124 yX6_part, .instanceMethod yX6_part, .selects RX6 yX6_part yX6_part]
theorem AC21_in : ∀ w ∈ AC21, w ∈ lw_tbl := List.forall_mem_cons.mpr ⟨tb4 _ (List.mem_of_getElem? (i := 117) rfl), List.forall_mem_cons.mpr ⟨tp2 _ (List.mem_of_getElem? (i := 6) rfl), List.forall_mem_cons.mpr ⟨tb4 _ (List.mem_of_getElem? (i := 118) rfl), List.forall_mem_cons.mpr ⟨tb4 _ (List.mem_of_getElem? (i := 119) rfl), List.forall_mem_cons.mpr ⟨tb4 _ (List.mem_of_getElem? (i := 121) rfl), List.forall_mem_cons.mpr ⟨tp2 _ (List.mem_of_getElem? (i := 7) rfl), List.forall_mem_cons.mpr ⟨tb4 _ (List.mem_of_getElem? (i := 122) rfl), List.forall_mem_cons.mpr ⟨tb4 _ (List.mem_of_getElem? (i := 150) rfl), List.forall_mem_cons.mpr ⟨tb4 _ (List.mem_of_getElem? (i := 152) rfl), List.forall_mem_cons.mpr ⟨tp2 _ (List.mem_of_getElem? (i := 10) rfl), List.forall_mem_cons.mpr ⟨tb4 _ (List.mem_of_getElem? (i := 153) rfl), List.forall_mem_cons.mpr ⟨tb4 _ (List.mem_of_getElem? (i := 161) rfl), List.forall_mem_cons.mpr ⟨tb4 _ (List.mem_of_getElem? (i := 163) rfl), List.forall_mem_cons.mpr ⟨tp2 _ (List.mem_of_getElem? (i := 12) rfl), List.forall_mem_cons.mpr ⟨tb4 _ (List.mem_of_getElem? (i := 164) rfl), List.forall_mem_cons.mpr ⟨tb4 _ (List.mem_of_getElem? (i := 48) rfl), List.forall_mem_cons.mpr ⟨tb4 _ (List.mem_of_getElem? (i := 49) rfl), List.forall_mem_cons.mpr ⟨tb4 _ (List.mem_of_getElem? (i := 193) rfl), List.forall_mem_cons.mpr ⟨tb4 _ (List.mem_of_getElem? (i := 195) rfl), List.forall_mem_cons.mpr ⟨tp2 _ (List.mem_of_getElem? (i := 15) rfl), List.forall_mem_cons.mpr ⟨tb4 _ (List.mem_of_getElem? (i := 196) rfl), List.forall_mem_cons.mpr ⟨tb4 _ (List.mem_of_getElem? (i := 189) rfl), List.forall_mem_cons.mpr ⟨tb4 _ (List.mem_of_getElem? (i := 191) rfl), List.forall_mem_cons.mpr ⟨tp2 _ (List.mem_of_getElem? (i := 14) rfl), fun _ h => absurd h List.not_mem_nil⟩⟩⟩⟩⟩⟩⟩⟩⟩⟩⟩⟩⟩⟩⟩⟩⟩⟩⟩⟩⟩⟩⟩⟩
def AC22 : List Cond := [.code yX6_part cX6_part 1 (some .boolean), .methodLink RX6 127 yX6_isWhole, .instanceMethod yX6_isWhole, .selects RX6 yX6_isWhole yX6_isWhole, .code yX6_isWhole cX6_isWhole 2 (some .boolean), .methodLink RX6 130 yX6_does, .instanceMethod yX6_does, .selects RX6 yX6_does yX6_does, .code yX6_does cX6_does 5 (some .boolean), .fieldLink RX6 133 "SquopPilesModel" "has" "Z", .methodLink RX6 137 yX6_pottedInAll, .instanceMethod yX6_pottedInAll, .selects RX6 yX6_pottedInAll yX6_pottedInAll, .code yX6_pottedInAll cX6_pottedInAll 1 (some .int), .methodLink RX6 141 yX6_ofWink, .instanceMethod yX6_ofWink, .selects RX6 yX6_ofWink yX6_ofWink, .code yX6_ofWink cX6_ofWink 3 (some .int), .methodLink RX6 144 yX6_colours, .instanceMethod yX6_colours, .selects RX6 yX6_colours yX6_colours, .code yX6_colours cX6_colours 4 (some .int), .methodLink RX6 147 yX6_ofPile, .instanceMethod yX6_ofPile]
theorem AC22_in : ∀ w ∈ AC22, w ∈ lw_tbl := List.forall_mem_cons.mpr ⟨tb4 _ (List.mem_of_getElem? (i := 192) rfl), List.forall_mem_cons.mpr ⟨tb4 _ (List.mem_of_getElem? (i := 185) rfl), List.forall_mem_cons.mpr ⟨tb4 _ (List.mem_of_getElem? (i := 187) rfl), List.forall_mem_cons.mpr ⟨tp2 _ (List.mem_of_getElem? (i := 13) rfl), List.forall_mem_cons.mpr ⟨tb4 _ (List.mem_of_getElem? (i := 188) rfl), List.forall_mem_cons.mpr ⟨tb4 _ (List.mem_of_getElem? (i := 201) rfl), List.forall_mem_cons.mpr ⟨tb4 _ (List.mem_of_getElem? (i := 203) rfl), List.forall_mem_cons.mpr ⟨tp3 _ (List.mem_of_getElem? (i := 0) rfl), List.forall_mem_cons.mpr ⟨tb4 _ (List.mem_of_getElem? (i := 204) rfl), List.forall_mem_cons.mpr ⟨tb4 _ (List.mem_of_getElem? (i := 46) rfl), List.forall_mem_cons.mpr ⟨tb4 _ (List.mem_of_getElem? (i := 209) rfl), List.forall_mem_cons.mpr ⟨tb4 _ (List.mem_of_getElem? (i := 211) rfl), List.forall_mem_cons.mpr ⟨tp3 _ (List.mem_of_getElem? (i := 1) rfl), List.forall_mem_cons.mpr ⟨tb4 _ (List.mem_of_getElem? (i := 212) rfl), List.forall_mem_cons.mpr ⟨tb4 _ (List.mem_of_getElem? (i := 225) rfl), List.forall_mem_cons.mpr ⟨tb4 _ (List.mem_of_getElem? (i := 227) rfl), List.forall_mem_cons.mpr ⟨tp3 _ (List.mem_of_getElem? (i := 2) rfl), List.forall_mem_cons.mpr ⟨tb4 _ (List.mem_of_getElem? (i := 228) rfl), List.forall_mem_cons.mpr ⟨tb4 _ (List.mem_of_getElem? (i := 237) rfl), List.forall_mem_cons.mpr ⟨tb4 _ (List.mem_of_getElem? (i := 239) rfl), List.forall_mem_cons.mpr ⟨tp3 _ (List.mem_of_getElem? (i := 4) rfl), List.forall_mem_cons.mpr ⟨tb5 _ (List.mem_of_getElem? (i := 0) rfl), List.forall_mem_cons.mpr ⟨tb4 _ (List.mem_of_getElem? (i := 233) rfl), List.forall_mem_cons.mpr ⟨tb4 _ (List.mem_of_getElem? (i := 235) rfl), fun _ h => absurd h List.not_mem_nil⟩⟩⟩⟩⟩⟩⟩⟩⟩⟩⟩⟩⟩⟩⟩⟩⟩⟩⟩⟩⟩⟩⟩⟩
def AC23 : List Cond := [.selects RX6 yX6_ofPile yX6_ofPile, .code yX6_ofPile cX6_ofPile 4 (some .int), .methodLink RX6 150 yX6_coveredOf, .instanceMethod yX6_coveredOf, .selects RX6 yX6_coveredOf yX6_coveredOf, .code yX6_coveredOf cX6_coveredOf 4 (some .int), .methodLink RX6 153 yX6_below, .instanceMethod yX6_below, .selects RX6 yX6_below yX6_below, .code yX6_below cX6_below 6 (some .int), .methodLink RX6 156 yX6_ofColour, .instanceMethod yX6_ofColour, .selects RX6 yX6_ofColour yX6_ofColour, .code yX6_ofColour cX6_ofColour 3 (some .int), .methodLink RX6 159 yX6_covered, .instanceMethod yX6_covered, .selects RX6 yX6_covered yX6_covered, .code yX6_covered cX6_covered 1 (some .int), .methodLink RX6 162 yX6_piles, .instanceMethod yX6_piles, .selects RX6 yX6_piles yX6_piles, .code yX6_piles cX6_piles 3 (some .int), .methodLink RX6 165 yX6_highest, .instanceMethod yX6_highest]
theorem AC23_in : ∀ w ∈ AC23, w ∈ lw_tbl := List.forall_mem_cons.mpr ⟨tp3 _ (List.mem_of_getElem? (i := 3) rfl), List.forall_mem_cons.mpr ⟨tb4 _ (List.mem_of_getElem? (i := 236) rfl), List.forall_mem_cons.mpr ⟨tb5 _ (List.mem_of_getElem? (i := 9) rfl), List.forall_mem_cons.mpr ⟨tb5 _ (List.mem_of_getElem? (i := 11) rfl), List.forall_mem_cons.mpr ⟨tp3 _ (List.mem_of_getElem? (i := 6) rfl), List.forall_mem_cons.mpr ⟨tb5 _ (List.mem_of_getElem? (i := 12) rfl), List.forall_mem_cons.mpr ⟨tb5 _ (List.mem_of_getElem? (i := 17) rfl), List.forall_mem_cons.mpr ⟨tb5 _ (List.mem_of_getElem? (i := 19) rfl), List.forall_mem_cons.mpr ⟨tp3 _ (List.mem_of_getElem? (i := 8) rfl), List.forall_mem_cons.mpr ⟨tb5 _ (List.mem_of_getElem? (i := 20) rfl), List.forall_mem_cons.mpr ⟨tb5 _ (List.mem_of_getElem? (i := 5) rfl), List.forall_mem_cons.mpr ⟨tb5 _ (List.mem_of_getElem? (i := 7) rfl), List.forall_mem_cons.mpr ⟨tp3 _ (List.mem_of_getElem? (i := 5) rfl), List.forall_mem_cons.mpr ⟨tb5 _ (List.mem_of_getElem? (i := 8) rfl), List.forall_mem_cons.mpr ⟨tb5 _ (List.mem_of_getElem? (i := 29) rfl), List.forall_mem_cons.mpr ⟨tb5 _ (List.mem_of_getElem? (i := 31) rfl), List.forall_mem_cons.mpr ⟨tp3 _ (List.mem_of_getElem? (i := 10) rfl), List.forall_mem_cons.mpr ⟨tb5 _ (List.mem_of_getElem? (i := 32) rfl), List.forall_mem_cons.mpr ⟨tb5 _ (List.mem_of_getElem? (i := 33) rfl), List.forall_mem_cons.mpr ⟨tb5 _ (List.mem_of_getElem? (i := 35) rfl), List.forall_mem_cons.mpr ⟨tp3 _ (List.mem_of_getElem? (i := 11) rfl), List.forall_mem_cons.mpr ⟨tb5 _ (List.mem_of_getElem? (i := 36) rfl), List.forall_mem_cons.mpr ⟨tb5 _ (List.mem_of_getElem? (i := 37) rfl), List.forall_mem_cons.mpr ⟨tb5 _ (List.mem_of_getElem? (i := 39) rfl), fun _ h => absurd h List.not_mem_nil⟩⟩⟩⟩⟩⟩⟩⟩⟩⟩⟩⟩⟩⟩⟩⟩⟩⟩⟩⟩⟩⟩⟩⟩
def AC24 : List Cond := [.selects RX6 yX6_highest yX6_highest, .code yX6_highest cX6_highest 3 (some .int), .methodLink RX6 168 yX6_team, .instanceMethod yX6_team, .selects RX6 yX6_team yX6_team, .code yX6_team cX6_team 2 (some .int), .methodLink RX6 171 yX6_number, .instanceMethod yX6_number, .selects RX6 yX6_number yX6_number, .code yX6_number cX6_number 2 (some .int), .methodLink RX6 174 yX6_landing, .instanceMethod yX6_landing, .selects RX6 yX6_landing yX6_landing, .code yX6_landing cX6_landing 4 (some .int), .methodLink RX6 177 yX6_putAside, .instanceMethod yX6_putAside, .selects RX6 yX6_putAside yX6_putAside, .code yX6_putAside cX6_putAside 2 none, .methodLink RX6 180 yX6_takeBack, .instanceMethod yX6_takeBack, .selects RX6 yX6_takeBack yX6_takeBack, .code yX6_takeBack cX6_takeBack 2 none, .methodLink RX6 183 yX6_brings, .instanceMethod yX6_brings]
theorem AC24_in : ∀ w ∈ AC24, w ∈ lw_tbl := List.forall_mem_cons.mpr ⟨tp3 _ (List.mem_of_getElem? (i := 12) rfl), List.forall_mem_cons.mpr ⟨tb5 _ (List.mem_of_getElem? (i := 40) rfl), List.forall_mem_cons.mpr ⟨tb5 _ (List.mem_of_getElem? (i := 41) rfl), List.forall_mem_cons.mpr ⟨tb5 _ (List.mem_of_getElem? (i := 43) rfl), List.forall_mem_cons.mpr ⟨tp3 _ (List.mem_of_getElem? (i := 13) rfl), List.forall_mem_cons.mpr ⟨tb5 _ (List.mem_of_getElem? (i := 44) rfl), List.forall_mem_cons.mpr ⟨tb5 _ (List.mem_of_getElem? (i := 25) rfl), List.forall_mem_cons.mpr ⟨tb5 _ (List.mem_of_getElem? (i := 27) rfl), List.forall_mem_cons.mpr ⟨tp3 _ (List.mem_of_getElem? (i := 9) rfl), List.forall_mem_cons.mpr ⟨tb5 _ (List.mem_of_getElem? (i := 28) rfl), List.forall_mem_cons.mpr ⟨tb5 _ (List.mem_of_getElem? (i := 53) rfl), List.forall_mem_cons.mpr ⟨tb5 _ (List.mem_of_getElem? (i := 55) rfl), List.forall_mem_cons.mpr ⟨tp3 _ (List.mem_of_getElem? (i := 14) rfl), List.forall_mem_cons.mpr ⟨tb5 _ (List.mem_of_getElem? (i := 56) rfl), List.forall_mem_cons.mpr ⟨tb5 _ (List.mem_of_getElem? (i := 65) rfl), List.forall_mem_cons.mpr ⟨tb5 _ (List.mem_of_getElem? (i := 67) rfl), List.forall_mem_cons.mpr ⟨tp4 _ (List.mem_of_getElem? (i := 0) rfl), List.forall_mem_cons.mpr ⟨tb5 _ (List.mem_of_getElem? (i := 68) rfl), List.forall_mem_cons.mpr ⟨tb5 _ (List.mem_of_getElem? (i := 69) rfl), List.forall_mem_cons.mpr ⟨tb5 _ (List.mem_of_getElem? (i := 71) rfl), List.forall_mem_cons.mpr ⟨tp4 _ (List.mem_of_getElem? (i := 1) rfl), List.forall_mem_cons.mpr ⟨tb5 _ (List.mem_of_getElem? (i := 72) rfl), List.forall_mem_cons.mpr ⟨tb5 _ (List.mem_of_getElem? (i := 61) rfl), List.forall_mem_cons.mpr ⟨tb5 _ (List.mem_of_getElem? (i := 63) rfl), fun _ h => absurd h List.not_mem_nil⟩⟩⟩⟩⟩⟩⟩⟩⟩⟩⟩⟩⟩⟩⟩⟩⟩⟩⟩⟩⟩⟩⟩⟩
def AC25 : List Cond := [.selects RX6 yX6_brings yX6_brings, .code yX6_brings cX6_brings 8 (some .int), .methodLink RX6 187 yX6_bestFlight, .instanceMethod yX6_bestFlight, .selects RX6 yX6_bestFlight yX6_bestFlight, .code yX6_bestFlight cX6_bestFlight 8 (some .int), .methodLink RX6 190 yX6_fewest, .instanceMethod yX6_fewest, .selects RX6 yX6_fewest yX6_fewest, .code yX6_fewest cX6_fewest 7 (some .int), .constantDouble RX6 193 (4625196817309499392), .constantLong RX6 195 (31), .methodLink RJxe99ae 134 ⟨"java/lang/Double", "doubleToRawLongBits", "(D)J"⟩, .native ⟨"java/lang/Double", "doubleToRawLongBits", "(D)J"⟩, .static ⟨"java/lang/Double", "doubleToRawLongBits", "(D)J"⟩, .initialized "java/lang/Double", .constantLong RJxe99ae 137 (9221120237041090560), .methodLink RJxe99ae 122 yJxe99ae_isNaN_b9ae7, .static yJxe99ae_isNaN_b9ae7, .initialized RJxe99ae, .code yJxe99ae_isNaN_b9ae7 cJxe99ae_isNaN_b9ae7 2 (some .boolean), .methodLink RJxf58ca 74 ⟨"java/lang/Float", "floatToRawIntBits", "(F)I"⟩, .native ⟨"java/lang/Float", "floatToRawIntBits", "(F)I"⟩, .static ⟨"java/lang/Float", "floatToRawIntBits", "(F)I"⟩]
theorem AC25_in : ∀ w ∈ AC25, w ∈ lw_tbl := List.forall_mem_cons.mpr ⟨tp3 _ (List.mem_of_getElem? (i := 15) rfl), List.forall_mem_cons.mpr ⟨tb5 _ (List.mem_of_getElem? (i := 64) rfl), List.forall_mem_cons.mpr ⟨tb5 _ (List.mem_of_getElem? (i := 77) rfl), List.forall_mem_cons.mpr ⟨tb5 _ (List.mem_of_getElem? (i := 79) rfl), List.forall_mem_cons.mpr ⟨tp4 _ (List.mem_of_getElem? (i := 2) rfl), List.forall_mem_cons.mpr ⟨tb5 _ (List.mem_of_getElem? (i := 80) rfl), List.forall_mem_cons.mpr ⟨tb5 _ (List.mem_of_getElem? (i := 85) rfl), List.forall_mem_cons.mpr ⟨tb5 _ (List.mem_of_getElem? (i := 87) rfl), List.forall_mem_cons.mpr ⟨tp4 _ (List.mem_of_getElem? (i := 3) rfl), List.forall_mem_cons.mpr ⟨tb5 _ (List.mem_of_getElem? (i := 88) rfl), List.forall_mem_cons.mpr ⟨tb5 _ (List.mem_of_getElem? (i := 93) rfl), List.forall_mem_cons.mpr ⟨tb5 _ (List.mem_of_getElem? (i := 103) rfl), List.forall_mem_cons.mpr ⟨tb5 _ (List.mem_of_getElem? (i := 119) rfl), List.forall_mem_cons.mpr ⟨tb5 _ (List.mem_of_getElem? (i := 121) rfl), List.forall_mem_cons.mpr ⟨tb5 _ (List.mem_of_getElem? (i := 120) rfl), List.forall_mem_cons.mpr ⟨tb1 _ (List.mem_of_getElem? (i := 18) rfl), List.forall_mem_cons.mpr ⟨tb5 _ (List.mem_of_getElem? (i := 122) rfl), List.forall_mem_cons.mpr ⟨tb5 _ (List.mem_of_getElem? (i := 116) rfl), List.forall_mem_cons.mpr ⟨tb5 _ (List.mem_of_getElem? (i := 117) rfl), List.forall_mem_cons.mpr ⟨tb1 _ (List.mem_of_getElem? (i := 18) rfl), List.forall_mem_cons.mpr ⟨tb5 _ (List.mem_of_getElem? (i := 118) rfl), List.forall_mem_cons.mpr ⟨tb5 _ (List.mem_of_getElem? (i := 130) rfl), List.forall_mem_cons.mpr ⟨tb5 _ (List.mem_of_getElem? (i := 132) rfl), List.forall_mem_cons.mpr ⟨tb5 _ (List.mem_of_getElem? (i := 131) rfl), fun _ h => absurd h List.not_mem_nil⟩⟩⟩⟩⟩⟩⟩⟩⟩⟩⟩⟩⟩⟩⟩⟩⟩⟩⟩⟩⟩⟩⟩⟩
def AC26 : List Cond := [.initialized "java/lang/Float", .constant RJxf58ca 77 (2143289344), .methodLink RJxf58ca 59 yJxf58ca_isNaN_12338, .static yJxf58ca_isNaN_12338, .initialized RJxf58ca, .code yJxf58ca_isNaN_12338 cJxf58ca_isNaN_12338 1 (some .boolean), .constantLong RX6 197 (3823), .methodLink RX6 199 yX6_ofWinks, .instanceMethod yX6_ofWinks, .selects RX6 yX6_ofWinks yX6_ofWinks, .code yX6_ofWinks cX6_ofWinks 7 (some .long), .methodLink RX6 203 yX6_ofCells, .instanceMethod yX6_ofCells, .selects RX6 yX6_ofCells yX6_ofCells, .code yX6_ofCells cX6_ofCells 7 (some .long), .methodLink RX6 206 yX6_pottedShare, .instanceMethod yX6_pottedShare, .selects RX6 yX6_pottedShare yX6_pottedShare, .code yX6_pottedShare cX6_pottedShare 1 (some .double), .methodLink RX6 210 yJxe99ae_doubleToLongBits_ccdee, .static yJxe99ae_doubleToLongBits_ccdee, .code yJxe99ae_doubleToLongBits_ccdee cJxe99ae_doubleToLongBits_ccdee 2 (some .long), .methodLink RX6 216 yX6_meanPile, .instanceMethod yX6_meanPile]
theorem AC26_in : ∀ w ∈ AC26, w ∈ lw_tbl := List.forall_mem_cons.mpr ⟨tb1 _ (List.mem_of_getElem? (i := 19) rfl), List.forall_mem_cons.mpr ⟨tb5 _ (List.mem_of_getElem? (i := 133) rfl), List.forall_mem_cons.mpr ⟨tb5 _ (List.mem_of_getElem? (i := 127) rfl), List.forall_mem_cons.mpr ⟨tb5 _ (List.mem_of_getElem? (i := 128) rfl), List.forall_mem_cons.mpr ⟨tb1 _ (List.mem_of_getElem? (i := 19) rfl), List.forall_mem_cons.mpr ⟨tb5 _ (List.mem_of_getElem? (i := 129) rfl), List.forall_mem_cons.mpr ⟨tb5 _ (List.mem_of_getElem? (i := 102) rfl), List.forall_mem_cons.mpr ⟨tb5 _ (List.mem_of_getElem? (i := 104) rfl), List.forall_mem_cons.mpr ⟨tb5 _ (List.mem_of_getElem? (i := 106) rfl), List.forall_mem_cons.mpr ⟨tp4 _ (List.mem_of_getElem? (i := 4) rfl), List.forall_mem_cons.mpr ⟨tb5 _ (List.mem_of_getElem? (i := 107) rfl), List.forall_mem_cons.mpr ⟨tb5 _ (List.mem_of_getElem? (i := 108) rfl), List.forall_mem_cons.mpr ⟨tb5 _ (List.mem_of_getElem? (i := 110) rfl), List.forall_mem_cons.mpr ⟨tp4 _ (List.mem_of_getElem? (i := 5) rfl), List.forall_mem_cons.mpr ⟨tb5 _ (List.mem_of_getElem? (i := 111) rfl), List.forall_mem_cons.mpr ⟨tb5 _ (List.mem_of_getElem? (i := 112) rfl), List.forall_mem_cons.mpr ⟨tb5 _ (List.mem_of_getElem? (i := 90) rfl), List.forall_mem_cons.mpr ⟨tb5 _ (List.mem_of_getElem? (i := 91) rfl), List.forall_mem_cons.mpr ⟨tb5 _ (List.mem_of_getElem? (i := 92) rfl), List.forall_mem_cons.mpr ⟨tb5 _ (List.mem_of_getElem? (i := 113) rfl), List.forall_mem_cons.mpr ⟨tb5 _ (List.mem_of_getElem? (i := 114) rfl), List.forall_mem_cons.mpr ⟨tb5 _ (List.mem_of_getElem? (i := 115) rfl), List.forall_mem_cons.mpr ⟨tb5 _ (List.mem_of_getElem? (i := 123) rfl), List.forall_mem_cons.mpr ⟨tb5 _ (List.mem_of_getElem? (i := 95) rfl), fun _ h => absurd h List.not_mem_nil⟩⟩⟩⟩⟩⟩⟩⟩⟩⟩⟩⟩⟩⟩⟩⟩⟩⟩⟩⟩⟩⟩⟩⟩
def AC27 : List Cond := [.selects RX6 yX6_meanPile yX6_meanPile, .code yX6_meanPile cX6_meanPile 1 (some .float), .methodLink RX6 220 yJxf58ca_floatToIntBits_5c35a, .static yJxf58ca_floatToIntBits_5c35a, .code yJxf58ca_floatToIntBits_5c35a cJxf58ca_floatToIntBits_5c35a 1 (some .int), .instanceMethod yX5_fly, .selects RX5 yX5_fly yX5_fly, .code yX5_fly cX5_fly 4 (some .int), .instanceMethod yX5_lift, .selects RX5 yX5_lift yX5_lift, .code yX5_lift cX5_lift 5 (some .int), .instanceMethod yX5_set, .selects RX5 yX5_set yX5_set, .code yX5_set cX5_set 3 (some .int), .instanceMethod yX5_put, .selects RX5 yX5_put yX5_put, .code yX5_put cX5_put 5 (some .int), .instanceMethod yX5_append, .selects RX5 yX5_append yX5_append, .code yX5_append cX5_append 2 (some .int), .instanceMethod yX5_play, .selects RX5 yX5_play yX5_play, .code yX5_play cX5_play 2 (some .int), .instanceMethod yX5_goBack]
theorem AC27_in : ∀ w ∈ AC27, w ∈ lw_tbl := List.forall_mem_cons.mpr ⟨tb5 _ (List.mem_of_getElem? (i := 96) rfl), List.forall_mem_cons.mpr ⟨tb5 _ (List.mem_of_getElem? (i := 97) rfl), List.forall_mem_cons.mpr ⟨tb5 _ (List.mem_of_getElem? (i := 124) rfl), List.forall_mem_cons.mpr ⟨tb5 _ (List.mem_of_getElem? (i := 125) rfl), List.forall_mem_cons.mpr ⟨tb5 _ (List.mem_of_getElem? (i := 126) rfl), List.forall_mem_cons.mpr ⟨tb3 _ (List.mem_of_getElem? (i := 87) rfl), List.forall_mem_cons.mpr ⟨tb3 _ (List.mem_of_getElem? (i := 88) rfl), List.forall_mem_cons.mpr ⟨tb3 _ (List.mem_of_getElem? (i := 89) rfl), List.forall_mem_cons.mpr ⟨tb3 _ (List.mem_of_getElem? (i := 132) rfl), List.forall_mem_cons.mpr ⟨tb3 _ (List.mem_of_getElem? (i := 133) rfl), List.forall_mem_cons.mpr ⟨tb3 _ (List.mem_of_getElem? (i := 134) rfl), List.forall_mem_cons.mpr ⟨tb3 _ (List.mem_of_getElem? (i := 162) rfl), List.forall_mem_cons.mpr ⟨tb3 _ (List.mem_of_getElem? (i := 163) rfl), List.forall_mem_cons.mpr ⟨tb3 _ (List.mem_of_getElem? (i := 164) rfl), List.forall_mem_cons.mpr ⟨tb3 _ (List.mem_of_getElem? (i := 170) rfl), List.forall_mem_cons.mpr ⟨tb3 _ (List.mem_of_getElem? (i := 171) rfl), List.forall_mem_cons.mpr ⟨tb3 _ (List.mem_of_getElem? (i := 172) rfl), List.forall_mem_cons.mpr ⟨tb3 _ (List.mem_of_getElem? (i := 178) rfl), List.forall_mem_cons.mpr ⟨tb3 _ (List.mem_of_getElem? (i := 179) rfl), List.forall_mem_cons.mpr ⟨tb3 _ (List.mem_of_getElem? (i := 180) rfl), List.forall_mem_cons.mpr ⟨tb3 _ (List.mem_of_getElem? (i := 191) rfl), List.forall_mem_cons.mpr ⟨tb3 _ (List.mem_of_getElem? (i := 192) rfl), List.forall_mem_cons.mpr ⟨tb3 _ (List.mem_of_getElem? (i := 193) rfl), List.forall_mem_cons.mpr ⟨tb3 _ (List.mem_of_getElem? (i := 215) rfl), fun _ h => absurd h List.not_mem_nil⟩⟩⟩⟩⟩⟩⟩⟩⟩⟩⟩⟩⟩⟩⟩⟩⟩⟩⟩⟩⟩⟩⟩⟩
def AC28 : List Cond := [.selects RX5 yX5_goBack yX5_goBack, .code yX5_goBack cX5_goBack 1 (some .int), .instanceMethod yX5_undo, .selects RX5 yX5_undo yX5_undo, .code yX5_undo cX5_undo 1 (some .int), .instanceMethod yX5_why, .selects RX5 yX5_why yX5_why, .code yX5_why cX5_why 5 (some .int), .instanceMethod yX5_ifFlown, .selects RX5 yX5_ifFlown yX5_ifFlown, .code yX5_ifFlown cX5_ifFlown 5 (some .int), .instantiable RX5 7, .instantiable RX6 12, .arrayClass .long, .instanceMethod yX5_init, .code yX5_init cX5_init 1 none, .instanceMethod yX6_init, .code yX6_init cX6_init 2 none, .instanceMethod yX6_fly, .selects RX6 yX6_fly yX6_fly, .code yX6_fly cX6_fly 4 (some .int), .instanceMethod yX6_thrown, .selects RX6 yX6_thrown yX6_thrown, .code yX6_thrown cX6_thrown 1 (some .int)]
theorem AC28_in : ∀ w ∈ AC28, w ∈ lw_tbl := List.forall_mem_cons.mpr ⟨tb3 _ (List.mem_of_getElem? (i := 216) rfl), List.forall_mem_cons.mpr ⟨tb3 _ (List.mem_of_getElem? (i := 217) rfl), List.forall_mem_cons.mpr ⟨tb3 _ (List.mem_of_getElem? (i := 223) rfl), List.forall_mem_cons.mpr ⟨tb3 _ (List.mem_of_getElem? (i := 224) rfl), List.forall_mem_cons.mpr ⟨tb3 _ (List.mem_of_getElem? (i := 225) rfl), List.forall_mem_cons.mpr ⟨tb4 _ (List.mem_of_getElem? (i := 11) rfl), List.forall_mem_cons.mpr ⟨tb4 _ (List.mem_of_getElem? (i := 12) rfl), List.forall_mem_cons.mpr ⟨tb4 _ (List.mem_of_getElem? (i := 13) rfl), List.forall_mem_cons.mpr ⟨tb4 _ (List.mem_of_getElem? (i := 22) rfl), List.forall_mem_cons.mpr ⟨tb4 _ (List.mem_of_getElem? (i := 23) rfl), List.forall_mem_cons.mpr ⟨tb4 _ (List.mem_of_getElem? (i := 24) rfl), List.forall_mem_cons.mpr ⟨tb1 _ (List.mem_of_getElem? (i := 21) rfl), List.forall_mem_cons.mpr ⟨tb4 _ (List.mem_of_getElem? (i := 31) rfl), List.forall_mem_cons.mpr ⟨tb5 _ (List.mem_of_getElem? (i := 134) rfl), List.forall_mem_cons.mpr ⟨tb1 _ (List.mem_of_getElem? (i := 23) rfl), List.forall_mem_cons.mpr ⟨tb1 _ (List.mem_of_getElem? (i := 24) rfl), List.forall_mem_cons.mpr ⟨tb4 _ (List.mem_of_getElem? (i := 33) rfl), List.forall_mem_cons.mpr ⟨tb4 _ (List.mem_of_getElem? (i := 34) rfl), List.forall_mem_cons.mpr ⟨tb4 _ (List.mem_of_getElem? (i := 81) rfl), List.forall_mem_cons.mpr ⟨tb4 _ (List.mem_of_getElem? (i := 82) rfl), List.forall_mem_cons.mpr ⟨tb4 _ (List.mem_of_getElem? (i := 83) rfl), List.forall_mem_cons.mpr ⟨tb4 _ (List.mem_of_getElem? (i := 77) rfl), List.forall_mem_cons.mpr ⟨tb4 _ (List.mem_of_getElem? (i := 78) rfl), List.forall_mem_cons.mpr ⟨tb4 _ (List.mem_of_getElem? (i := 79) rfl), fun _ h => absurd h List.not_mem_nil⟩⟩⟩⟩⟩⟩⟩⟩⟩⟩⟩⟩⟩⟩⟩⟩⟩⟩⟩⟩⟩⟩⟩⟩
def AC29 : List Cond := [.instanceMethod yX6_lift, .selects RX6 yX6_lift yX6_lift, .code yX6_lift cX6_lift 5 (some .int), .instanceMethod yX6_set, .selects RX6 yX6_set yX6_set, .code yX6_set cX6_set 3 (some .int), .instanceMethod yX6_put, .selects RX6 yX6_put yX6_put, .code yX6_put cX6_put 4 (some .int), .instanceMethod yX6_append, .selects RX6 yX6_append yX6_append, .code yX6_append cX6_append 2 (some .int), .instanceMethod yX5_clearBuffer, .selects RX5 yX5_clearBuffer yX5_clearBuffer, .code yX5_clearBuffer cX5_clearBuffer 2 (some .int), .instanceMethod yX6_clearBuffer, .selects RX6 yX6_clearBuffer yX6_clearBuffer, .code yX6_clearBuffer cX6_clearBuffer 2 (some .int), .instanceMethod yX5_firstError, .selects RX5 yX5_firstError yX5_firstError, .code yX5_firstError cX5_firstError 1 (some .int), .instanceMethod yX6_firstError, .selects RX6 yX6_firstError yX6_firstError, .code yX6_firstError cX6_firstError 1 (some .int)]
theorem AC29_in : ∀ w ∈ AC29, w ∈ lw_tbl := List.forall_mem_cons.mpr ⟨tb4 _ (List.mem_of_getElem? (i := 147) rfl), List.forall_mem_cons.mpr ⟨tb4 _ (List.mem_of_getElem? (i := 148) rfl), List.forall_mem_cons.mpr ⟨tb4 _ (List.mem_of_getElem? (i := 149) rfl), List.forall_mem_cons.mpr ⟨tb4 _ (List.mem_of_getElem? (i := 166) rfl), List.forall_mem_cons.mpr ⟨tb4 _ (List.mem_of_getElem? (i := 167) rfl), List.forall_mem_cons.mpr ⟨tb4 _ (List.mem_of_getElem? (i := 168) rfl), List.forall_mem_cons.mpr ⟨tb4 _ (List.mem_of_getElem? (i := 170) rfl), List.forall_mem_cons.mpr ⟨tb4 _ (List.mem_of_getElem? (i := 171) rfl), List.forall_mem_cons.mpr ⟨tb4 _ (List.mem_of_getElem? (i := 172) rfl), List.forall_mem_cons.mpr ⟨tb4 _ (List.mem_of_getElem? (i := 174) rfl), List.forall_mem_cons.mpr ⟨tb4 _ (List.mem_of_getElem? (i := 175) rfl), List.forall_mem_cons.mpr ⟨tb4 _ (List.mem_of_getElem? (i := 176) rfl), List.forall_mem_cons.mpr ⟨tb1 _ (List.mem_of_getElem? (i := 166) rfl), List.forall_mem_cons.mpr ⟨tb1 _ (List.mem_of_getElem? (i := 167) rfl), List.forall_mem_cons.mpr ⟨tb1 _ (List.mem_of_getElem? (i := 168) rfl), List.forall_mem_cons.mpr ⟨tb4 _ (List.mem_of_getElem? (i := 178) rfl), List.forall_mem_cons.mpr ⟨tb4 _ (List.mem_of_getElem? (i := 179) rfl), List.forall_mem_cons.mpr ⟨tb4 _ (List.mem_of_getElem? (i := 180) rfl), List.forall_mem_cons.mpr ⟨tb1 _ (List.mem_of_getElem? (i := 170) rfl), List.forall_mem_cons.mpr ⟨tb1 _ (List.mem_of_getElem? (i := 171) rfl), List.forall_mem_cons.mpr ⟨tb1 _ (List.mem_of_getElem? (i := 172) rfl), List.forall_mem_cons.mpr ⟨tb4 _ (List.mem_of_getElem? (i := 182) rfl), List.forall_mem_cons.mpr ⟨tb4 _ (List.mem_of_getElem? (i := 183) rfl), List.forall_mem_cons.mpr ⟨tb4 _ (List.mem_of_getElem? (i := 184) rfl), fun _ h => absurd h List.not_mem_nil⟩⟩⟩⟩⟩⟩⟩⟩⟩⟩⟩⟩⟩⟩⟩⟩⟩⟩⟩⟩⟩⟩⟩⟩
def AC30 : List Cond := [.instanceMethod yX6_play, .selects RX6 yX6_play yX6_play, .code yX6_play cX6_play 3 (some .int), .instanceMethod yX5_keep, .selects RX5 yX5_keep yX5_keep, .code yX5_keep cX5_keep 1 (some .int), .instanceMethod yX6_keep, .selects RX6 yX6_keep yX6_keep, .code yX6_keep cX6_keep 2 (some .int), .instanceMethod yX6_goBack, .selects RX6 yX6_goBack yX6_goBack, .code yX6_goBack cX6_goBack 2 (some .int), .instanceMethod yX6_undo, .selects RX6 yX6_undo yX6_undo, .code yX6_undo cX6_undo 2 (some .int), .instanceMethod yX6_wink, .selects RX6 yX6_wink yX6_wink, .code yX6_wink cX6_wink 3 (some .int), .instanceMethod yX6_pile, .selects RX6 yX6_pile yX6_pile, .code yX6_pile cX6_pile 4 (some .int), .instanceMethod yX6_colour, .selects RX6 yX6_colour yX6_colour, .code yX6_colour cX6_colour 3 (some .int)]
theorem AC30_in : ∀ w ∈ AC30, w ∈ lw_tbl := List.forall_mem_cons.mpr ⟨tb4 _ (List.mem_of_getElem? (i := 198) rfl), List.forall_mem_cons.mpr ⟨tb4 _ (List.mem_of_getElem? (i := 199) rfl), List.forall_mem_cons.mpr ⟨tb4 _ (List.mem_of_getElem? (i := 200) rfl), List.forall_mem_cons.mpr ⟨tb1 _ (List.mem_of_getElem? (i := 188) rfl), List.forall_mem_cons.mpr ⟨tb1 _ (List.mem_of_getElem? (i := 189) rfl), List.forall_mem_cons.mpr ⟨tb1 _ (List.mem_of_getElem? (i := 190) rfl), List.forall_mem_cons.mpr ⟨tb4 _ (List.mem_of_getElem? (i := 206) rfl), List.forall_mem_cons.mpr ⟨tb4 _ (List.mem_of_getElem? (i := 207) rfl), List.forall_mem_cons.mpr ⟨tb4 _ (List.mem_of_getElem? (i := 208) rfl), List.forall_mem_cons.mpr ⟨tb4 _ (List.mem_of_getElem? (i := 214) rfl), List.forall_mem_cons.mpr ⟨tb4 _ (List.mem_of_getElem? (i := 215) rfl), List.forall_mem_cons.mpr ⟨tb4 _ (List.mem_of_getElem? (i := 216) rfl), List.forall_mem_cons.mpr ⟨tb4 _ (List.mem_of_getElem? (i := 218) rfl), List.forall_mem_cons.mpr ⟨tb4 _ (List.mem_of_getElem? (i := 219) rfl), List.forall_mem_cons.mpr ⟨tb4 _ (List.mem_of_getElem? (i := 220) rfl), List.forall_mem_cons.mpr ⟨tb4 _ (List.mem_of_getElem? (i := 222) rfl), List.forall_mem_cons.mpr ⟨tb4 _ (List.mem_of_getElem? (i := 223) rfl), List.forall_mem_cons.mpr ⟨tb4 _ (List.mem_of_getElem? (i := 224) rfl), List.forall_mem_cons.mpr ⟨tb4 _ (List.mem_of_getElem? (i := 230) rfl), List.forall_mem_cons.mpr ⟨tb4 _ (List.mem_of_getElem? (i := 231) rfl), List.forall_mem_cons.mpr ⟨tb4 _ (List.mem_of_getElem? (i := 232) rfl), List.forall_mem_cons.mpr ⟨tb5 _ (List.mem_of_getElem? (i := 2) rfl), List.forall_mem_cons.mpr ⟨tb5 _ (List.mem_of_getElem? (i := 3) rfl), List.forall_mem_cons.mpr ⟨tb5 _ (List.mem_of_getElem? (i := 4) rfl), fun _ h => absurd h List.not_mem_nil⟩⟩⟩⟩⟩⟩⟩⟩⟩⟩⟩⟩⟩⟩⟩⟩⟩⟩⟩⟩⟩⟩⟩⟩
def AC31 : List Cond := [.instanceMethod yX6_count, .selects RX6 yX6_count yX6_count, .code yX6_count cX6_count 2 (some .int), .instanceMethod yX6_why, .selects RX6 yX6_why yX6_why, .code yX6_why cX6_why 5 (some .int), .instanceMethod yX6_lands, .selects RX6 yX6_lands yX6_lands, .code yX6_lands cX6_lands 4 (some .int), .instanceMethod yX6_ifFlown, .selects RX6 yX6_ifFlown yX6_ifFlown, .code yX6_ifFlown cX6_ifFlown 5 (some .int), .instanceMethod yX6_best, .selects RX6 yX6_best yX6_best, .code yX6_best cX6_best 1 (some .int), .instanceMethod yX6_flightsTo, .selects RX6 yX6_flightsTo yX6_flightsTo, .code yX6_flightsTo cX6_flightsTo 2 (some .int), .instanceMethod yX5_digest, .selects RX5 yX5_digest yX5_digest, .code yX5_digest cX5_digest 4 (some .long), .instanceMethod yX6_digest, .selects RX6 yX6_digest yX6_digest, .code yX6_digest cX6_digest 4 (some .long)]
theorem AC31_in : ∀ w ∈ AC31, w ∈ lw_tbl := List.forall_mem_cons.mpr ⟨tb5 _ (List.mem_of_getElem? (i := 22) rfl), List.forall_mem_cons.mpr ⟨tb5 _ (List.mem_of_getElem? (i := 23) rfl), List.forall_mem_cons.mpr ⟨tb5 _ (List.mem_of_getElem? (i := 24) rfl), List.forall_mem_cons.mpr ⟨tb5 _ (List.mem_of_getElem? (i := 46) rfl), List.forall_mem_cons.mpr ⟨tb5 _ (List.mem_of_getElem? (i := 47) rfl), List.forall_mem_cons.mpr ⟨tb5 _ (List.mem_of_getElem? (i := 48) rfl), List.forall_mem_cons.mpr ⟨tb5 _ (List.mem_of_getElem? (i := 50) rfl), List.forall_mem_cons.mpr ⟨tb5 _ (List.mem_of_getElem? (i := 51) rfl), List.forall_mem_cons.mpr ⟨tb5 _ (List.mem_of_getElem? (i := 52) rfl), List.forall_mem_cons.mpr ⟨tb5 _ (List.mem_of_getElem? (i := 58) rfl), List.forall_mem_cons.mpr ⟨tb5 _ (List.mem_of_getElem? (i := 59) rfl), List.forall_mem_cons.mpr ⟨tb5 _ (List.mem_of_getElem? (i := 60) rfl), List.forall_mem_cons.mpr ⟨tb5 _ (List.mem_of_getElem? (i := 74) rfl), List.forall_mem_cons.mpr ⟨tb5 _ (List.mem_of_getElem? (i := 75) rfl), List.forall_mem_cons.mpr ⟨tb5 _ (List.mem_of_getElem? (i := 76) rfl), List.forall_mem_cons.mpr ⟨tb5 _ (List.mem_of_getElem? (i := 82) rfl), List.forall_mem_cons.mpr ⟨tb5 _ (List.mem_of_getElem? (i := 83) rfl), List.forall_mem_cons.mpr ⟨tb5 _ (List.mem_of_getElem? (i := 84) rfl), List.forall_mem_cons.mpr ⟨tb2 _ (List.mem_of_getElem? (i := 86) rfl), List.forall_mem_cons.mpr ⟨tb2 _ (List.mem_of_getElem? (i := 87) rfl), List.forall_mem_cons.mpr ⟨tb2 _ (List.mem_of_getElem? (i := 88) rfl), List.forall_mem_cons.mpr ⟨tb5 _ (List.mem_of_getElem? (i := 99) rfl), List.forall_mem_cons.mpr ⟨tb5 _ (List.mem_of_getElem? (i := 100) rfl), List.forall_mem_cons.mpr ⟨tb5 _ (List.mem_of_getElem? (i := 101) rfl), fun _ h => absurd h List.not_mem_nil⟩⟩⟩⟩⟩⟩⟩⟩⟩⟩⟩⟩⟩⟩⟩⟩⟩⟩⟩⟩⟩⟩⟩⟩
theorem clsX0_in : ∀ w ∈ wsX00, w ∈ lw_tbl := by decide +kernel
theorem clsX1_in : ∀ w ∈ wsX10, w ∈ lw_tbl := by decide +kernel
theorem clsX2_in : ∀ w ∈ wsX20, w ∈ lw_tbl := by decide +kernel
theorem clsX3_in : ∀ w ∈ wsX30, w ∈ lw_tbl := by decide +kernel
theorem clsX4_in : ∀ w ∈ wsX40, w ∈ lw_tbl := by decide +kernel
theorem clsX5_in : ∀ w ∈ wsX50, w ∈ lw_tbl := by decide +kernel
theorem clsX6_in : ∀ w ∈ wsX60, w ∈ lw_tbl := by decide +kernel
theorem cV0_in : ∀ w ∈ (vx_atS RX5 67 "java/lang/IllegalStateException" ["java/lang/RuntimeException", "java/lang/Exception"]).filter goodWord, w ∈ lw_tbl := by decide +kernel
theorem cV1_in : ∀ w ∈ (vx_atS RX5 200 "java/lang/IndexOutOfBoundsException" ["java/lang/RuntimeException", "java/lang/Exception"]).filter goodWord, w ∈ lw_tbl := by decide +kernel
theorem cV2_in : ∀ w ∈ (vx_atS RX5 108 "java/lang/IllegalArgumentException" ["java/lang/RuntimeException", "java/lang/Exception"]).filter goodWord, w ∈ lw_tbl := by decide +kernel
def AW : List Cond := AC0 ++ (AC1 ++ (AC2 ++ (AC3 ++ (AC4 ++ (AC5 ++ (AC6 ++ (AC7 ++ (AC8 ++ (AC9 ++ (AC10 ++ (AC11 ++ (AC12 ++ (AC13 ++ (AC14 ++ (AC15 ++ (AC16 ++ (AC17 ++ (AC18 ++ (AC19 ++ (AC20 ++ (AC21 ++ (AC22 ++ (AC23 ++ (AC24 ++ (AC25 ++ (AC26 ++ (AC27 ++ (AC28 ++ (AC29 ++ (AC30 ++ (AC31 ++ (wsX00 ++ (wsX10 ++ (wsX20 ++ (wsX30 ++ (wsX40 ++ (wsX50 ++ (wsX60 ++ ((vx_atS RX5 67 "java/lang/IllegalStateException" ["java/lang/RuntimeException", "java/lang/Exception"]).filter goodWord ++ ((vx_atS RX5 200 "java/lang/IndexOutOfBoundsException" ["java/lang/RuntimeException", "java/lang/Exception"]).filter goodWord ++ ((vx_atS RX5 108 "java/lang/IllegalArgumentException" ["java/lang/RuntimeException", "java/lang/Exception"]).filter goodWord)))))))))))))))))))))))))))))))))))))))))
theorem ac0 : ∀ w ∈ AC0, w ∈ AW := fun _ h => List.mem_append_left _ h
theorem ac1 : ∀ w ∈ AC1, w ∈ AW := fun _ h => List.mem_append_right _ (List.mem_append_left _ h)
theorem ac2 : ∀ w ∈ AC2, w ∈ AW := fun _ h => List.mem_append_right _ (List.mem_append_right _ (List.mem_append_left _ h))
theorem ac3 : ∀ w ∈ AC3, w ∈ AW := fun _ h => List.mem_append_right _ (List.mem_append_right _ (List.mem_append_right _ (List.mem_append_left _ h)))
theorem ac4 : ∀ w ∈ AC4, w ∈ AW := fun _ h => List.mem_append_right _ (List.mem_append_right _ (List.mem_append_right _ (List.mem_append_right _ (List.mem_append_left _ h))))
theorem ac5 : ∀ w ∈ AC5, w ∈ AW := fun _ h => List.mem_append_right _ (List.mem_append_right _ (List.mem_append_right _ (List.mem_append_right _ (List.mem_append_right _ (List.mem_append_left _ h)))))
theorem ac6 : ∀ w ∈ AC6, w ∈ AW := fun _ h => List.mem_append_right _ (List.mem_append_right _ (List.mem_append_right _ (List.mem_append_right _ (List.mem_append_right _ (List.mem_append_right _ (List.mem_append_left _ h))))))
theorem ac7 : ∀ w ∈ AC7, w ∈ AW := fun _ h => List.mem_append_right _ (List.mem_append_right _ (List.mem_append_right _ (List.mem_append_right _ (List.mem_append_right _ (List.mem_append_right _ (List.mem_append_right _ (List.mem_append_left _ h)))))))
theorem ac8 : ∀ w ∈ AC8, w ∈ AW := fun _ h => List.mem_append_right _ (List.mem_append_right _ (List.mem_append_right _ (List.mem_append_right _ (List.mem_append_right _ (List.mem_append_right _ (List.mem_append_right _ (List.mem_append_right _ (List.mem_append_left _ h))))))))
theorem ac9 : ∀ w ∈ AC9, w ∈ AW := fun _ h => List.mem_append_right _ (List.mem_append_right _ (List.mem_append_right _ (List.mem_append_right _ (List.mem_append_right _ (List.mem_append_right _ (List.mem_append_right _ (List.mem_append_right _ (List.mem_append_right _ (List.mem_append_left _ h)))))))))
theorem ac10 : ∀ w ∈ AC10, w ∈ AW := fun _ h => List.mem_append_right _ (List.mem_append_right _ (List.mem_append_right _ (List.mem_append_right _ (List.mem_append_right _ (List.mem_append_right _ (List.mem_append_right _ (List.mem_append_right _ (List.mem_append_right _ (List.mem_append_right _ (List.mem_append_left _ h))))))))))
theorem ac11 : ∀ w ∈ AC11, w ∈ AW := fun _ h => List.mem_append_right _ (List.mem_append_right _ (List.mem_append_right _ (List.mem_append_right _ (List.mem_append_right _ (List.mem_append_right _ (List.mem_append_right _ (List.mem_append_right _ (List.mem_append_right _ (List.mem_append_right _ (List.mem_append_right _ (List.mem_append_left _ h)))))))))))
theorem ac12 : ∀ w ∈ AC12, w ∈ AW := fun _ h => List.mem_append_right _ (List.mem_append_right _ (List.mem_append_right _ (List.mem_append_right _ (List.mem_append_right _ (List.mem_append_right _ (List.mem_append_right _ (List.mem_append_right _ (List.mem_append_right _ (List.mem_append_right _ (List.mem_append_right _ (List.mem_append_right _ (List.mem_append_left _ h))))))))))))
theorem ac13 : ∀ w ∈ AC13, w ∈ AW := fun _ h => List.mem_append_right _ (List.mem_append_right _ (List.mem_append_right _ (List.mem_append_right _ (List.mem_append_right _ (List.mem_append_right _ (List.mem_append_right _ (List.mem_append_right _ (List.mem_append_right _ (List.mem_append_right _ (List.mem_append_right _ (List.mem_append_right _ (List.mem_append_right _ (List.mem_append_left _ h)))))))))))))
theorem ac14 : ∀ w ∈ AC14, w ∈ AW := fun _ h => List.mem_append_right _ (List.mem_append_right _ (List.mem_append_right _ (List.mem_append_right _ (List.mem_append_right _ (List.mem_append_right _ (List.mem_append_right _ (List.mem_append_right _ (List.mem_append_right _ (List.mem_append_right _ (List.mem_append_right _ (List.mem_append_right _ (List.mem_append_right _ (List.mem_append_right _ (List.mem_append_left _ h))))))))))))))
theorem ac15 : ∀ w ∈ AC15, w ∈ AW := fun _ h => List.mem_append_right _ (List.mem_append_right _ (List.mem_append_right _ (List.mem_append_right _ (List.mem_append_right _ (List.mem_append_right _ (List.mem_append_right _ (List.mem_append_right _ (List.mem_append_right _ (List.mem_append_right _ (List.mem_append_right _ (List.mem_append_right _ (List.mem_append_right _ (List.mem_append_right _ (List.mem_append_right _ (List.mem_append_left _ h)))))))))))))))
theorem ac16 : ∀ w ∈ AC16, w ∈ AW := fun _ h => List.mem_append_right _ (List.mem_append_right _ (List.mem_append_right _ (List.mem_append_right _ (List.mem_append_right _ (List.mem_append_right _ (List.mem_append_right _ (List.mem_append_right _ (List.mem_append_right _ (List.mem_append_right _ (List.mem_append_right _ (List.mem_append_right _ (List.mem_append_right _ (List.mem_append_right _ (List.mem_append_right _ (List.mem_append_right _ (List.mem_append_left _ h))))))))))))))))
theorem ac17 : ∀ w ∈ AC17, w ∈ AW := fun _ h => List.mem_append_right _ (List.mem_append_right _ (List.mem_append_right _ (List.mem_append_right _ (List.mem_append_right _ (List.mem_append_right _ (List.mem_append_right _ (List.mem_append_right _ (List.mem_append_right _ (List.mem_append_right _ (List.mem_append_right _ (List.mem_append_right _ (List.mem_append_right _ (List.mem_append_right _ (List.mem_append_right _ (List.mem_append_right _ (List.mem_append_right _ (List.mem_append_left _ h)))))))))))))))))
theorem ac18 : ∀ w ∈ AC18, w ∈ AW := fun _ h => List.mem_append_right _ (List.mem_append_right _ (List.mem_append_right _ (List.mem_append_right _ (List.mem_append_right _ (List.mem_append_right _ (List.mem_append_right _ (List.mem_append_right _ (List.mem_append_right _ (List.mem_append_right _ (List.mem_append_right _ (List.mem_append_right _ (List.mem_append_right _ (List.mem_append_right _ (List.mem_append_right _ (List.mem_append_right _ (List.mem_append_right _ (List.mem_append_right _ (List.mem_append_left _ h))))))))))))))))))
theorem ac19 : ∀ w ∈ AC19, w ∈ AW := fun _ h => List.mem_append_right _ (List.mem_append_right _ (List.mem_append_right _ (List.mem_append_right _ (List.mem_append_right _ (List.mem_append_right _ (List.mem_append_right _ (List.mem_append_right _ (List.mem_append_right _ (List.mem_append_right _ (List.mem_append_right _ (List.mem_append_right _ (List.mem_append_right _ (List.mem_append_right _ (List.mem_append_right _ (List.mem_append_right _ (List.mem_append_right _ (List.mem_append_right _ (List.mem_append_right _ (List.mem_append_left _ h)))))))))))))))))))
theorem ac20 : ∀ w ∈ AC20, w ∈ AW := fun _ h => List.mem_append_right _ (List.mem_append_right _ (List.mem_append_right _ (List.mem_append_right _ (List.mem_append_right _ (List.mem_append_right _ (List.mem_append_right _ (List.mem_append_right _ (List.mem_append_right _ (List.mem_append_right _ (List.mem_append_right _ (List.mem_append_right _ (List.mem_append_right _ (List.mem_append_right _ (List.mem_append_right _ (List.mem_append_right _ (List.mem_append_right _ (List.mem_append_right _ (List.mem_append_right _ (List.mem_append_right _ (List.mem_append_left _ h))))))))))))))))))))
theorem ac21 : ∀ w ∈ AC21, w ∈ AW := fun _ h => List.mem_append_right _ (List.mem_append_right _ (List.mem_append_right _ (List.mem_append_right _ (List.mem_append_right _ (List.mem_append_right _ (List.mem_append_right _ (List.mem_append_right _ (List.mem_append_right _ (List.mem_append_right _ (List.mem_append_right _ (List.mem_append_right _ (List.mem_append_right _ (List.mem_append_right _ (List.mem_append_right _ (List.mem_append_right _ (List.mem_append_right _ (List.mem_append_right _ (List.mem_append_right _ (List.mem_append_right _ (List.mem_append_right _ (List.mem_append_left _ h)))))))))))))))))))))
theorem ac22 : ∀ w ∈ AC22, w ∈ AW := fun _ h => List.mem_append_right _ (List.mem_append_right _ (List.mem_append_right _ (List.mem_append_right _ (List.mem_append_right _ (List.mem_append_right _ (List.mem_append_right _ (List.mem_append_right _ (List.mem_append_right _ (List.mem_append_right _ (List.mem_append_right _ (List.mem_append_right _ (List.mem_append_right _ (List.mem_append_right _ (List.mem_append_right _ (List.mem_append_right _ (List.mem_append_right _ (List.mem_append_right _ (List.mem_append_right _ (List.mem_append_right _ (List.mem_append_right _ (List.mem_append_right _ (List.mem_append_left _ h))))))))))))))))))))))
theorem ac23 : ∀ w ∈ AC23, w ∈ AW := fun _ h => List.mem_append_right _ (List.mem_append_right _ (List.mem_append_right _ (List.mem_append_right _ (List.mem_append_right _ (List.mem_append_right _ (List.mem_append_right _ (List.mem_append_right _ (List.mem_append_right _ (List.mem_append_right _ (List.mem_append_right _ (List.mem_append_right _ (List.mem_append_right _ (List.mem_append_right _ (List.mem_append_right _ (List.mem_append_right _ (List.mem_append_right _ (List.mem_append_right _ (List.mem_append_right _ (List.mem_append_right _ (List.mem_append_right _ (List.mem_append_right _ (List.mem_append_right _ (List.mem_append_left _ h)))))))))))))))))))))))
theorem ac24 : ∀ w ∈ AC24, w ∈ AW := fun _ h => List.mem_append_right _ (List.mem_append_right _ (List.mem_append_right _ (List.mem_append_right _ (List.mem_append_right _ (List.mem_append_right _ (List.mem_append_right _ (List.mem_append_right _ (List.mem_append_right _ (List.mem_append_right _ (List.mem_append_right _ (List.mem_append_right _ (List.mem_append_right _ (List.mem_append_right _ (List.mem_append_right _ (List.mem_append_right _ (List.mem_append_right _ (List.mem_append_right _ (List.mem_append_right _ (List.mem_append_right _ (List.mem_append_right _ (List.mem_append_right _ (List.mem_append_right _ (List.mem_append_right _ (List.mem_append_left _ h))))))))))))))))))))))))
theorem ac25 : ∀ w ∈ AC25, w ∈ AW := fun _ h => List.mem_append_right _ (List.mem_append_right _ (List.mem_append_right _ (List.mem_append_right _ (List.mem_append_right _ (List.mem_append_right _ (List.mem_append_right _ (List.mem_append_right _ (List.mem_append_right _ (List.mem_append_right _ (List.mem_append_right _ (List.mem_append_right _ (List.mem_append_right _ (List.mem_append_right _ (List.mem_append_right _ (List.mem_append_right _ (List.mem_append_right _ (List.mem_append_right _ (List.mem_append_right _ (List.mem_append_right _ (List.mem_append_right _ (List.mem_append_right _ (List.mem_append_right _ (List.mem_append_right _ (List.mem_append_right _ (List.mem_append_left _ h)))))))))))))))))))))))))
theorem ac26 : ∀ w ∈ AC26, w ∈ AW := fun _ h => List.mem_append_right _ (List.mem_append_right _ (List.mem_append_right _ (List.mem_append_right _ (List.mem_append_right _ (List.mem_append_right _ (List.mem_append_right _ (List.mem_append_right _ (List.mem_append_right _ (List.mem_append_right _ (List.mem_append_right _ (List.mem_append_right _ (List.mem_append_right _ (List.mem_append_right _ (List.mem_append_right _ (List.mem_append_right _ (List.mem_append_right _ (List.mem_append_right _ (List.mem_append_right _ (List.mem_append_right _ (List.mem_append_right _ (List.mem_append_right _ (List.mem_append_right _ (List.mem_append_right _ (List.mem_append_right _ (List.mem_append_right _ (List.mem_append_left _ h))))))))))))))))))))))))))
theorem ac27 : ∀ w ∈ AC27, w ∈ AW := fun _ h => List.mem_append_right _ (List.mem_append_right _ (List.mem_append_right _ (List.mem_append_right _ (List.mem_append_right _ (List.mem_append_right _ (List.mem_append_right _ (List.mem_append_right _ (List.mem_append_right _ (List.mem_append_right _ (List.mem_append_right _ (List.mem_append_right _ (List.mem_append_right _ (List.mem_append_right _ (List.mem_append_right _ (List.mem_append_right _ (List.mem_append_right _ (List.mem_append_right _ (List.mem_append_right _ (List.mem_append_right _ (List.mem_append_right _ (List.mem_append_right _ (List.mem_append_right _ (List.mem_append_right _ (List.mem_append_right _ (List.mem_append_right _ (List.mem_append_right _ (List.mem_append_left _ h)))))))))))))))))))))))))))
theorem ac28 : ∀ w ∈ AC28, w ∈ AW := fun _ h => List.mem_append_right _ (List.mem_append_right _ (List.mem_append_right _ (List.mem_append_right _ (List.mem_append_right _ (List.mem_append_right _ (List.mem_append_right _ (List.mem_append_right _ (List.mem_append_right _ (List.mem_append_right _ (List.mem_append_right _ (List.mem_append_right _ (List.mem_append_right _ (List.mem_append_right _ (List.mem_append_right _ (List.mem_append_right _ (List.mem_append_right _ (List.mem_append_right _ (List.mem_append_right _ (List.mem_append_right _ (List.mem_append_right _ (List.mem_append_right _ (List.mem_append_right _ (List.mem_append_right _ (List.mem_append_right _ (List.mem_append_right _ (List.mem_append_right _ (List.mem_append_right _ (List.mem_append_left _ h))))))))))))))))))))))))))))
theorem ac29 : ∀ w ∈ AC29, w ∈ AW := fun _ h => List.mem_append_right _ (List.mem_append_right _ (List.mem_append_right _ (List.mem_append_right _ (List.mem_append_right _ (List.mem_append_right _ (List.mem_append_right _ (List.mem_append_right _ (List.mem_append_right _ (List.mem_append_right _ (List.mem_append_right _ (List.mem_append_right _ (List.mem_append_right _ (List.mem_append_right _ (List.mem_append_right _ (List.mem_append_right _ (List.mem_append_right _ (List.mem_append_right _ (List.mem_append_right _ (List.mem_append_right _ (List.mem_append_right _ (List.mem_append_right _ (List.mem_append_right _ (List.mem_append_right _ (List.mem_append_right _ (List.mem_append_right _ (List.mem_append_right _ (List.mem_append_right _ (List.mem_append_right _ (List.mem_append_left _ h)))))))))))))))))))))))))))))
theorem ac30 : ∀ w ∈ AC30, w ∈ AW := fun _ h => List.mem_append_right _ (List.mem_append_right _ (List.mem_append_right _ (List.mem_append_right _ (List.mem_append_right _ (List.mem_append_right _ (List.mem_append_right _ (List.mem_append_right _ (List.mem_append_right _ (List.mem_append_right _ (List.mem_append_right _ (List.mem_append_right _ (List.mem_append_right _ (List.mem_append_right _ (List.mem_append_right _ (List.mem_append_right _ (List.mem_append_right _ (List.mem_append_right _ (List.mem_append_right _ (List.mem_append_right _ (List.mem_append_right _ (List.mem_append_right _ (List.mem_append_right _ (List.mem_append_right _ (List.mem_append_right _ (List.mem_append_right _ (List.mem_append_right _ (List.mem_append_right _ (List.mem_append_right _ (List.mem_append_right _ (List.mem_append_left _ h))))))))))))))))))))))))))))))
theorem ac31 : ∀ w ∈ AC31, w ∈ AW := fun _ h => List.mem_append_right _ (List.mem_append_right _ (List.mem_append_right _ (List.mem_append_right _ (List.mem_append_right _ (List.mem_append_right _ (List.mem_append_right _ (List.mem_append_right _ (List.mem_append_right _ (List.mem_append_right _ (List.mem_append_right _ (List.mem_append_right _ (List.mem_append_right _ (List.mem_append_right _ (List.mem_append_right _ (List.mem_append_right _ (List.mem_append_right _ (List.mem_append_right _ (List.mem_append_right _ (List.mem_append_right _ (List.mem_append_right _ (List.mem_append_right _ (List.mem_append_right _ (List.mem_append_right _ (List.mem_append_right _ (List.mem_append_right _ (List.mem_append_right _ (List.mem_append_right _ (List.mem_append_right _ (List.mem_append_right _ (List.mem_append_right _ (List.mem_append_left _ h)))))))))))))))))))))))))))))))
theorem acX0 : ∀ w ∈ wsX00, w ∈ AW := fun _ h => List.mem_append_right _ (List.mem_append_right _ (List.mem_append_right _ (List.mem_append_right _ (List.mem_append_right _ (List.mem_append_right _ (List.mem_append_right _ (List.mem_append_right _ (List.mem_append_right _ (List.mem_append_right _ (List.mem_append_right _ (List.mem_append_right _ (List.mem_append_right _ (List.mem_append_right _ (List.mem_append_right _ (List.mem_append_right _ (List.mem_append_right _ (List.mem_append_right _ (List.mem_append_right _ (List.mem_append_right _ (List.mem_append_right _ (List.mem_append_right _ (List.mem_append_right _ (List.mem_append_right _ (List.mem_append_right _ (List.mem_append_right _ (List.mem_append_right _ (List.mem_append_right _ (List.mem_append_right _ (List.mem_append_right _ (List.mem_append_right _ (List.mem_append_right _ (List.mem_append_left _ h))))))))))))))))))))))))))))))))
theorem acX1 : ∀ w ∈ wsX10, w ∈ AW := fun _ h => List.mem_append_right _ (List.mem_append_right _ (List.mem_append_right _ (List.mem_append_right _ (List.mem_append_right _ (List.mem_append_right _ (List.mem_append_right _ (List.mem_append_right _ (List.mem_append_right _ (List.mem_append_right _ (List.mem_append_right _ (List.mem_append_right _ (List.mem_append_right _ (List.mem_append_right _ (List.mem_append_right _ (List.mem_append_right _ (List.mem_append_right _ (List.mem_append_right _ (List.mem_append_right _ (List.mem_append_right _ (List.mem_append_right _ (List.mem_append_right _ (List.mem_append_right _ (List.mem_append_right _ (List.mem_append_right _ (List.mem_append_right _ (List.mem_append_right _ (List.mem_append_right _ (List.mem_append_right _ (List.mem_append_right _ (List.mem_append_right _ (List.mem_append_right _ (List.mem_append_right _ (List.mem_append_left _ h)))))))))))))))))))))))))))))))))
theorem acX2 : ∀ w ∈ wsX20, w ∈ AW := fun _ h => List.mem_append_right _ (List.mem_append_right _ (List.mem_append_right _ (List.mem_append_right _ (List.mem_append_right _ (List.mem_append_right _ (List.mem_append_right _ (List.mem_append_right _ (List.mem_append_right _ (List.mem_append_right _ (List.mem_append_right _ (List.mem_append_right _ (List.mem_append_right _ (List.mem_append_right _ (List.mem_append_right _ (List.mem_append_right _ (List.mem_append_right _ (List.mem_append_right _ (List.mem_append_right _ (List.mem_append_right _ (List.mem_append_right _ (List.mem_append_right _ (List.mem_append_right _ (List.mem_append_right _ (List.mem_append_right _ (List.mem_append_right _ (List.mem_append_right _ (List.mem_append_right _ (List.mem_append_right _ (List.mem_append_right _ (List.mem_append_right _ (List.mem_append_right _ (List.mem_append_right _ (List.mem_append_right _ (List.mem_append_left _ h))))))))))))))))))))))))))))))))))
theorem acX3 : ∀ w ∈ wsX30, w ∈ AW := fun _ h => List.mem_append_right _ (List.mem_append_right _ (List.mem_append_right _ (List.mem_append_right _ (List.mem_append_right _ (List.mem_append_right _ (List.mem_append_right _ (List.mem_append_right _ (List.mem_append_right _ (List.mem_append_right _ (List.mem_append_right _ (List.mem_append_right _ (List.mem_append_right _ (List.mem_append_right _ (List.mem_append_right _ (List.mem_append_right _ (List.mem_append_right _ (List.mem_append_right _ (List.mem_append_right _ (List.mem_append_right _ (List.mem_append_right _ (List.mem_append_right _ (List.mem_append_right _ (List.mem_append_right _ (List.mem_append_right _ (List.mem_append_right _ (List.mem_append_right _ (List.mem_append_right _ (List.mem_append_right _ (List.mem_append_right _ (List.mem_append_right _ (List.mem_append_right _ (List.mem_append_right _ (List.mem_append_right _ (List.mem_append_right _ (List.mem_append_left _ h)))))))))))))))))))))))))))))))))))
theorem acX4 : ∀ w ∈ wsX40, w ∈ AW := fun _ h => List.mem_append_right _ (List.mem_append_right _ (List.mem_append_right _ (List.mem_append_right _ (List.mem_append_right _ (List.mem_append_right _ (List.mem_append_right _ (List.mem_append_right _ (List.mem_append_right _ (List.mem_append_right _ (List.mem_append_right _ (List.mem_append_right _ (List.mem_append_right _ (List.mem_append_right _ (List.mem_append_right _ (List.mem_append_right _ (List.mem_append_right _ (List.mem_append_right _ (List.mem_append_right _ (List.mem_append_right _ (List.mem_append_right _ (List.mem_append_right _ (List.mem_append_right _ (List.mem_append_right _ (List.mem_append_right _ (List.mem_append_right _ (List.mem_append_right _ (List.mem_append_right _ (List.mem_append_right _ (List.mem_append_right _ (List.mem_append_right _ (List.mem_append_right _ (List.mem_append_right _ (List.mem_append_right _ (List.mem_append_right _ (List.mem_append_right _ (List.mem_append_left _ h))))))))))))))))))))))))))))))))))))
theorem acX5 : ∀ w ∈ wsX50, w ∈ AW := fun _ h => List.mem_append_right _ (List.mem_append_right _ (List.mem_append_right _ (List.mem_append_right _ (List.mem_append_right _ (List.mem_append_right _ (List.mem_append_right _ (List.mem_append_right _ (List.mem_append_right _ (List.mem_append_right _ (List.mem_append_right _ (List.mem_append_right _ (List.mem_append_right _ (List.mem_append_right _ (List.mem_append_right _ (List.mem_append_right _ (List.mem_append_right _ (List.mem_append_right _ (List.mem_append_right _ (List.mem_append_right _ (List.mem_append_right _ (List.mem_append_right _ (List.mem_append_right _ (List.mem_append_right _ (List.mem_append_right _ (List.mem_append_right _ (List.mem_append_right _ (List.mem_append_right _ (List.mem_append_right _ (List.mem_append_right _ (List.mem_append_right _ (List.mem_append_right _ (List.mem_append_right _ (List.mem_append_right _ (List.mem_append_right _ (List.mem_append_right _ (List.mem_append_right _ (List.mem_append_left _ h)))))))))))))))))))))))))))))))))))))
theorem acX6 : ∀ w ∈ wsX60, w ∈ AW := fun _ h => List.mem_append_right _ (List.mem_append_right _ (List.mem_append_right _ (List.mem_append_right _ (List.mem_append_right _ (List.mem_append_right _ (List.mem_append_right _ (List.mem_append_right _ (List.mem_append_right _ (List.mem_append_right _ (List.mem_append_right _ (List.mem_append_right _ (List.mem_append_right _ (List.mem_append_right _ (List.mem_append_right _ (List.mem_append_right _ (List.mem_append_right _ (List.mem_append_right _ (List.mem_append_right _ (List.mem_append_right _ (List.mem_append_right _ (List.mem_append_right _ (List.mem_append_right _ (List.mem_append_right _ (List.mem_append_right _ (List.mem_append_right _ (List.mem_append_right _ (List.mem_append_right _ (List.mem_append_right _ (List.mem_append_right _ (List.mem_append_right _ (List.mem_append_right _ (List.mem_append_right _ (List.mem_append_right _ (List.mem_append_right _ (List.mem_append_right _ (List.mem_append_right _ (List.mem_append_right _ (List.mem_append_left _ h))))))))))))))))))))))))))))))))))))))
theorem acV0 : ∀ w ∈ (vx_atS RX5 67 "java/lang/IllegalStateException" ["java/lang/RuntimeException", "java/lang/Exception"]).filter goodWord, w ∈ AW := fun _ h => List.mem_append_right _ (List.mem_append_right _ (List.mem_append_right _ (List.mem_append_right _ (List.mem_append_right _ (List.mem_append_right _ (List.mem_append_right _ (List.mem_append_right _ (List.mem_append_right _ (List.mem_append_right _ (List.mem_append_right _ (List.mem_append_right _ (List.mem_append_right _ (List.mem_append_right _ (List.mem_append_right _ (List.mem_append_right _ (List.mem_append_right _ (List.mem_append_right _ (List.mem_append_right _ (List.mem_append_right _ (List.mem_append_right _ (List.mem_append_right _ (List.mem_append_right _ (List.mem_append_right _ (List.mem_append_right _ (List.mem_append_right _ (List.mem_append_right _ (List.mem_append_right _ (List.mem_append_right _ (List.mem_append_right _ (List.mem_append_right _ (List.mem_append_right _ (List.mem_append_right _ (List.mem_append_right _ (List.mem_append_right _ (List.mem_append_right _ (List.mem_append_right _ (List.mem_append_right _ (List.mem_append_right _ (List.mem_append_left _ h)))))))))))))))))))))))))))))))))))))))
theorem acV1 : ∀ w ∈ (vx_atS RX5 200 "java/lang/IndexOutOfBoundsException" ["java/lang/RuntimeException", "java/lang/Exception"]).filter goodWord, w ∈ AW := fun _ h => List.mem_append_right _ (List.mem_append_right _ (List.mem_append_right _ (List.mem_append_right _ (List.mem_append_right _ (List.mem_append_right _ (List.mem_append_right _ (List.mem_append_right _ (List.mem_append_right _ (List.mem_append_right _ (List.mem_append_right _ (List.mem_append_right _ (List.mem_append_right _ (List.mem_append_right _ (List.mem_append_right _ (List.mem_append_right _ (List.mem_append_right _ (List.mem_append_right _ (List.mem_append_right _ (List.mem_append_right _ (List.mem_append_right _ (List.mem_append_right _ (List.mem_append_right _ (List.mem_append_right _ (List.mem_append_right _ (List.mem_append_right _ (List.mem_append_right _ (List.mem_append_right _ (List.mem_append_right _ (List.mem_append_right _ (List.mem_append_right _ (List.mem_append_right _ (List.mem_append_right _ (List.mem_append_right _ (List.mem_append_right _ (List.mem_append_right _ (List.mem_append_right _ (List.mem_append_right _ (List.mem_append_right _ (List.mem_append_right _ (List.mem_append_left _ h))))))))))))))))))))))))))))))))))))))))
theorem acV2 : ∀ w ∈ (vx_atS RX5 108 "java/lang/IllegalArgumentException" ["java/lang/RuntimeException", "java/lang/Exception"]).filter goodWord, w ∈ AW := fun _ h => List.mem_append_right _ (List.mem_append_right _ (List.mem_append_right _ (List.mem_append_right _ (List.mem_append_right _ (List.mem_append_right _ (List.mem_append_right _ (List.mem_append_right _ (List.mem_append_right _ (List.mem_append_right _ (List.mem_append_right _ (List.mem_append_right _ (List.mem_append_right _ (List.mem_append_right _ (List.mem_append_right _ (List.mem_append_right _ (List.mem_append_right _ (List.mem_append_right _ (List.mem_append_right _ (List.mem_append_right _ (List.mem_append_right _ (List.mem_append_right _ (List.mem_append_right _ (List.mem_append_right _ (List.mem_append_right _ (List.mem_append_right _ (List.mem_append_right _ (List.mem_append_right _ (List.mem_append_right _ (List.mem_append_right _ (List.mem_append_right _ (List.mem_append_right _ (List.mem_append_right _ (List.mem_append_right _ (List.mem_append_right _ (List.mem_append_right _ (List.mem_append_right _ (List.mem_append_right _ (List.mem_append_right _ (List.mem_append_right _ (List.mem_append_right _ (h)))))))))))))))))))))))))))))))))))))))))
theorem AW_good : AW.all goodWord = true := by decide +kernel
theorem AW_in : ∀ w ∈ AW, w ∈ lw_tbl := fun _ h => (List.mem_append.mp h).elim (fun h => AC0_in _ h) (fun h => (List.mem_append.mp h).elim (fun h => AC1_in _ h) (fun h => (List.mem_append.mp h).elim (fun h => AC2_in _ h) (fun h => (List.mem_append.mp h).elim (fun h => AC3_in _ h) (fun h => (List.mem_append.mp h).elim (fun h => AC4_in _ h) (fun h => (List.mem_append.mp h).elim (fun h => AC5_in _ h) (fun h => (List.mem_append.mp h).elim (fun h => AC6_in _ h) (fun h => (List.mem_append.mp h).elim (fun h => AC7_in _ h) (fun h => (List.mem_append.mp h).elim (fun h => AC8_in _ h) (fun h => (List.mem_append.mp h).elim (fun h => AC9_in _ h) (fun h => (List.mem_append.mp h).elim (fun h => AC10_in _ h) (fun h => (List.mem_append.mp h).elim (fun h => AC11_in _ h) (fun h => (List.mem_append.mp h).elim (fun h => AC12_in _ h) (fun h => (List.mem_append.mp h).elim (fun h => AC13_in _ h) (fun h => (List.mem_append.mp h).elim (fun h => AC14_in _ h) (fun h => (List.mem_append.mp h).elim (fun h => AC15_in _ h) (fun h => (List.mem_append.mp h).elim (fun h => AC16_in _ h) (fun h => (List.mem_append.mp h).elim (fun h => AC17_in _ h) (fun h => (List.mem_append.mp h).elim (fun h => AC18_in _ h) (fun h => (List.mem_append.mp h).elim (fun h => AC19_in _ h) (fun h => (List.mem_append.mp h).elim (fun h => AC20_in _ h) (fun h => (List.mem_append.mp h).elim (fun h => AC21_in _ h) (fun h => (List.mem_append.mp h).elim (fun h => AC22_in _ h) (fun h => (List.mem_append.mp h).elim (fun h => AC23_in _ h) (fun h => (List.mem_append.mp h).elim (fun h => AC24_in _ h) (fun h => (List.mem_append.mp h).elim (fun h => AC25_in _ h) (fun h => (List.mem_append.mp h).elim (fun h => AC26_in _ h) (fun h => (List.mem_append.mp h).elim (fun h => AC27_in _ h) (fun h => (List.mem_append.mp h).elim (fun h => AC28_in _ h) (fun h => (List.mem_append.mp h).elim (fun h => AC29_in _ h) (fun h => (List.mem_append.mp h).elim (fun h => AC30_in _ h) (fun h => (List.mem_append.mp h).elim (fun h => AC31_in _ h) (fun h => (List.mem_append.mp h).elim (fun h => clsX0_in _ h) (fun h => (List.mem_append.mp h).elim (fun h => clsX1_in _ h) (fun h => (List.mem_append.mp h).elim (fun h => clsX2_in _ h) (fun h => (List.mem_append.mp h).elim (fun h => clsX3_in _ h) (fun h => (List.mem_append.mp h).elim (fun h => clsX4_in _ h) (fun h => (List.mem_append.mp h).elim (fun h => clsX5_in _ h) (fun h => (List.mem_append.mp h).elim (fun h => clsX6_in _ h) (fun h => (List.mem_append.mp h).elim (fun h => cV0_in _ h) (fun h => (List.mem_append.mp h).elim (fun h => cV1_in _ h) (fun h => cV2_in _ h)))))))))))))))))))))))))))))))))))))))))
theorem mcX0_init : Cond.code yX0_init cX0_init 1 none ∈ AW := ac8 _ (List.mem_of_getElem? (i := 16) rfl)
theorem miX0_init : Cond.instanceMethod yX0_init ∈ AW := ac8 _ (List.mem_of_getElem? (i := 15) rfl)
theorem hdX0_init : yX0_init.cls ≠ "java/lang/invoke/MethodHandle" ∧ yX0_init.cls ≠ "java/lang/invoke/VarHandle" ∧ (parseMethodDescriptor yX0_init.desc).map (fun d => d.parameters.length) = some 0 := by decide +kernel
theorem mcX0_add : Cond.code yX0_add cX0_add 2 none ∈ AW := ac10 _ (List.mem_of_getElem? (i := 21) rfl)
theorem miX0_add : Cond.instanceMethod yX0_add ∈ AW := ac10 _ (List.mem_of_getElem? (i := 19) rfl)
theorem meX0_add : Cond.selects RX0 yX0_add yX0_add ∈ AW := ac10 _ (List.mem_of_getElem? (i := 20) rfl)
theorem hdX0_add : yX0_add.cls ≠ "java/lang/invoke/MethodHandle" ∧ yX0_add.cls ≠ "java/lang/invoke/VarHandle" ∧ (parseMethodDescriptor yX0_add.desc).map (fun d => d.parameters.length) = some 1 := by decide +kernel
theorem mcX0_codeAt : Cond.code yX0_codeAt cX0_codeAt 2 (some .int) ∈ AW := ac0 _ (List.mem_of_getElem? (i := 13) rfl)
theorem miX0_codeAt : Cond.instanceMethod yX0_codeAt ∈ AW := ac0 _ (List.mem_of_getElem? (i := 11) rfl)
theorem meX0_codeAt : Cond.selects RX0 yX0_codeAt yX0_codeAt ∈ AW := ac0 _ (List.mem_of_getElem? (i := 12) rfl)
theorem hdX0_codeAt : yX0_codeAt.cls ≠ "java/lang/invoke/MethodHandle" ∧ yX0_codeAt.cls ≠ "java/lang/invoke/VarHandle" ∧ (parseMethodDescriptor yX0_codeAt.desc).map (fun d => d.parameters.length) = some 1 := by decide +kernel
theorem mcX0_between : Cond.code yX0_between cX0_between 3 (some .boolean) ∈ AW := ac0 _ (List.mem_of_getElem? (i := 9) rfl)
theorem msX0_between : Cond.static yX0_between ∈ AW := ac0 _ (List.mem_of_getElem? (i := 7) rfl)
theorem hdX0_between : yX0_between.cls ≠ "java/lang/invoke/MethodHandle" ∧ yX0_between.cls ≠ "java/lang/invoke/VarHandle" ∧ (parseMethodDescriptor yX0_between.desc).map (fun d => d.parameters.length) = some 3 := by decide +kernel
theorem mcX0_stateBehind : Cond.code yX0_stateBehind cX0_stateBehind 2 (some .int) ∈ AW := ac0 _ (List.mem_of_getElem? (i := 16) rfl)
theorem msX0_stateBehind : Cond.static yX0_stateBehind ∈ AW := ac0 _ (List.mem_of_getElem? (i := 15) rfl)
theorem hdX0_stateBehind : yX0_stateBehind.cls ≠ "java/lang/invoke/MethodHandle" ∧ yX0_stateBehind.cls ≠ "java/lang/invoke/VarHandle" ∧ (parseMethodDescriptor yX0_stateBehind.desc).map (fun d => d.parameters.length) = some 2 := by decide +kernel
theorem mcX0_errorIndex : Cond.code yX0_errorIndex cX0_errorIndex 3 (some .int) ∈ AW := ac11 _ (List.mem_of_getElem? (i := 1) rfl)
theorem miX0_errorIndex : Cond.instanceMethod yX0_errorIndex ∈ AW := ac10 _ (List.mem_of_getElem? (i := 23) rfl)
theorem meX0_errorIndex : Cond.selects RX0 yX0_errorIndex yX0_errorIndex ∈ AW := ac11 _ (List.mem_of_getElem? (i := 0) rfl)
theorem hdX0_errorIndex : yX0_errorIndex.cls ≠ "java/lang/invoke/MethodHandle" ∧ yX0_errorIndex.cls ≠ "java/lang/invoke/VarHandle" ∧ (parseMethodDescriptor yX0_errorIndex.desc).map (fun d => d.parameters.length) = some 0 := by decide +kernel
theorem mcX0_isComplete : Cond.code yX0_isComplete cX0_isComplete 3 (some .boolean) ∈ AW := ac11 _ (List.mem_of_getElem? (i := 14) rfl)
theorem miX0_isComplete : Cond.instanceMethod yX0_isComplete ∈ AW := ac11 _ (List.mem_of_getElem? (i := 12) rfl)
theorem meX0_isComplete : Cond.selects RX0 yX0_isComplete yX0_isComplete ∈ AW := ac11 _ (List.mem_of_getElem? (i := 13) rfl)
theorem hdX0_isComplete : yX0_isComplete.cls ≠ "java/lang/invoke/MethodHandle" ∧ yX0_isComplete.cls ≠ "java/lang/invoke/VarHandle" ∧ (parseMethodDescriptor yX0_isComplete.desc).map (fun d => d.parameters.length) = some 0 := by decide +kernel
theorem mcX5_colourOf : Cond.code yX5_colourOf cX5_colourOf 1 (some .int) ∈ AW := ac1 _ (List.mem_of_getElem? (i := 2) rfl)
theorem msX5_colourOf : Cond.static yX5_colourOf ∈ AW := ac1 _ (List.mem_of_getElem? (i := 1) rfl)
theorem hdX5_colourOf : yX5_colourOf.cls ≠ "java/lang/invoke/MethodHandle" ∧ yX5_colourOf.cls ≠ "java/lang/invoke/VarHandle" ∧ (parseMethodDescriptor yX5_colourOf.desc).map (fun d => d.parameters.length) = some 1 := by decide +kernel
theorem mcX5_cellAt : Cond.code yX5_cellAt cX5_cellAt 2 (some .int) ∈ AW := ac0 _ (List.mem_of_getElem? (i := 20) rfl)
theorem msX5_cellAt : Cond.static yX5_cellAt ∈ AW := ac0 _ (List.mem_of_getElem? (i := 18) rfl)
theorem hdX5_cellAt : yX5_cellAt.cls ≠ "java/lang/invoke/MethodHandle" ∧ yX5_cellAt.cls ≠ "java/lang/invoke/VarHandle" ∧ (parseMethodDescriptor yX5_cellAt.desc).map (fun d => d.parameters.length) = some 2 := by decide +kernel
theorem mcX5_baseOf : Cond.code yX5_baseOf cX5_baseOf 1 (some .int) ∈ AW := ac1 _ (List.mem_of_getElem? (i := 4) rfl)
theorem msX5_baseOf : Cond.static yX5_baseOf ∈ AW := ac1 _ (List.mem_of_getElem? (i := 3) rfl)
theorem hdX5_baseOf : yX5_baseOf.cls ≠ "java/lang/invoke/MethodHandle" ∧ yX5_baseOf.cls ≠ "java/lang/invoke/VarHandle" ∧ (parseMethodDescriptor yX5_baseOf.desc).map (fun d => d.parameters.length) = some 1 := by decide +kernel
theorem mcX1_init : Cond.code yX1_init cX1_init 3 none ∈ AW := ac4 _ (List.mem_of_getElem? (i := 12) rfl)
theorem miX1_init : Cond.instanceMethod yX1_init ∈ AW := ac4 _ (List.mem_of_getElem? (i := 11) rfl)
theorem hdX1_init : yX1_init.cls ≠ "java/lang/invoke/MethodHandle" ∧ yX1_init.cls ≠ "java/lang/invoke/VarHandle" ∧ (parseMethodDescriptor yX1_init.desc).map (fun d => d.parameters.length) = some 0 := by decide +kernel
theorem mcX1_copyFrom : Cond.code yX1_copyFrom cX1_copyFrom 2 none ∈ AW := ac5 _ (List.mem_of_getElem? (i := 2) rfl)
theorem miX1_copyFrom : Cond.instanceMethod yX1_copyFrom ∈ AW := ac5 _ (List.mem_of_getElem? (i := 0) rfl)
theorem meX1_copyFrom : Cond.selects RX1 yX1_copyFrom yX1_copyFrom ∈ AW := ac5 _ (List.mem_of_getElem? (i := 1) rfl)
theorem hdX1_copyFrom : yX1_copyFrom.cls ≠ "java/lang/invoke/MethodHandle" ∧ yX1_copyFrom.cls ≠ "java/lang/invoke/VarHandle" ∧ (parseMethodDescriptor yX1_copyFrom.desc).map (fun d => d.parameters.length) = some 1 := by decide +kernel
theorem mcX5_isWink : Cond.code yX5_isWink cX5_isWink 1 (some .boolean) ∈ AW := ac1 _ (List.mem_of_getElem? (i := 10) rfl)
theorem msX5_isWink : Cond.static yX5_isWink ∈ AW := ac1 _ (List.mem_of_getElem? (i := 9) rfl)
theorem hdX5_isWink : yX5_isWink.cls ≠ "java/lang/invoke/MethodHandle" ∧ yX5_isWink.cls ≠ "java/lang/invoke/VarHandle" ∧ (parseMethodDescriptor yX5_isWink.desc).map (fun d => d.parameters.length) = some 1 := by decide +kernel
theorem mcX1_setCells : Cond.code yX1_setCells cX1_setCells 5 none ∈ AW := ac1 _ (List.mem_of_getElem? (i := 15) rfl)
theorem miX1_setCells : Cond.instanceMethod yX1_setCells ∈ AW := ac1 _ (List.mem_of_getElem? (i := 12) rfl)
theorem meX1_setCells : Cond.selects RX1 yX1_setCells yX1_setCells ∈ AW := ac1 _ (List.mem_of_getElem? (i := 13) rfl)
theorem hdX1_setCells : yX1_setCells.cls ≠ "java/lang/invoke/MethodHandle" ∧ yX1_setCells.cls ≠ "java/lang/invoke/VarHandle" ∧ (parseMethodDescriptor yX1_setCells.desc).map (fun d => d.parameters.length) = some 2 := by decide +kernel
theorem mcX1_separate : Cond.code yX1_separate cX1_separate 5 none ∈ AW := ac1 _ (List.mem_of_getElem? (i := 19) rfl)
theorem miX1_separate : Cond.instanceMethod yX1_separate ∈ AW := ac1 _ (List.mem_of_getElem? (i := 17) rfl)
theorem meX1_separate : Cond.selects RX1 yX1_separate yX1_separate ∈ AW := ac1 _ (List.mem_of_getElem? (i := 18) rfl)
theorem hdX1_separate : yX1_separate.cls ≠ "java/lang/invoke/MethodHandle" ∧ yX1_separate.cls ≠ "java/lang/invoke/VarHandle" ∧ (parseMethodDescriptor yX1_separate.desc).map (fun d => d.parameters.length) = some 1 := by decide +kernel
theorem mcX1_topAt : Cond.code yX1_topAt cX1_topAt 3 (some .int) ∈ AW := ac1 _ (List.mem_of_getElem? (i := 23) rfl)
theorem miX1_topAt : Cond.instanceMethod yX1_topAt ∈ AW := ac1 _ (List.mem_of_getElem? (i := 21) rfl)
theorem meX1_topAt : Cond.selects RX1 yX1_topAt yX1_topAt ∈ AW := ac1 _ (List.mem_of_getElem? (i := 22) rfl)
theorem hdX1_topAt : yX1_topAt.cls ≠ "java/lang/invoke/MethodHandle" ∧ yX1_topAt.cls ≠ "java/lang/invoke/VarHandle" ∧ (parseMethodDescriptor yX1_topAt.desc).map (fun d => d.parameters.length) = some 1 := by decide +kernel
theorem mcX1_move : Cond.code yX1_move cX1_move 5 none ∈ AW := ac7 _ (List.mem_of_getElem? (i := 12) rfl)
theorem miX1_move : Cond.instanceMethod yX1_move ∈ AW := ac7 _ (List.mem_of_getElem? (i := 10) rfl)
theorem meX1_move : Cond.selects RX1 yX1_move yX1_move ∈ AW := ac7 _ (List.mem_of_getElem? (i := 11) rfl)
theorem hdX1_move : yX1_move.cls ≠ "java/lang/invoke/MethodHandle" ∧ yX1_move.cls ≠ "java/lang/invoke/VarHandle" ∧ (parseMethodDescriptor yX1_move.desc).map (fun d => d.parameters.length) = some 2 := by decide +kernel
theorem mcX1_isPotted : Cond.code yX1_isPotted cX1_isPotted 2 (some .boolean) ∈ AW := ac2 _ (List.mem_of_getElem? (i := 3) rfl)
theorem miX1_isPotted : Cond.instanceMethod yX1_isPotted ∈ AW := ac2 _ (List.mem_of_getElem? (i := 1) rfl)
theorem meX1_isPotted : Cond.selects RX1 yX1_isPotted yX1_isPotted ∈ AW := ac2 _ (List.mem_of_getElem? (i := 2) rfl)
theorem hdX1_isPotted : yX1_isPotted.cls ≠ "java/lang/invoke/MethodHandle" ∧ yX1_isPotted.cls ≠ "java/lang/invoke/VarHandle" ∧ (parseMethodDescriptor yX1_isPotted.desc).map (fun d => d.parameters.length) = some 1 := by decide +kernel
theorem mcX1_isCovered : Cond.code yX1_isCovered cX1_isCovered 2 (some .boolean) ∈ AW := ac2 _ (List.mem_of_getElem? (i := 19) rfl)
theorem miX1_isCovered : Cond.instanceMethod yX1_isCovered ∈ AW := ac2 _ (List.mem_of_getElem? (i := 17) rfl)
theorem meX1_isCovered : Cond.selects RX1 yX1_isCovered yX1_isCovered ∈ AW := ac2 _ (List.mem_of_getElem? (i := 18) rfl)
theorem hdX1_isCovered : yX1_isCovered.cls ≠ "java/lang/invoke/MethodHandle" ∧ yX1_isCovered.cls ≠ "java/lang/invoke/VarHandle" ∧ (parseMethodDescriptor yX1_isCovered.desc).map (fun d => d.parameters.length) = some 1 := by decide +kernel
theorem mcX1_placeOf : Cond.code yX1_placeOf cX1_placeOf 5 (some .int) ∈ AW := ac12 _ (List.mem_of_getElem? (i := 7) rfl)
theorem miX1_placeOf : Cond.instanceMethod yX1_placeOf ∈ AW := ac12 _ (List.mem_of_getElem? (i := 5) rfl)
theorem meX1_placeOf : Cond.selects RX1 yX1_placeOf yX1_placeOf ∈ AW := ac12 _ (List.mem_of_getElem? (i := 6) rfl)
theorem hdX1_placeOf : yX1_placeOf.cls ≠ "java/lang/invoke/MethodHandle" ∧ yX1_placeOf.cls ≠ "java/lang/invoke/VarHandle" ∧ (parseMethodDescriptor yX1_placeOf.desc).map (fun d => d.parameters.length) = some 1 := by decide +kernel
theorem mcX1_bottomAt : Cond.code yX1_bottomAt cX1_bottomAt 3 (some .int) ∈ AW := ac12 _ (List.mem_of_getElem? (i := 12) rfl)
theorem miX1_bottomAt : Cond.instanceMethod yX1_bottomAt ∈ AW := ac12 _ (List.mem_of_getElem? (i := 10) rfl)
theorem meX1_bottomAt : Cond.selects RX1 yX1_bottomAt yX1_bottomAt ∈ AW := ac12 _ (List.mem_of_getElem? (i := 11) rfl)
theorem hdX1_bottomAt : yX1_bottomAt.cls ≠ "java/lang/invoke/MethodHandle" ∧ yX1_bottomAt.cls ≠ "java/lang/invoke/VarHandle" ∧ (parseMethodDescriptor yX1_bottomAt.desc).map (fun d => d.parameters.length) = some 1 := by decide +kernel
theorem mcX1_lowestOfUpper : Cond.code yX1_lowestOfUpper cX1_lowestOfUpper 5 (some .int) ∈ AW := ac6 _ (List.mem_of_getElem? (i := 19) rfl)
theorem miX1_lowestOfUpper : Cond.instanceMethod yX1_lowestOfUpper ∈ AW := ac6 _ (List.mem_of_getElem? (i := 17) rfl)
theorem meX1_lowestOfUpper : Cond.selects RX1 yX1_lowestOfUpper yX1_lowestOfUpper ∈ AW := ac6 _ (List.mem_of_getElem? (i := 18) rfl)
theorem hdX1_lowestOfUpper : yX1_lowestOfUpper.cls ≠ "java/lang/invoke/MethodHandle" ∧ yX1_lowestOfUpper.cls ≠ "java/lang/invoke/VarHandle" ∧ (parseMethodDescriptor yX1_lowestOfUpper.desc).map (fun d => d.parameters.length) = some 2 := by decide +kernel
theorem mcX1_heightAt : Cond.code yX1_heightAt cX1_heightAt 4 (some .int) ∈ AW := ac2 _ (List.mem_of_getElem? (i := 15) rfl)
theorem miX1_heightAt : Cond.instanceMethod yX1_heightAt ∈ AW := ac2 _ (List.mem_of_getElem? (i := 13) rfl)
theorem meX1_heightAt : Cond.selects RX1 yX1_heightAt yX1_heightAt ∈ AW := ac2 _ (List.mem_of_getElem? (i := 14) rfl)
theorem hdX1_heightAt : yX1_heightAt.cls ≠ "java/lang/invoke/MethodHandle" ∧ yX1_heightAt.cls ≠ "java/lang/invoke/VarHandle" ∧ (parseMethodDescriptor yX1_heightAt.desc).map (fun d => d.parameters.length) = some 1 := by decide +kernel
theorem mcX1_coloursAt : Cond.code yX1_coloursAt cX1_coloursAt 4 (some .int) ∈ AW := ac12 _ (List.mem_of_getElem? (i := 16) rfl)
theorem miX1_coloursAt : Cond.instanceMethod yX1_coloursAt ∈ AW := ac12 _ (List.mem_of_getElem? (i := 14) rfl)
theorem meX1_coloursAt : Cond.selects RX1 yX1_coloursAt yX1_coloursAt ∈ AW := ac12 _ (List.mem_of_getElem? (i := 15) rfl)
theorem hdX1_coloursAt : yX1_coloursAt.cls ≠ "java/lang/invoke/MethodHandle" ∧ yX1_coloursAt.cls ≠ "java/lang/invoke/VarHandle" ∧ (parseMethodDescriptor yX1_coloursAt.desc).map (fun d => d.parameters.length) = some 1 := by decide +kernel
theorem mcX1_isBottom : Cond.code yX1_isBottom cX1_isBottom 2 (some .boolean) ∈ AW := ac2 _ (List.mem_of_getElem? (i := 7) rfl)
theorem miX1_isBottom : Cond.instanceMethod yX1_isBottom ∈ AW := ac2 _ (List.mem_of_getElem? (i := 5) rfl)
theorem meX1_isBottom : Cond.selects RX1 yX1_isBottom yX1_isBottom ∈ AW := ac2 _ (List.mem_of_getElem? (i := 6) rfl)
theorem hdX1_isBottom : yX1_isBottom.cls ≠ "java/lang/invoke/MethodHandle" ∧ yX1_isBottom.cls ≠ "java/lang/invoke/VarHandle" ∧ (parseMethodDescriptor yX1_isBottom.desc).map (fun d => d.parameters.length) = some 1 := by decide +kernel
theorem mcX1_piles : Cond.code yX1_piles cX1_piles 3 (some .int) ∈ AW := ac13 _ (List.mem_of_getElem? (i := 14) rfl)
theorem miX1_piles : Cond.instanceMethod yX1_piles ∈ AW := ac13 _ (List.mem_of_getElem? (i := 12) rfl)
theorem meX1_piles : Cond.selects RX1 yX1_piles yX1_piles ∈ AW := ac13 _ (List.mem_of_getElem? (i := 13) rfl)
theorem hdX1_piles : yX1_piles.cls ≠ "java/lang/invoke/MethodHandle" ∧ yX1_piles.cls ≠ "java/lang/invoke/VarHandle" ∧ (parseMethodDescriptor yX1_piles.desc).map (fun d => d.parameters.length) = some 0 := by decide +kernel
theorem mcX1_highest : Cond.code yX1_highest cX1_highest 3 (some .int) ∈ AW := ac13 _ (List.mem_of_getElem? (i := 18) rfl)
theorem miX1_highest : Cond.instanceMethod yX1_highest ∈ AW := ac13 _ (List.mem_of_getElem? (i := 16) rfl)
theorem meX1_highest : Cond.selects RX1 yX1_highest yX1_highest ∈ AW := ac13 _ (List.mem_of_getElem? (i := 17) rfl)
theorem hdX1_highest : yX1_highest.cls ≠ "java/lang/invoke/MethodHandle" ∧ yX1_highest.cls ≠ "java/lang/invoke/VarHandle" ∧ (parseMethodDescriptor yX1_highest.desc).map (fun d => d.parameters.length) = some 0 := by decide +kernel
theorem mcX1_coveredByPiles : Cond.code yX1_coveredByPiles cX1_coveredByPiles 3 (some .int) ∈ AW := ac13 _ (List.mem_of_getElem? (i := 6) rfl)
theorem miX1_coveredByPiles : Cond.instanceMethod yX1_coveredByPiles ∈ AW := ac13 _ (List.mem_of_getElem? (i := 4) rfl)
theorem meX1_coveredByPiles : Cond.selects RX1 yX1_coveredByPiles yX1_coveredByPiles ∈ AW := ac13 _ (List.mem_of_getElem? (i := 5) rfl)
theorem hdX1_coveredByPiles : yX1_coveredByPiles.cls ≠ "java/lang/invoke/MethodHandle" ∧ yX1_coveredByPiles.cls ≠ "java/lang/invoke/VarHandle" ∧ (parseMethodDescriptor yX1_coveredByPiles.desc).map (fun d => d.parameters.length) = some 0 := by decide +kernel
theorem mcX1_coveredOf : Cond.code yX1_coveredOf cX1_coveredOf 4 (some .int) ∈ AW := ac2 _ (List.mem_of_getElem? (i := 23) rfl)
theorem miX1_coveredOf : Cond.instanceMethod yX1_coveredOf ∈ AW := ac2 _ (List.mem_of_getElem? (i := 21) rfl)
theorem meX1_coveredOf : Cond.selects RX1 yX1_coveredOf yX1_coveredOf ∈ AW := ac2 _ (List.mem_of_getElem? (i := 22) rfl)
theorem hdX1_coveredOf : yX1_coveredOf.cls ≠ "java/lang/invoke/MethodHandle" ∧ yX1_coveredOf.cls ≠ "java/lang/invoke/VarHandle" ∧ (parseMethodDescriptor yX1_coveredOf.desc).map (fun d => d.parameters.length) = some 1 := by decide +kernel
theorem mcX1_coveredOfTeam : Cond.code yX1_coveredOfTeam cX1_coveredOfTeam 2 (some .int) ∈ AW := ac3 _ (List.mem_of_getElem? (i := 3) rfl)
theorem miX1_coveredOfTeam : Cond.instanceMethod yX1_coveredOfTeam ∈ AW := ac3 _ (List.mem_of_getElem? (i := 1) rfl)
theorem meX1_coveredOfTeam : Cond.selects RX1 yX1_coveredOfTeam yX1_coveredOfTeam ∈ AW := ac3 _ (List.mem_of_getElem? (i := 2) rfl)
theorem hdX1_coveredOfTeam : yX1_coveredOfTeam.cls ≠ "java/lang/invoke/MethodHandle" ∧ yX1_coveredOfTeam.cls ≠ "java/lang/invoke/VarHandle" ∧ (parseMethodDescriptor yX1_coveredOfTeam.desc).map (fun d => d.parameters.length) = some 1 := by decide +kernel
theorem mcX1_coveredByWinks : Cond.code yX1_coveredByWinks cX1_coveredByWinks 1 (some .int) ∈ AW := ac13 _ (List.mem_of_getElem? (i := 10) rfl)
theorem miX1_coveredByWinks : Cond.instanceMethod yX1_coveredByWinks ∈ AW := ac13 _ (List.mem_of_getElem? (i := 8) rfl)
theorem meX1_coveredByWinks : Cond.selects RX1 yX1_coveredByWinks yX1_coveredByWinks ∈ AW := ac13 _ (List.mem_of_getElem? (i := 9) rfl)
theorem hdX1_coveredByWinks : yX1_coveredByWinks.cls ≠ "java/lang/invoke/MethodHandle" ∧ yX1_coveredByWinks.cls ≠ "java/lang/invoke/VarHandle" ∧ (parseMethodDescriptor yX1_coveredByWinks.desc).map (fun d => d.parameters.length) = some 0 := by decide +kernel
theorem mcX1_pottedOf : Cond.code yX1_pottedOf cX1_pottedOf 4 (some .int) ∈ AW := ac3 _ (List.mem_of_getElem? (i := 7) rfl)
theorem miX1_pottedOf : Cond.instanceMethod yX1_pottedOf ∈ AW := ac3 _ (List.mem_of_getElem? (i := 5) rfl)
theorem meX1_pottedOf : Cond.selects RX1 yX1_pottedOf yX1_pottedOf ∈ AW := ac3 _ (List.mem_of_getElem? (i := 6) rfl)
theorem hdX1_pottedOf : yX1_pottedOf.cls ≠ "java/lang/invoke/MethodHandle" ∧ yX1_pottedOf.cls ≠ "java/lang/invoke/VarHandle" ∧ (parseMethodDescriptor yX1_pottedOf.desc).map (fun d => d.parameters.length) = some 1 := by decide +kernel
theorem mcX1_potted : Cond.code yX1_potted cX1_potted 3 (some .int) ∈ AW := ac11 _ (List.mem_of_getElem? (i := 23) rfl)
theorem miX1_potted : Cond.instanceMethod yX1_potted ∈ AW := ac11 _ (List.mem_of_getElem? (i := 21) rfl)
theorem meX1_potted : Cond.selects RX1 yX1_potted yX1_potted ∈ AW := ac11 _ (List.mem_of_getElem? (i := 22) rfl)
theorem hdX1_potted : yX1_potted.cls ≠ "java/lang/invoke/MethodHandle" ∧ yX1_potted.cls ≠ "java/lang/invoke/VarHandle" ∧ (parseMethodDescriptor yX1_potted.desc).map (fun d => d.parameters.length) = some 0 := by decide +kernel
theorem mcX1_isAllPotted : Cond.code yX1_isAllPotted cX1_isAllPotted 2 (some .boolean) ∈ AW := ac3 _ (List.mem_of_getElem? (i := 11) rfl)
theorem miX1_isAllPotted : Cond.instanceMethod yX1_isAllPotted ∈ AW := ac3 _ (List.mem_of_getElem? (i := 9) rfl)
theorem meX1_isAllPotted : Cond.selects RX1 yX1_isAllPotted yX1_isAllPotted ∈ AW := ac3 _ (List.mem_of_getElem? (i := 10) rfl)
theorem hdX1_isAllPotted : yX1_isAllPotted.cls ≠ "java/lang/invoke/MethodHandle" ∧ yX1_isAllPotted.cls ≠ "java/lang/invoke/VarHandle" ∧ (parseMethodDescriptor yX1_isAllPotted.desc).map (fun d => d.parameters.length) = some 1 := by decide +kernel
theorem mcX1_isOver : Cond.code yX1_isOver cX1_isOver 2 (some .boolean) ∈ AW := ac6 _ (List.mem_of_getElem? (i := 13) rfl)
theorem miX1_isOver : Cond.instanceMethod yX1_isOver ∈ AW := ac6 _ (List.mem_of_getElem? (i := 11) rfl)
theorem meX1_isOver : Cond.selects RX1 yX1_isOver yX1_isOver ∈ AW := ac6 _ (List.mem_of_getElem? (i := 12) rfl)
theorem hdX1_isOver : yX1_isOver.cls ≠ "java/lang/invoke/MethodHandle" ∧ yX1_isOver.cls ≠ "java/lang/invoke/VarHandle" ∧ (parseMethodDescriptor yX1_isOver.desc).map (fun d => d.parameters.length) = some 0 := by decide +kernel
theorem mcX1_pointsOf : Cond.code yX1_pointsOf cX1_pointsOf 6 (some .int) ∈ AW := ac3 _ (List.mem_of_getElem? (i := 15) rfl)
theorem miX1_pointsOf : Cond.instanceMethod yX1_pointsOf ∈ AW := ac3 _ (List.mem_of_getElem? (i := 13) rfl)
theorem meX1_pointsOf : Cond.selects RX1 yX1_pointsOf yX1_pointsOf ∈ AW := ac3 _ (List.mem_of_getElem? (i := 14) rfl)
theorem hdX1_pointsOf : yX1_pointsOf.cls ≠ "java/lang/invoke/MethodHandle" ∧ yX1_pointsOf.cls ≠ "java/lang/invoke/VarHandle" ∧ (parseMethodDescriptor yX1_pointsOf.desc).map (fun d => d.parameters.length) = some 1 := by decide +kernel
theorem mcX1_pointsOfTeam : Cond.code yX1_pointsOfTeam cX1_pointsOfTeam 2 (some .int) ∈ AW := ac3 _ (List.mem_of_getElem? (i := 19) rfl)
theorem miX1_pointsOfTeam : Cond.instanceMethod yX1_pointsOfTeam ∈ AW := ac3 _ (List.mem_of_getElem? (i := 17) rfl)
theorem meX1_pointsOfTeam : Cond.selects RX1 yX1_pointsOfTeam yX1_pointsOfTeam ∈ AW := ac3 _ (List.mem_of_getElem? (i := 18) rfl)
theorem hdX1_pointsOfTeam : yX1_pointsOfTeam.cls ≠ "java/lang/invoke/MethodHandle" ∧ yX1_pointsOfTeam.cls ≠ "java/lang/invoke/VarHandle" ∧ (parseMethodDescriptor yX1_pointsOfTeam.desc).map (fun d => d.parameters.length) = some 1 := by decide +kernel
theorem mcX1_leadOf : Cond.code yX1_leadOf cX1_leadOf 2 (some .int) ∈ AW := ac14 _ (List.mem_of_getElem? (i := 20) rfl)
theorem miX1_leadOf : Cond.instanceMethod yX1_leadOf ∈ AW := ac14 _ (List.mem_of_getElem? (i := 18) rfl)
theorem meX1_leadOf : Cond.selects RX1 yX1_leadOf yX1_leadOf ∈ AW := ac14 _ (List.mem_of_getElem? (i := 19) rfl)
theorem hdX1_leadOf : yX1_leadOf.cls ≠ "java/lang/invoke/MethodHandle" ∧ yX1_leadOf.cls ≠ "java/lang/invoke/VarHandle" ∧ (parseMethodDescriptor yX1_leadOf.desc).map (fun d => d.parameters.length) = some 1 := by decide +kernel
theorem mcX1_liesBelow : Cond.code yX1_liesBelow cX1_liesBelow 5 (some .boolean) ∈ AW := ac3 _ (List.mem_of_getElem? (i := 23) rfl)
theorem miX1_liesBelow : Cond.instanceMethod yX1_liesBelow ∈ AW := ac3 _ (List.mem_of_getElem? (i := 21) rfl)
theorem meX1_liesBelow : Cond.selects RX1 yX1_liesBelow yX1_liesBelow ∈ AW := ac3 _ (List.mem_of_getElem? (i := 22) rfl)
theorem hdX1_liesBelow : yX1_liesBelow.cls ≠ "java/lang/invoke/MethodHandle" ∧ yX1_liesBelow.cls ≠ "java/lang/invoke/VarHandle" ∧ (parseMethodDescriptor yX1_liesBelow.desc).map (fun d => d.parameters.length) = some 2 := by decide +kernel
theorem mcX1_othersBelow : Cond.code yX1_othersBelow cX1_othersBelow 4 (some .int) ∈ AW := ac13 _ (List.mem_of_getElem? (i := 2) rfl)
theorem miX1_othersBelow : Cond.instanceMethod yX1_othersBelow ∈ AW := ac13 _ (List.mem_of_getElem? (i := 0) rfl)
theorem meX1_othersBelow : Cond.selects RX1 yX1_othersBelow yX1_othersBelow ∈ AW := ac13 _ (List.mem_of_getElem? (i := 1) rfl)
theorem hdX1_othersBelow : yX1_othersBelow.cls ≠ "java/lang/invoke/MethodHandle" ∧ yX1_othersBelow.cls ≠ "java/lang/invoke/VarHandle" ∧ (parseMethodDescriptor yX1_othersBelow.desc).map (fun d => d.parameters.length) = some 1 := by decide +kernel
theorem mcX4_init : Cond.code yX4_init cX4_init 1 none ∈ AW := ac4 _ (List.mem_of_getElem? (i := 21) rfl)
theorem miX4_init : Cond.instanceMethod yX4_init ∈ AW := ac4 _ (List.mem_of_getElem? (i := 20) rfl)
theorem hdX4_init : yX4_init.cls ≠ "java/lang/invoke/MethodHandle" ∧ yX4_init.cls ≠ "java/lang/invoke/VarHandle" ∧ (parseMethodDescriptor yX4_init.desc).map (fun d => d.parameters.length) = some 0 := by decide +kernel
theorem mcX2_init : Cond.code yX2_init cX2_init 2 none ∈ AW := ac8 _ (List.mem_of_getElem? (i := 14) rfl)
theorem miX2_init : Cond.instanceMethod yX2_init ∈ AW := ac8 _ (List.mem_of_getElem? (i := 13) rfl)
theorem hdX2_init : yX2_init.cls ≠ "java/lang/invoke/MethodHandle" ∧ yX2_init.cls ≠ "java/lang/invoke/VarHandle" ∧ (parseMethodDescriptor yX2_init.desc).map (fun d => d.parameters.length) = some 0 := by decide +kernel
theorem mcX4_copyFrom : Cond.code yX4_copyFrom cX4_copyFrom 2 none ∈ AW := ac5 _ (List.mem_of_getElem? (i := 9) rfl)
theorem miX4_copyFrom : Cond.instanceMethod yX4_copyFrom ∈ AW := ac5 _ (List.mem_of_getElem? (i := 7) rfl)
theorem meX4_copyFrom : Cond.selects RX4 yX4_copyFrom yX4_copyFrom ∈ AW := ac5 _ (List.mem_of_getElem? (i := 8) rfl)
theorem hdX4_copyFrom : yX4_copyFrom.cls ≠ "java/lang/invoke/MethodHandle" ∧ yX4_copyFrom.cls ≠ "java/lang/invoke/VarHandle" ∧ (parseMethodDescriptor yX4_copyFrom.desc).map (fun d => d.parameters.length) = some 1 := by decide +kernel
theorem mcX2_save : Cond.code yX2_save cX2_save 2 none ∈ AW := ac9 _ (List.mem_of_getElem? (i := 19) rfl)
theorem miX2_save : Cond.instanceMethod yX2_save ∈ AW := ac9 _ (List.mem_of_getElem? (i := 17) rfl)
theorem meX2_save : Cond.selects RX2 yX2_save yX2_save ∈ AW := ac9 _ (List.mem_of_getElem? (i := 18) rfl)
theorem hdX2_save : yX2_save.cls ≠ "java/lang/invoke/MethodHandle" ∧ yX2_save.cls ≠ "java/lang/invoke/VarHandle" ∧ (parseMethodDescriptor yX2_save.desc).map (fun d => d.parameters.length) = some 1 := by decide +kernel
theorem mcX2_restore : Cond.code yX2_restore cX2_restore 2 none ∈ AW := ac12 _ (List.mem_of_getElem? (i := 3) rfl)
theorem miX2_restore : Cond.instanceMethod yX2_restore ∈ AW := ac12 _ (List.mem_of_getElem? (i := 1) rfl)
theorem meX2_restore : Cond.selects RX2 yX2_restore yX2_restore ∈ AW := ac12 _ (List.mem_of_getElem? (i := 2) rfl)
theorem hdX2_restore : yX2_restore.cls ≠ "java/lang/invoke/MethodHandle" ∧ yX2_restore.cls ≠ "java/lang/invoke/VarHandle" ∧ (parseMethodDescriptor yX2_restore.desc).map (fun d => d.parameters.length) = some 1 := by decide +kernel
theorem mcX3_init : Cond.code yX3_init cX3_init 1 none ∈ AW := ac8 _ (List.mem_of_getElem? (i := 19) rfl)
theorem miX3_init : Cond.instanceMethod yX3_init ∈ AW := ac8 _ (List.mem_of_getElem? (i := 18) rfl)
theorem hdX3_init : yX3_init.cls ≠ "java/lang/invoke/MethodHandle" ∧ yX3_init.cls ≠ "java/lang/invoke/VarHandle" ∧ (parseMethodDescriptor yX3_init.desc).map (fun d => d.parameters.length) = some 0 := by decide +kernel
theorem mcJ7_fill_53178 : Cond.code yJ7_fill_53178 cJ7_fill_53178 4 none ∈ AW := ac6 _ (List.mem_of_getElem? (i := 2) rfl)
theorem msJ7_fill_53178 : Cond.static yJ7_fill_53178 ∈ AW := ac6 _ (List.mem_of_getElem? (i := 0) rfl)
theorem hdJ7_fill_53178 : yJ7_fill_53178.cls ≠ "java/lang/invoke/MethodHandle" ∧ yJ7_fill_53178.cls ≠ "java/lang/invoke/VarHandle" ∧ (parseMethodDescriptor yJ7_fill_53178.desc).map (fun d => d.parameters.length) = some 2 := by decide +kernel
theorem mcX5_eastOf : Cond.code yX5_eastOf cX5_eastOf 1 (some .int) ∈ AW := ac5 _ (List.mem_of_getElem? (i := 16) rfl)
theorem msX5_eastOf : Cond.static yX5_eastOf ∈ AW := ac5 _ (List.mem_of_getElem? (i := 15) rfl)
theorem hdX5_eastOf : yX5_eastOf.cls ≠ "java/lang/invoke/MethodHandle" ∧ yX5_eastOf.cls ≠ "java/lang/invoke/VarHandle" ∧ (parseMethodDescriptor yX5_eastOf.desc).map (fun d => d.parameters.length) = some 1 := by decide +kernel
theorem mcX5_southOf : Cond.code yX5_southOf cX5_southOf 1 (some .int) ∈ AW := ac5 _ (List.mem_of_getElem? (i := 19) rfl)
theorem msX5_southOf : Cond.static yX5_southOf ∈ AW := ac5 _ (List.mem_of_getElem? (i := 18) rfl)
theorem hdX5_southOf : yX5_southOf.cls ≠ "java/lang/invoke/MethodHandle" ∧ yX5_southOf.cls ≠ "java/lang/invoke/VarHandle" ∧ (parseMethodDescriptor yX5_southOf.desc).map (fun d => d.parameters.length) = some 1 := by decide +kernel
theorem mcX5_isOnMat : Cond.code yX5_isOnMat cX5_isOnMat 2 (some .boolean) ∈ AW := ac5 _ (List.mem_of_getElem? (i := 22) rfl)
theorem msX5_isOnMat : Cond.static yX5_isOnMat ∈ AW := ac5 _ (List.mem_of_getElem? (i := 21) rfl)
theorem hdX5_isOnMat : yX5_isOnMat.cls ≠ "java/lang/invoke/MethodHandle" ∧ yX5_isOnMat.cls ≠ "java/lang/invoke/VarHandle" ∧ (parseMethodDescriptor yX5_isOnMat.desc).map (fun d => d.parameters.length) = some 2 := by decide +kernel
theorem mcX5_landing : Cond.code yX5_landing cX5_landing 9 (some .int) ∈ AW := ac6 _ (List.mem_of_getElem? (i := 4) rfl)
theorem msX5_landing : Cond.static yX5_landing ∈ AW := ac6 _ (List.mem_of_getElem? (i := 3) rfl)
theorem hdX5_landing : yX5_landing.cls ≠ "java/lang/invoke/MethodHandle" ∧ yX5_landing.cls ≠ "java/lang/invoke/VarHandle" ∧ (parseMethodDescriptor yX5_landing.desc).map (fun d => d.parameters.length) = some 3 := by decide +kernel
theorem mcX3_search : Cond.code yX3_search cX3_search 8 (some .int) ∈ AW := ac6 _ (List.mem_of_getElem? (i := 9) rfl)
theorem miX3_search : Cond.instanceMethod yX3_search ∈ AW := ac6 _ (List.mem_of_getElem? (i := 6) rfl)
theorem meX3_search : Cond.selects RX3 yX3_search yX3_search ∈ AW := ac6 _ (List.mem_of_getElem? (i := 7) rfl)
theorem hdX3_search : yX3_search.cls ≠ "java/lang/invoke/MethodHandle" ∧ yX3_search.cls ≠ "java/lang/invoke/VarHandle" ∧ (parseMethodDescriptor yX3_search.desc).map (fun d => d.parameters.length) = some 2 := by decide +kernel
theorem mcX3_fewest : Cond.code yX3_fewest cX3_fewest 4 (some .int) ∈ AW := ac15 _ (List.mem_of_getElem? (i := 1) rfl)
theorem miX3_fewest : Cond.instanceMethod yX3_fewest ∈ AW := ac14 _ (List.mem_of_getElem? (i := 23) rfl)
theorem meX3_fewest : Cond.selects RX3 yX3_fewest yX3_fewest ∈ AW := ac15 _ (List.mem_of_getElem? (i := 0) rfl)
theorem hdX3_fewest : yX3_fewest.cls ≠ "java/lang/invoke/MethodHandle" ∧ yX3_fewest.cls ≠ "java/lang/invoke/VarHandle" ∧ (parseMethodDescriptor yX3_fewest.desc).map (fun d => d.parameters.length) = some 2 := by decide +kernel
theorem mcX4_whyNotFlown : Cond.code yX4_whyNotFlown cX4_whyNotFlown 2 (some .int) ∈ AW := ac9 _ (List.mem_of_getElem? (i := 15) rfl)
theorem miX4_whyNotFlown : Cond.instanceMethod yX4_whyNotFlown ∈ AW := ac9 _ (List.mem_of_getElem? (i := 13) rfl)
theorem meX4_whyNotFlown : Cond.selects RX4 yX4_whyNotFlown yX4_whyNotFlown ∈ AW := ac9 _ (List.mem_of_getElem? (i := 14) rfl)
theorem hdX4_whyNotFlown : yX4_whyNotFlown.cls ≠ "java/lang/invoke/MethodHandle" ∧ yX4_whyNotFlown.cls ≠ "java/lang/invoke/VarHandle" ∧ (parseMethodDescriptor yX4_whyNotFlown.desc).map (fun d => d.parameters.length) = some 1 := by decide +kernel
theorem mcX5_cellBeside : Cond.code yX5_cellBeside cX5_cellBeside 5 (some .int) ∈ AW := ac6 _ (List.mem_of_getElem? (i := 22) rfl)
theorem msX5_cellBeside : Cond.static yX5_cellBeside ∈ AW := ac6 _ (List.mem_of_getElem? (i := 21) rfl)
theorem hdX5_cellBeside : yX5_cellBeside.cls ≠ "java/lang/invoke/MethodHandle" ∧ yX5_cellBeside.cls ≠ "java/lang/invoke/VarHandle" ∧ (parseMethodDescriptor yX5_cellBeside.desc).map (fun d => d.parameters.length) = some 3 := by decide +kernel
theorem mcX4_whyNotLifted : Cond.code yX4_whyNotLifted cX4_whyNotLifted 6 (some .int) ∈ AW := ac10 _ (List.mem_of_getElem? (i := 9) rfl)
theorem miX4_whyNotLifted : Cond.instanceMethod yX4_whyNotLifted ∈ AW := ac10 _ (List.mem_of_getElem? (i := 7) rfl)
theorem meX4_whyNotLifted : Cond.selects RX4 yX4_whyNotLifted yX4_whyNotLifted ∈ AW := ac10 _ (List.mem_of_getElem? (i := 8) rfl)
theorem hdX4_whyNotLifted : yX4_whyNotLifted.cls ≠ "java/lang/invoke/MethodHandle" ∧ yX4_whyNotLifted.cls ≠ "java/lang/invoke/VarHandle" ∧ (parseMethodDescriptor yX4_whyNotLifted.desc).map (fun d => d.parameters.length) = some 4 := by decide +kernel
theorem mcX5_isLarge : Cond.code yX5_isLarge cX5_isLarge 1 (some .boolean) ∈ AW := ac7 _ (List.mem_of_getElem? (i := 1) rfl)
theorem msX5_isLarge : Cond.static yX5_isLarge ∈ AW := ac7 _ (List.mem_of_getElem? (i := 0) rfl)
theorem hdX5_isLarge : yX5_isLarge.cls ≠ "java/lang/invoke/MethodHandle" ∧ yX5_isLarge.cls ≠ "java/lang/invoke/VarHandle" ∧ (parseMethodDescriptor yX5_isLarge.desc).map (fun d => d.parameters.length) = some 1 := by decide +kernel
theorem mcX5_stepsOf : Cond.code yX5_stepsOf cX5_stepsOf 2 (some .int) ∈ AW := ac7 _ (List.mem_of_getElem? (i := 6) rfl)
theorem msX5_stepsOf : Cond.static yX5_stepsOf ∈ AW := ac7 _ (List.mem_of_getElem? (i := 5) rfl)
theorem hdX5_stepsOf : yX5_stepsOf.cls ≠ "java/lang/invoke/MethodHandle" ∧ yX5_stepsOf.cls ≠ "java/lang/invoke/VarHandle" ∧ (parseMethodDescriptor yX5_stepsOf.desc).map (fun d => d.parameters.length) = some 2 := by decide +kernel
theorem mcX5_restingCell : Cond.code yX5_restingCell cX5_restingCell 2 (some .int) ∈ AW := ac7 _ (List.mem_of_getElem? (i := 8) rfl)
theorem msX5_restingCell : Cond.static yX5_restingCell ∈ AW := ac7 _ (List.mem_of_getElem? (i := 7) rfl)
theorem hdX5_restingCell : yX5_restingCell.cls ≠ "java/lang/invoke/MethodHandle" ∧ yX5_restingCell.cls ≠ "java/lang/invoke/VarHandle" ∧ (parseMethodDescriptor yX5_restingCell.desc).map (fun d => d.parameters.length) = some 2 := by decide +kernel
theorem mcX4_passTurn : Cond.code yX4_passTurn cX4_passTurn 3 none ∈ AW := ac7 _ (List.mem_of_getElem? (i := 16) rfl)
theorem miX4_passTurn : Cond.instanceMethod yX4_passTurn ∈ AW := ac7 _ (List.mem_of_getElem? (i := 14) rfl)
theorem meX4_passTurn : Cond.selects RX4 yX4_passTurn yX4_passTurn ∈ AW := ac7 _ (List.mem_of_getElem? (i := 15) rfl)
theorem hdX4_passTurn : yX4_passTurn.cls ≠ "java/lang/invoke/MethodHandle" ∧ yX4_passTurn.cls ≠ "java/lang/invoke/VarHandle" ∧ (parseMethodDescriptor yX4_passTurn.desc).map (fun d => d.parameters.length) = some 0 := by decide +kernel
theorem mcX5_flightAnswer : Cond.code yX5_flightAnswer cX5_flightAnswer 1 (some .int) ∈ AW := ac7 _ (List.mem_of_getElem? (i := 18) rfl)
theorem msX5_flightAnswer : Cond.static yX5_flightAnswer ∈ AW := ac7 _ (List.mem_of_getElem? (i := 17) rfl)
theorem hdX5_flightAnswer : yX5_flightAnswer.cls ≠ "java/lang/invoke/MethodHandle" ∧ yX5_flightAnswer.cls ≠ "java/lang/invoke/VarHandle" ∧ (parseMethodDescriptor yX5_flightAnswer.desc).map (fun d => d.parameters.length) = some 1 := by decide +kernel
theorem mcX4_carryOutFlight : Cond.code yX4_carryOutFlight cX4_carryOutFlight 6 (some .int) ∈ AW := ac9 _ (List.mem_of_getElem? (i := 23) rfl)
theorem miX4_carryOutFlight : Cond.instanceMethod yX4_carryOutFlight ∈ AW := ac9 _ (List.mem_of_getElem? (i := 21) rfl)
theorem meX4_carryOutFlight : Cond.selects RX4 yX4_carryOutFlight yX4_carryOutFlight ∈ AW := ac9 _ (List.mem_of_getElem? (i := 22) rfl)
theorem hdX4_carryOutFlight : yX4_carryOutFlight.cls ≠ "java/lang/invoke/MethodHandle" ∧ yX4_carryOutFlight.cls ≠ "java/lang/invoke/VarHandle" ∧ (parseMethodDescriptor yX4_carryOutFlight.desc).map (fun d => d.parameters.length) = some 3 := by decide +kernel
theorem mcX4_carryOutLift : Cond.code yX4_carryOutLift cX4_carryOutLift 6 none ∈ AW := ac10 _ (List.mem_of_getElem? (i := 13) rfl)
theorem miX4_carryOutLift : Cond.instanceMethod yX4_carryOutLift ∈ AW := ac10 _ (List.mem_of_getElem? (i := 11) rfl)
theorem meX4_carryOutLift : Cond.selects RX4 yX4_carryOutLift yX4_carryOutLift ∈ AW := ac10 _ (List.mem_of_getElem? (i := 12) rfl)
theorem hdX4_carryOutLift : yX4_carryOutLift.cls ≠ "java/lang/invoke/MethodHandle" ∧ yX4_carryOutLift.cls ≠ "java/lang/invoke/VarHandle" ∧ (parseMethodDescriptor yX4_carryOutLift.desc).map (fun d => d.parameters.length) = some 4 := by decide +kernel
theorem mcX4_allFlights : Cond.code yX4_allFlights cX4_allFlights 3 (some .int) ∈ AW := ac13 _ (List.mem_of_getElem? (i := 22) rfl)
theorem miX4_allFlights : Cond.instanceMethod yX4_allFlights ∈ AW := ac13 _ (List.mem_of_getElem? (i := 20) rfl)
theorem meX4_allFlights : Cond.selects RX4 yX4_allFlights yX4_allFlights ∈ AW := ac13 _ (List.mem_of_getElem? (i := 21) rfl)
theorem hdX4_allFlights : yX4_allFlights.cls ≠ "java/lang/invoke/MethodHandle" ∧ yX4_allFlights.cls ≠ "java/lang/invoke/VarHandle" ∧ (parseMethodDescriptor yX4_allFlights.desc).map (fun d => d.parameters.length) = some 0 := by decide +kernel
theorem mcX4_allFouls : Cond.code yX4_allFouls cX4_allFouls 3 (some .int) ∈ AW := ac14 _ (List.mem_of_getElem? (i := 2) rfl)
theorem miX4_allFouls : Cond.instanceMethod yX4_allFouls ∈ AW := ac14 _ (List.mem_of_getElem? (i := 0) rfl)
theorem meX4_allFouls : Cond.selects RX4 yX4_allFouls yX4_allFouls ∈ AW := ac14 _ (List.mem_of_getElem? (i := 1) rfl)
theorem hdX4_allFouls : yX4_allFouls.cls ≠ "java/lang/invoke/MethodHandle" ∧ yX4_allFouls.cls ≠ "java/lang/invoke/VarHandle" ∧ (parseMethodDescriptor yX4_allFouls.desc).map (fun d => d.parameters.length) = some 0 := by decide +kernel
theorem mcX5_init : Cond.code yX5_init cX5_init 1 none ∈ AW := ac28 _ (List.mem_of_getElem? (i := 15) rfl)
theorem miX5_init : Cond.instanceMethod yX5_init ∈ AW := ac28 _ (List.mem_of_getElem? (i := 14) rfl)
theorem hdX5_init : yX5_init.cls ≠ "java/lang/invoke/MethodHandle" ∧ yX5_init.cls ≠ "java/lang/invoke/VarHandle" ∧ (parseMethodDescriptor yX5_init.desc).map (fun d => d.parameters.length) = some 0 := by decide +kernel
theorem mcX5_requireWink : Cond.code yX5_requireWink cX5_requireWink 1 none ∈ AW := ac9 _ (List.mem_of_getElem? (i := 8) rfl)
theorem msX5_requireWink : Cond.static yX5_requireWink ∈ AW := ac9 _ (List.mem_of_getElem? (i := 7) rfl)
theorem hdX5_requireWink : yX5_requireWink.cls ≠ "java/lang/invoke/MethodHandle" ∧ yX5_requireWink.cls ≠ "java/lang/invoke/VarHandle" ∧ (parseMethodDescriptor yX5_requireWink.desc).map (fun d => d.parameters.length) = some 1 := by decide +kernel
theorem mcX5_requireDirection : Cond.code yX5_requireDirection cX5_requireDirection 1 none ∈ AW := ac9 _ (List.mem_of_getElem? (i := 3) rfl)
theorem msX5_requireDirection : Cond.static yX5_requireDirection ∈ AW := ac9 _ (List.mem_of_getElem? (i := 2) rfl)
theorem hdX5_requireDirection : yX5_requireDirection.cls ≠ "java/lang/invoke/MethodHandle" ∧ yX5_requireDirection.cls ≠ "java/lang/invoke/VarHandle" ∧ (parseMethodDescriptor yX5_requireDirection.desc).map (fun d => d.parameters.length) = some 1 := by decide +kernel
theorem mcX5_requireFlight : Cond.code yX5_requireFlight cX5_requireFlight 2 none ∈ AW := ac9 _ (List.mem_of_getElem? (i := 11) rfl)
theorem msX5_requireFlight : Cond.static yX5_requireFlight ∈ AW := ac9 _ (List.mem_of_getElem? (i := 10) rfl)
theorem hdX5_requireFlight : yX5_requireFlight.cls ≠ "java/lang/invoke/MethodHandle" ∧ yX5_requireFlight.cls ≠ "java/lang/invoke/VarHandle" ∧ (parseMethodDescriptor yX5_requireFlight.desc).map (fun d => d.parameters.length) = some 2 := by decide +kernel
theorem mcX5_fly : Cond.code yX5_fly cX5_fly 4 (some .int) ∈ AW := ac27 _ (List.mem_of_getElem? (i := 7) rfl)
theorem miX5_fly : Cond.instanceMethod yX5_fly ∈ AW := ac27 _ (List.mem_of_getElem? (i := 5) rfl)
theorem meX5_fly : Cond.selects RX5 yX5_fly yX5_fly ∈ AW := ac27 _ (List.mem_of_getElem? (i := 6) rfl)
theorem hdX5_fly : yX5_fly.cls ≠ "java/lang/invoke/MethodHandle" ∧ yX5_fly.cls ≠ "java/lang/invoke/VarHandle" ∧ (parseMethodDescriptor yX5_fly.desc).map (fun d => d.parameters.length) = some 3 := by decide +kernel
theorem mcX5_requireCell : Cond.code yX5_requireCell cX5_requireCell 2 none ∈ AW := ac10 _ (List.mem_of_getElem? (i := 2) rfl)
theorem msX5_requireCell : Cond.static yX5_requireCell ∈ AW := ac10 _ (List.mem_of_getElem? (i := 1) rfl)
theorem hdX5_requireCell : yX5_requireCell.cls ≠ "java/lang/invoke/MethodHandle" ∧ yX5_requireCell.cls ≠ "java/lang/invoke/VarHandle" ∧ (parseMethodDescriptor yX5_requireCell.desc).map (fun d => d.parameters.length) = some 2 := by decide +kernel
theorem mcX5_requireLift : Cond.code yX5_requireLift cX5_requireLift 2 none ∈ AW := ac10 _ (List.mem_of_getElem? (i := 5) rfl)
theorem msX5_requireLift : Cond.static yX5_requireLift ∈ AW := ac10 _ (List.mem_of_getElem? (i := 4) rfl)
theorem hdX5_requireLift : yX5_requireLift.cls ≠ "java/lang/invoke/MethodHandle" ∧ yX5_requireLift.cls ≠ "java/lang/invoke/VarHandle" ∧ (parseMethodDescriptor yX5_requireLift.desc).map (fun d => d.parameters.length) = some 2 := by decide +kernel
theorem mcX5_lift : Cond.code yX5_lift cX5_lift 5 (some .int) ∈ AW := ac27 _ (List.mem_of_getElem? (i := 10) rfl)
theorem miX5_lift : Cond.instanceMethod yX5_lift ∈ AW := ac27 _ (List.mem_of_getElem? (i := 8) rfl)
theorem meX5_lift : Cond.selects RX5 yX5_lift yX5_lift ∈ AW := ac27 _ (List.mem_of_getElem? (i := 9) rfl)
theorem hdX5_lift : yX5_lift.cls ≠ "java/lang/invoke/MethodHandle" ∧ yX5_lift.cls ≠ "java/lang/invoke/VarHandle" ∧ (parseMethodDescriptor yX5_lift.desc).map (fun d => d.parameters.length) = some 4 := by decide +kernel
theorem mcX5_set : Cond.code yX5_set cX5_set 3 (some .int) ∈ AW := ac27 _ (List.mem_of_getElem? (i := 13) rfl)
theorem miX5_set : Cond.instanceMethod yX5_set ∈ AW := ac27 _ (List.mem_of_getElem? (i := 11) rfl)
theorem meX5_set : Cond.selects RX5 yX5_set yX5_set ∈ AW := ac27 _ (List.mem_of_getElem? (i := 12) rfl)
theorem hdX5_set : yX5_set.cls ≠ "java/lang/invoke/MethodHandle" ∧ yX5_set.cls ≠ "java/lang/invoke/VarHandle" ∧ (parseMethodDescriptor yX5_set.desc).map (fun d => d.parameters.length) = some 1 := by decide +kernel
theorem mcX5_put : Cond.code yX5_put cX5_put 5 (some .int) ∈ AW := ac27 _ (List.mem_of_getElem? (i := 16) rfl)
theorem miX5_put : Cond.instanceMethod yX5_put ∈ AW := ac27 _ (List.mem_of_getElem? (i := 14) rfl)
theorem meX5_put : Cond.selects RX5 yX5_put yX5_put ∈ AW := ac27 _ (List.mem_of_getElem? (i := 15) rfl)
theorem hdX5_put : yX5_put.cls ≠ "java/lang/invoke/MethodHandle" ∧ yX5_put.cls ≠ "java/lang/invoke/VarHandle" ∧ (parseMethodDescriptor yX5_put.desc).map (fun d => d.parameters.length) = some 3 := by decide +kernel
theorem mcX5_append : Cond.code yX5_append cX5_append 2 (some .int) ∈ AW := ac27 _ (List.mem_of_getElem? (i := 19) rfl)
theorem miX5_append : Cond.instanceMethod yX5_append ∈ AW := ac27 _ (List.mem_of_getElem? (i := 17) rfl)
theorem meX5_append : Cond.selects RX5 yX5_append yX5_append ∈ AW := ac27 _ (List.mem_of_getElem? (i := 18) rfl)
theorem hdX5_append : yX5_append.cls ≠ "java/lang/invoke/MethodHandle" ∧ yX5_append.cls ≠ "java/lang/invoke/VarHandle" ∧ (parseMethodDescriptor yX5_append.desc).map (fun d => d.parameters.length) = some 1 := by decide +kernel
theorem mcX5_clearBuffer : Cond.code yX5_clearBuffer cX5_clearBuffer 2 (some .int) ∈ AW := ac29 _ (List.mem_of_getElem? (i := 14) rfl)
theorem miX5_clearBuffer : Cond.instanceMethod yX5_clearBuffer ∈ AW := ac29 _ (List.mem_of_getElem? (i := 12) rfl)
theorem meX5_clearBuffer : Cond.selects RX5 yX5_clearBuffer yX5_clearBuffer ∈ AW := ac29 _ (List.mem_of_getElem? (i := 13) rfl)
theorem hdX5_clearBuffer : yX5_clearBuffer.cls ≠ "java/lang/invoke/MethodHandle" ∧ yX5_clearBuffer.cls ≠ "java/lang/invoke/VarHandle" ∧ (parseMethodDescriptor yX5_clearBuffer.desc).map (fun d => d.parameters.length) = some 0 := by decide +kernel
theorem mcX5_firstError : Cond.code yX5_firstError cX5_firstError 1 (some .int) ∈ AW := ac29 _ (List.mem_of_getElem? (i := 20) rfl)
theorem miX5_firstError : Cond.instanceMethod yX5_firstError ∈ AW := ac29 _ (List.mem_of_getElem? (i := 18) rfl)
theorem meX5_firstError : Cond.selects RX5 yX5_firstError yX5_firstError ∈ AW := ac29 _ (List.mem_of_getElem? (i := 19) rfl)
theorem hdX5_firstError : yX5_firstError.cls ≠ "java/lang/invoke/MethodHandle" ∧ yX5_firstError.cls ≠ "java/lang/invoke/VarHandle" ∧ (parseMethodDescriptor yX5_firstError.desc).map (fun d => d.parameters.length) = some 0 := by decide +kernel
theorem mcX5_doFlightPart : Cond.code yX5_doFlightPart cX5_doFlightPart 3 (some .boolean) ∈ AW := ac11 _ (List.mem_of_getElem? (i := 6) rfl)
theorem miX5_doFlightPart : Cond.instanceMethod yX5_doFlightPart ∈ AW := ac11 _ (List.mem_of_getElem? (i := 4) rfl)
theorem meX5_doFlightPart : Cond.selects RX5 yX5_doFlightPart yX5_doFlightPart ∈ AW := ac11 _ (List.mem_of_getElem? (i := 5) rfl)
theorem hdX5_doFlightPart : yX5_doFlightPart.cls ≠ "java/lang/invoke/MethodHandle" ∧ yX5_doFlightPart.cls ≠ "java/lang/invoke/VarHandle" ∧ (parseMethodDescriptor yX5_doFlightPart.desc).map (fun d => d.parameters.length) = some 1 := by decide +kernel
theorem mcX5_doLiftPart : Cond.code yX5_doLiftPart cX5_doLiftPart 6 (some .boolean) ∈ AW := ac11 _ (List.mem_of_getElem? (i := 10) rfl)
theorem miX5_doLiftPart : Cond.instanceMethod yX5_doLiftPart ∈ AW := ac11 _ (List.mem_of_getElem? (i := 8) rfl)
theorem meX5_doLiftPart : Cond.selects RX5 yX5_doLiftPart yX5_doLiftPart ∈ AW := ac11 _ (List.mem_of_getElem? (i := 9) rfl)
theorem hdX5_doLiftPart : yX5_doLiftPart.cls ≠ "java/lang/invoke/MethodHandle" ∧ yX5_doLiftPart.cls ≠ "java/lang/invoke/VarHandle" ∧ (parseMethodDescriptor yX5_doLiftPart.desc).map (fun d => d.parameters.length) = some 1 := by decide +kernel
theorem mcX5_doParts : Cond.code yX5_doParts cX5_doParts 4 (some .int) ∈ AW := ac11 _ (List.mem_of_getElem? (i := 18) rfl)
theorem miX5_doParts : Cond.instanceMethod yX5_doParts ∈ AW := ac11 _ (List.mem_of_getElem? (i := 16) rfl)
theorem meX5_doParts : Cond.selects RX5 yX5_doParts yX5_doParts ∈ AW := ac11 _ (List.mem_of_getElem? (i := 17) rfl)
theorem hdX5_doParts : yX5_doParts.cls ≠ "java/lang/invoke/MethodHandle" ∧ yX5_doParts.cls ≠ "java/lang/invoke/VarHandle" ∧ (parseMethodDescriptor yX5_doParts.desc).map (fun d => d.parameters.length) = some 0 := by decide +kernel
theorem mcX5_play : Cond.code yX5_play cX5_play 2 (some .int) ∈ AW := ac27 _ (List.mem_of_getElem? (i := 22) rfl)
theorem miX5_play : Cond.instanceMethod yX5_play ∈ AW := ac27 _ (List.mem_of_getElem? (i := 20) rfl)
theorem meX5_play : Cond.selects RX5 yX5_play yX5_play ∈ AW := ac27 _ (List.mem_of_getElem? (i := 21) rfl)
theorem hdX5_play : yX5_play.cls ≠ "java/lang/invoke/MethodHandle" ∧ yX5_play.cls ≠ "java/lang/invoke/VarHandle" ∧ (parseMethodDescriptor yX5_play.desc).map (fun d => d.parameters.length) = some 0 := by decide +kernel
theorem mcX5_keep : Cond.code yX5_keep cX5_keep 1 (some .int) ∈ AW := ac30 _ (List.mem_of_getElem? (i := 5) rfl)
theorem miX5_keep : Cond.instanceMethod yX5_keep ∈ AW := ac30 _ (List.mem_of_getElem? (i := 3) rfl)
theorem meX5_keep : Cond.selects RX5 yX5_keep yX5_keep ∈ AW := ac30 _ (List.mem_of_getElem? (i := 4) rfl)
theorem hdX5_keep : yX5_keep.cls ≠ "java/lang/invoke/MethodHandle" ∧ yX5_keep.cls ≠ "java/lang/invoke/VarHandle" ∧ (parseMethodDescriptor yX5_keep.desc).map (fun d => d.parameters.length) = some 0 := by decide +kernel
theorem mcX5_goBack : Cond.code yX5_goBack cX5_goBack 1 (some .int) ∈ AW := ac28 _ (List.mem_of_getElem? (i := 1) rfl)
theorem miX5_goBack : Cond.instanceMethod yX5_goBack ∈ AW := ac27 _ (List.mem_of_getElem? (i := 23) rfl)
theorem meX5_goBack : Cond.selects RX5 yX5_goBack yX5_goBack ∈ AW := ac28 _ (List.mem_of_getElem? (i := 0) rfl)
theorem hdX5_goBack : yX5_goBack.cls ≠ "java/lang/invoke/MethodHandle" ∧ yX5_goBack.cls ≠ "java/lang/invoke/VarHandle" ∧ (parseMethodDescriptor yX5_goBack.desc).map (fun d => d.parameters.length) = some 0 := by decide +kernel
theorem mcX5_undo : Cond.code yX5_undo cX5_undo 1 (some .int) ∈ AW := ac28 _ (List.mem_of_getElem? (i := 4) rfl)
theorem miX5_undo : Cond.instanceMethod yX5_undo ∈ AW := ac28 _ (List.mem_of_getElem? (i := 2) rfl)
theorem meX5_undo : Cond.selects RX5 yX5_undo yX5_undo ∈ AW := ac28 _ (List.mem_of_getElem? (i := 3) rfl)
theorem hdX5_undo : yX5_undo.cls ≠ "java/lang/invoke/MethodHandle" ∧ yX5_undo.cls ≠ "java/lang/invoke/VarHandle" ∧ (parseMethodDescriptor yX5_undo.desc).map (fun d => d.parameters.length) = some 0 := by decide +kernel
theorem mcX5_wink : Cond.code yX5_wink cX5_wink 3 (some .int) ∈ AW := ac15 _ (List.mem_of_getElem? (i := 7) rfl)
theorem miX5_wink : Cond.instanceMethod yX5_wink ∈ AW := ac15 _ (List.mem_of_getElem? (i := 5) rfl)
theorem meX5_wink : Cond.selects RX5 yX5_wink yX5_wink ∈ AW := ac15 _ (List.mem_of_getElem? (i := 6) rfl)
theorem hdX5_wink : yX5_wink.cls ≠ "java/lang/invoke/MethodHandle" ∧ yX5_wink.cls ≠ "java/lang/invoke/VarHandle" ∧ (parseMethodDescriptor yX5_wink.desc).map (fun d => d.parameters.length) = some 2 := by decide +kernel
theorem mcX5_pile : Cond.code yX5_pile cX5_pile 5 (some .int) ∈ AW := ac16 _ (List.mem_of_getElem? (i := 2) rfl)
theorem miX5_pile : Cond.instanceMethod yX5_pile ∈ AW := ac16 _ (List.mem_of_getElem? (i := 0) rfl)
theorem meX5_pile : Cond.selects RX5 yX5_pile yX5_pile ∈ AW := ac16 _ (List.mem_of_getElem? (i := 1) rfl)
theorem hdX5_pile : yX5_pile.cls ≠ "java/lang/invoke/MethodHandle" ∧ yX5_pile.cls ≠ "java/lang/invoke/VarHandle" ∧ (parseMethodDescriptor yX5_pile.desc).map (fun d => d.parameters.length) = some 3 := by decide +kernel
theorem mcX5_isColour : Cond.code yX5_isColour cX5_isColour 1 (some .boolean) ∈ AW := ac12 _ (List.mem_of_getElem? (i := 19) rfl)
theorem msX5_isColour : Cond.static yX5_isColour ∈ AW := ac12 _ (List.mem_of_getElem? (i := 18) rfl)
theorem hdX5_isColour : yX5_isColour.cls ≠ "java/lang/invoke/MethodHandle" ∧ yX5_isColour.cls ≠ "java/lang/invoke/VarHandle" ∧ (parseMethodDescriptor yX5_isColour.desc).map (fun d => d.parameters.length) = some 1 := by decide +kernel
theorem mcX5_colour : Cond.code yX5_colour cX5_colour 3 (some .int) ∈ AW := ac15 _ (List.mem_of_getElem? (i := 22) rfl)
theorem miX5_colour : Cond.instanceMethod yX5_colour ∈ AW := ac15 _ (List.mem_of_getElem? (i := 20) rfl)
theorem meX5_colour : Cond.selects RX5 yX5_colour yX5_colour ∈ AW := ac15 _ (List.mem_of_getElem? (i := 21) rfl)
theorem hdX5_colour : yX5_colour.cls ≠ "java/lang/invoke/MethodHandle" ∧ yX5_colour.cls ≠ "java/lang/invoke/VarHandle" ∧ (parseMethodDescriptor yX5_colour.desc).map (fun d => d.parameters.length) = some 2 := by decide +kernel
theorem mcX5_count : Cond.code yX5_count cX5_count 2 (some .int) ∈ AW := ac16 _ (List.mem_of_getElem? (i := 8) rfl)
theorem miX5_count : Cond.instanceMethod yX5_count ∈ AW := ac16 _ (List.mem_of_getElem? (i := 6) rfl)
theorem meX5_count : Cond.selects RX5 yX5_count yX5_count ∈ AW := ac16 _ (List.mem_of_getElem? (i := 7) rfl)
theorem hdX5_count : yX5_count.cls ≠ "java/lang/invoke/MethodHandle" ∧ yX5_count.cls ≠ "java/lang/invoke/VarHandle" ∧ (parseMethodDescriptor yX5_count.desc).map (fun d => d.parameters.length) = some 1 := by decide +kernel
theorem mcX5_why : Cond.code yX5_why cX5_why 5 (some .int) ∈ AW := ac28 _ (List.mem_of_getElem? (i := 7) rfl)
theorem miX5_why : Cond.instanceMethod yX5_why ∈ AW := ac28 _ (List.mem_of_getElem? (i := 5) rfl)
theorem meX5_why : Cond.selects RX5 yX5_why yX5_why ∈ AW := ac28 _ (List.mem_of_getElem? (i := 6) rfl)
theorem hdX5_why : yX5_why.cls ≠ "java/lang/invoke/MethodHandle" ∧ yX5_why.cls ≠ "java/lang/invoke/VarHandle" ∧ (parseMethodDescriptor yX5_why.desc).map (fun d => d.parameters.length) = some 4 := by decide +kernel
theorem mcX5_lands : Cond.code yX5_lands cX5_lands 4 (some .int) ∈ AW := ac15 _ (List.mem_of_getElem? (i := 14) rfl)
theorem miX5_lands : Cond.instanceMethod yX5_lands ∈ AW := ac15 _ (List.mem_of_getElem? (i := 12) rfl)
theorem meX5_lands : Cond.selects RX5 yX5_lands yX5_lands ∈ AW := ac15 _ (List.mem_of_getElem? (i := 13) rfl)
theorem hdX5_lands : yX5_lands.cls ≠ "java/lang/invoke/MethodHandle" ∧ yX5_lands.cls ≠ "java/lang/invoke/VarHandle" ∧ (parseMethodDescriptor yX5_lands.desc).map (fun d => d.parameters.length) = some 3 := by decide +kernel
theorem mcX5_tryFlight : Cond.code yX5_tryFlight cX5_tryFlight 5 none ∈ AW := ac14 _ (List.mem_of_getElem? (i := 13) rfl)
theorem miX5_tryFlight : Cond.instanceMethod yX5_tryFlight ∈ AW := ac14 _ (List.mem_of_getElem? (i := 11) rfl)
theorem meX5_tryFlight : Cond.selects RX5 yX5_tryFlight yX5_tryFlight ∈ AW := ac14 _ (List.mem_of_getElem? (i := 12) rfl)
theorem hdX5_tryFlight : yX5_tryFlight.cls ≠ "java/lang/invoke/MethodHandle" ∧ yX5_tryFlight.cls ≠ "java/lang/invoke/VarHandle" ∧ (parseMethodDescriptor yX5_tryFlight.desc).map (fun d => d.parameters.length) = some 3 := by decide +kernel
theorem mcX5_teamOf : Cond.code yX5_teamOf cX5_teamOf 1 (some .int) ∈ AW := ac14 _ (List.mem_of_getElem? (i := 16) rfl)
theorem msX5_teamOf : Cond.static yX5_teamOf ∈ AW := ac14 _ (List.mem_of_getElem? (i := 15) rfl)
theorem hdX5_teamOf : yX5_teamOf.cls ≠ "java/lang/invoke/MethodHandle" ∧ yX5_teamOf.cls ≠ "java/lang/invoke/VarHandle" ∧ (parseMethodDescriptor yX5_teamOf.desc).map (fun d => d.parameters.length) = some 1 := by decide +kernel
theorem mcX5_ifFlown : Cond.code yX5_ifFlown cX5_ifFlown 5 (some .int) ∈ AW := ac28 _ (List.mem_of_getElem? (i := 10) rfl)
theorem miX5_ifFlown : Cond.instanceMethod yX5_ifFlown ∈ AW := ac28 _ (List.mem_of_getElem? (i := 8) rfl)
theorem meX5_ifFlown : Cond.selects RX5 yX5_ifFlown yX5_ifFlown ∈ AW := ac28 _ (List.mem_of_getElem? (i := 9) rfl)
theorem hdX5_ifFlown : yX5_ifFlown.cls ≠ "java/lang/invoke/MethodHandle" ∧ yX5_ifFlown.cls ≠ "java/lang/invoke/VarHandle" ∧ (parseMethodDescriptor yX5_ifFlown.desc).map (fun d => d.parameters.length) = some 4 := by decide +kernel
theorem mcX5_best : Cond.code yX5_best cX5_best 11 (some .int) ∈ AW := ac17 _ (List.mem_of_getElem? (i := 0) rfl)
theorem miX5_best : Cond.instanceMethod yX5_best ∈ AW := ac16 _ (List.mem_of_getElem? (i := 22) rfl)
theorem meX5_best : Cond.selects RX5 yX5_best yX5_best ∈ AW := ac16 _ (List.mem_of_getElem? (i := 23) rfl)
theorem hdX5_best : yX5_best.cls ≠ "java/lang/invoke/MethodHandle" ∧ yX5_best.cls ≠ "java/lang/invoke/VarHandle" ∧ (parseMethodDescriptor yX5_best.desc).map (fun d => d.parameters.length) = some 0 := by decide +kernel
theorem mcX5_flightsTo : Cond.code yX5_flightsTo cX5_flightsTo 2 (some .int) ∈ AW := ac15 _ (List.mem_of_getElem? (i := 18) rfl)
theorem miX5_flightsTo : Cond.instanceMethod yX5_flightsTo ∈ AW := ac15 _ (List.mem_of_getElem? (i := 16) rfl)
theorem meX5_flightsTo : Cond.selects RX5 yX5_flightsTo yX5_flightsTo ∈ AW := ac15 _ (List.mem_of_getElem? (i := 17) rfl)
theorem hdX5_flightsTo : yX5_flightsTo.cls ≠ "java/lang/invoke/MethodHandle" ∧ yX5_flightsTo.cls ≠ "java/lang/invoke/VarHandle" ∧ (parseMethodDescriptor yX5_flightsTo.desc).map (fun d => d.parameters.length) = some 1 := by decide +kernel
theorem mcX5_pottedShare : Cond.code yX5_pottedShare cX5_pottedShare 1 (some .double) ∈ AW := ac17 _ (List.mem_of_getElem? (i := 4) rfl)
theorem miX5_pottedShare : Cond.instanceMethod yX5_pottedShare ∈ AW := ac17 _ (List.mem_of_getElem? (i := 2) rfl)
theorem meX5_pottedShare : Cond.selects RX5 yX5_pottedShare yX5_pottedShare ∈ AW := ac17 _ (List.mem_of_getElem? (i := 3) rfl)
theorem hdX5_pottedShare : yX5_pottedShare.cls ≠ "java/lang/invoke/MethodHandle" ∧ yX5_pottedShare.cls ≠ "java/lang/invoke/VarHandle" ∧ (parseMethodDescriptor yX5_pottedShare.desc).map (fun d => d.parameters.length) = some 0 := by decide +kernel
theorem mcX5_meanPile : Cond.code yX5_meanPile cX5_meanPile 2 (some .float) ∈ AW := ac17 _ (List.mem_of_getElem? (i := 11) rfl)
theorem miX5_meanPile : Cond.instanceMethod yX5_meanPile ∈ AW := ac17 _ (List.mem_of_getElem? (i := 9) rfl)
theorem meX5_meanPile : Cond.selects RX5 yX5_meanPile yX5_meanPile ∈ AW := ac17 _ (List.mem_of_getElem? (i := 10) rfl)
theorem hdX5_meanPile : yX5_meanPile.cls ≠ "java/lang/invoke/MethodHandle" ∧ yX5_meanPile.cls ≠ "java/lang/invoke/VarHandle" ∧ (parseMethodDescriptor yX5_meanPile.desc).map (fun d => d.parameters.length) = some 0 := by decide +kernel
theorem mcX5_mixed : Cond.code yX5_mixed cX5_mixed 4 (some .long) ∈ AW := ac15 _ (List.mem_of_getElem? (i := 10) rfl)
theorem msX5_mixed : Cond.static yX5_mixed ∈ AW := ac15 _ (List.mem_of_getElem? (i := 9) rfl)
theorem hdX5_mixed : yX5_mixed.cls ≠ "java/lang/invoke/MethodHandle" ∧ yX5_mixed.cls ≠ "java/lang/invoke/VarHandle" ∧ (parseMethodDescriptor yX5_mixed.desc).map (fun d => d.parameters.length) = some 2 := by decide +kernel
theorem mcX5_withWinks : Cond.code yX5_withWinks cX5_withWinks 7 (some .long) ∈ AW := ac16 _ (List.mem_of_getElem? (i := 12) rfl)
theorem miX5_withWinks : Cond.instanceMethod yX5_withWinks ∈ AW := ac16 _ (List.mem_of_getElem? (i := 10) rfl)
theorem meX5_withWinks : Cond.selects RX5 yX5_withWinks yX5_withWinks ∈ AW := ac16 _ (List.mem_of_getElem? (i := 11) rfl)
theorem hdX5_withWinks : yX5_withWinks.cls ≠ "java/lang/invoke/MethodHandle" ∧ yX5_withWinks.cls ≠ "java/lang/invoke/VarHandle" ∧ (parseMethodDescriptor yX5_withWinks.desc).map (fun d => d.parameters.length) = some 1 := by decide +kernel
theorem mcX5_withColours : Cond.code yX5_withColours cX5_withColours 7 (some .long) ∈ AW := ac16 _ (List.mem_of_getElem? (i := 16) rfl)
theorem miX5_withColours : Cond.instanceMethod yX5_withColours ∈ AW := ac16 _ (List.mem_of_getElem? (i := 14) rfl)
theorem meX5_withColours : Cond.selects RX5 yX5_withColours yX5_withColours ∈ AW := ac16 _ (List.mem_of_getElem? (i := 15) rfl)
theorem hdX5_withColours : yX5_withColours.cls ≠ "java/lang/invoke/MethodHandle" ∧ yX5_withColours.cls ≠ "java/lang/invoke/VarHandle" ∧ (parseMethodDescriptor yX5_withColours.desc).map (fun d => d.parameters.length) = some 1 := by decide +kernel
theorem mcX5_withPiles : Cond.code yX5_withPiles cX5_withPiles 7 (some .long) ∈ AW := ac16 _ (List.mem_of_getElem? (i := 20) rfl)
theorem miX5_withPiles : Cond.instanceMethod yX5_withPiles ∈ AW := ac16 _ (List.mem_of_getElem? (i := 18) rfl)
theorem meX5_withPiles : Cond.selects RX5 yX5_withPiles yX5_withPiles ∈ AW := ac16 _ (List.mem_of_getElem? (i := 19) rfl)
theorem hdX5_withPiles : yX5_withPiles.cls ≠ "java/lang/invoke/MethodHandle" ∧ yX5_withPiles.cls ≠ "java/lang/invoke/VarHandle" ∧ (parseMethodDescriptor yX5_withPiles.desc).map (fun d => d.parameters.length) = some 1 := by decide +kernel
theorem mcX5_bitsOf : Cond.code yX5_bitsOf cX5_bitsOf 10 (some .long) ∈ AW := ac17 _ (List.mem_of_getElem? (i := 7) rfl)
theorem msX5_bitsOf : Cond.static yX5_bitsOf ∈ AW := ac17 _ (List.mem_of_getElem? (i := 6) rfl)
theorem hdX5_bitsOf : yX5_bitsOf.cls ≠ "java/lang/invoke/MethodHandle" ∧ yX5_bitsOf.cls ≠ "java/lang/invoke/VarHandle" ∧ (parseMethodDescriptor yX5_bitsOf.desc).map (fun d => d.parameters.length) = some 3 := by decide +kernel
theorem mcX5_withText : Cond.code yX5_withText cX5_withText 6 (some .long) ∈ AW := ac17 _ (List.mem_of_getElem? (i := 15) rfl)
theorem miX5_withText : Cond.instanceMethod yX5_withText ∈ AW := ac17 _ (List.mem_of_getElem? (i := 13) rfl)
theorem meX5_withText : Cond.selects RX5 yX5_withText yX5_withText ∈ AW := ac17 _ (List.mem_of_getElem? (i := 14) rfl)
theorem hdX5_withText : yX5_withText.cls ≠ "java/lang/invoke/MethodHandle" ∧ yX5_withText.cls ≠ "java/lang/invoke/VarHandle" ∧ (parseMethodDescriptor yX5_withText.desc).map (fun d => d.parameters.length) = some 1 := by decide +kernel
theorem mcX5_digest : Cond.code yX5_digest cX5_digest 4 (some .long) ∈ AW := ac31 _ (List.mem_of_getElem? (i := 20) rfl)
theorem miX5_digest : Cond.instanceMethod yX5_digest ∈ AW := ac31 _ (List.mem_of_getElem? (i := 18) rfl)
theorem meX5_digest : Cond.selects RX5 yX5_digest yX5_digest ∈ AW := ac31 _ (List.mem_of_getElem? (i := 19) rfl)
theorem hdX5_digest : yX5_digest.cls ≠ "java/lang/invoke/MethodHandle" ∧ yX5_digest.cls ≠ "java/lang/invoke/VarHandle" ∧ (parseMethodDescriptor yX5_digest.desc).map (fun d => d.parameters.length) = some 0 := by decide +kernel
theorem mcX6_base : Cond.code yX6_base cX6_base 1 (some .int) ∈ AW := ac18 _ (List.mem_of_getElem? (i := 3) rfl)
theorem msX6_base : Cond.static yX6_base ∈ AW := ac18 _ (List.mem_of_getElem? (i := 1) rfl)
theorem hdX6_base : yX6_base.cls ≠ "java/lang/invoke/MethodHandle" ∧ yX6_base.cls ≠ "java/lang/invoke/VarHandle" ∧ (parseMethodDescriptor yX6_base.desc).map (fun d => d.parameters.length) = some 1 := by decide +kernel
theorem mcX6_init : Cond.code yX6_init cX6_init 2 none ∈ AW := ac28 _ (List.mem_of_getElem? (i := 17) rfl)
theorem miX6_init : Cond.instanceMethod yX6_init ∈ AW := ac28 _ (List.mem_of_getElem? (i := 16) rfl)
theorem hdX6_init : yX6_init.cls ≠ "java/lang/invoke/MethodHandle" ∧ yX6_init.cls ≠ "java/lang/invoke/VarHandle" ∧ (parseMethodDescriptor yX6_init.desc).map (fun d => d.parameters.length) = some 0 := by decide +kernel
theorem mcX6_thrown : Cond.code yX6_thrown cX6_thrown 1 (some .int) ∈ AW := ac28 _ (List.mem_of_getElem? (i := 23) rfl)
theorem miX6_thrown : Cond.instanceMethod yX6_thrown ∈ AW := ac28 _ (List.mem_of_getElem? (i := 21) rfl)
theorem meX6_thrown : Cond.selects RX6 yX6_thrown yX6_thrown ∈ AW := ac28 _ (List.mem_of_getElem? (i := 22) rfl)
theorem hdX6_thrown : yX6_thrown.cls ≠ "java/lang/invoke/MethodHandle" ∧ yX6_thrown.cls ≠ "java/lang/invoke/VarHandle" ∧ (parseMethodDescriptor yX6_thrown.desc).map (fun d => d.parameters.length) = some 0 := by decide +kernel
theorem mcX6_fails : Cond.code yX6_fails cX6_fails 2 (some .int) ∈ AW := ac20 _ (List.mem_of_getElem? (i := 18) rfl)
theorem miX6_fails : Cond.instanceMethod yX6_fails ∈ AW := ac20 _ (List.mem_of_getElem? (i := 16) rfl)
theorem meX6_fails : Cond.selects RX6 yX6_fails yX6_fails ∈ AW := ac20 _ (List.mem_of_getElem? (i := 17) rfl)
theorem hdX6_fails : yX6_fails.cls ≠ "java/lang/invoke/MethodHandle" ∧ yX6_fails.cls ≠ "java/lang/invoke/VarHandle" ∧ (parseMethodDescriptor yX6_fails.desc).map (fun d => d.parameters.length) = some 1 := by decide +kernel
theorem mcX6_in : Cond.code yX6_in cX6_in 3 (some .boolean) ∈ AW := ac19 _ (List.mem_of_getElem? (i := 14) rfl)
theorem msX6_in : Cond.static yX6_in ∈ AW := ac19 _ (List.mem_of_getElem? (i := 13) rfl)
theorem hdX6_in : yX6_in.cls ≠ "java/lang/invoke/MethodHandle" ∧ yX6_in.cls ≠ "java/lang/invoke/VarHandle" ∧ (parseMethodDescriptor yX6_in.desc).map (fun d => d.parameters.length) = some 3 := by decide +kernel
theorem mcX6_eastOf : Cond.code yX6_eastOf cX6_eastOf 1 (some .int) ∈ AW := ac19 _ (List.mem_of_getElem? (i := 8) rfl)
theorem msX6_eastOf : Cond.static yX6_eastOf ∈ AW := ac19 _ (List.mem_of_getElem? (i := 7) rfl)
theorem hdX6_eastOf : yX6_eastOf.cls ≠ "java/lang/invoke/MethodHandle" ∧ yX6_eastOf.cls ≠ "java/lang/invoke/VarHandle" ∧ (parseMethodDescriptor yX6_eastOf.desc).map (fun d => d.parameters.length) = some 1 := by decide +kernel
theorem mcX6_southOf : Cond.code yX6_southOf cX6_southOf 1 (some .int) ∈ AW := ac19 _ (List.mem_of_getElem? (i := 11) rfl)
theorem msX6_southOf : Cond.static yX6_southOf ∈ AW := ac19 _ (List.mem_of_getElem? (i := 10) rfl)
theorem hdX6_southOf : yX6_southOf.cls ≠ "java/lang/invoke/MethodHandle" ∧ yX6_southOf.cls ≠ "java/lang/invoke/VarHandle" ∧ (parseMethodDescriptor yX6_southOf.desc).map (fun d => d.parameters.length) = some 1 := by decide +kernel
theorem mcX6_record : Cond.code yX6_record cX6_record 2 none ∈ AW := ac21 _ (List.mem_of_getElem? (i := 2) rfl)
theorem miX6_record : Cond.instanceMethod yX6_record ∈ AW := ac21 _ (List.mem_of_getElem? (i := 0) rfl)
theorem meX6_record : Cond.selects RX6 yX6_record yX6_record ∈ AW := ac21 _ (List.mem_of_getElem? (i := 1) rfl)
theorem hdX6_record : yX6_record.cls ≠ "java/lang/invoke/MethodHandle" ∧ yX6_record.cls ≠ "java/lang/invoke/VarHandle" ∧ (parseMethodDescriptor yX6_record.desc).map (fun d => d.parameters.length) = some 0 := by decide +kernel
theorem mcX6_putAside : Cond.code yX6_putAside cX6_putAside 2 none ∈ AW := ac24 _ (List.mem_of_getElem? (i := 17) rfl)
theorem miX6_putAside : Cond.instanceMethod yX6_putAside ∈ AW := ac24 _ (List.mem_of_getElem? (i := 15) rfl)
theorem meX6_putAside : Cond.selects RX6 yX6_putAside yX6_putAside ∈ AW := ac24 _ (List.mem_of_getElem? (i := 16) rfl)
theorem hdX6_putAside : yX6_putAside.cls ≠ "java/lang/invoke/MethodHandle" ∧ yX6_putAside.cls ≠ "java/lang/invoke/VarHandle" ∧ (parseMethodDescriptor yX6_putAside.desc).map (fun d => d.parameters.length) = some 0 := by decide +kernel
theorem mcX6_takeBack : Cond.code yX6_takeBack cX6_takeBack 2 none ∈ AW := ac24 _ (List.mem_of_getElem? (i := 21) rfl)
theorem miX6_takeBack : Cond.instanceMethod yX6_takeBack ∈ AW := ac24 _ (List.mem_of_getElem? (i := 19) rfl)
theorem meX6_takeBack : Cond.selects RX6 yX6_takeBack yX6_takeBack ∈ AW := ac24 _ (List.mem_of_getElem? (i := 20) rfl)
theorem hdX6_takeBack : yX6_takeBack.cls ≠ "java/lang/invoke/MethodHandle" ∧ yX6_takeBack.cls ≠ "java/lang/invoke/VarHandle" ∧ (parseMethodDescriptor yX6_takeBack.desc).map (fun d => d.parameters.length) = some 0 := by decide +kernel
theorem mcX6_lying : Cond.code yX6_lying cX6_lying 4 (some .int) ∈ AW := ac18 _ (List.mem_of_getElem? (i := 13) rfl)
theorem miX6_lying : Cond.instanceMethod yX6_lying ∈ AW := ac18 _ (List.mem_of_getElem? (i := 11) rfl)
theorem meX6_lying : Cond.selects RX6 yX6_lying yX6_lying ∈ AW := ac18 _ (List.mem_of_getElem? (i := 12) rfl)
theorem hdX6_lying : yX6_lying.cls ≠ "java/lang/invoke/MethodHandle" ∧ yX6_lying.cls ≠ "java/lang/invoke/VarHandle" ∧ (parseMethodDescriptor yX6_lying.desc).map (fun d => d.parameters.length) = some 1 := by decide +kernel
theorem mcX6_winkAt : Cond.code yX6_winkAt cX6_winkAt 4 (some .int) ∈ AW := ac20 _ (List.mem_of_getElem? (i := 11) rfl)
theorem miX6_winkAt : Cond.instanceMethod yX6_winkAt ∈ AW := ac20 _ (List.mem_of_getElem? (i := 9) rfl)
theorem meX6_winkAt : Cond.selects RX6 yX6_winkAt yX6_winkAt ∈ AW := ac20 _ (List.mem_of_getElem? (i := 10) rfl)
theorem hdX6_winkAt : yX6_winkAt.cls ≠ "java/lang/invoke/MethodHandle" ∧ yX6_winkAt.cls ≠ "java/lang/invoke/VarHandle" ∧ (parseMethodDescriptor yX6_winkAt.desc).map (fun d => d.parameters.length) = some 2 := by decide +kernel
theorem mcX6_isPotted : Cond.code yX6_isPotted cX6_isPotted 2 (some .boolean) ∈ AW := ac18 _ (List.mem_of_getElem? (i := 9) rfl)
theorem miX6_isPotted : Cond.instanceMethod yX6_isPotted ∈ AW := ac18 _ (List.mem_of_getElem? (i := 7) rfl)
theorem meX6_isPotted : Cond.selects RX6 yX6_isPotted yX6_isPotted ∈ AW := ac18 _ (List.mem_of_getElem? (i := 8) rfl)
theorem hdX6_isPotted : yX6_isPotted.cls ≠ "java/lang/invoke/MethodHandle" ∧ yX6_isPotted.cls ≠ "java/lang/invoke/VarHandle" ∧ (parseMethodDescriptor yX6_isPotted.desc).map (fun d => d.parameters.length) = some 1 := by decide +kernel
theorem mcX6_isCovered : Cond.code yX6_isCovered cX6_isCovered 2 (some .boolean) ∈ AW := ac18 _ (List.mem_of_getElem? (i := 21) rfl)
theorem miX6_isCovered : Cond.instanceMethod yX6_isCovered ∈ AW := ac18 _ (List.mem_of_getElem? (i := 19) rfl)
theorem meX6_isCovered : Cond.selects RX6 yX6_isCovered yX6_isCovered ∈ AW := ac18 _ (List.mem_of_getElem? (i := 20) rfl)
theorem hdX6_isCovered : yX6_isCovered.cls ≠ "java/lang/invoke/MethodHandle" ∧ yX6_isCovered.cls ≠ "java/lang/invoke/VarHandle" ∧ (parseMethodDescriptor yX6_isCovered.desc).map (fun d => d.parameters.length) = some 1 := by decide +kernel
theorem mcX6_pottedOf : Cond.code yX6_pottedOf cX6_pottedOf 4 (some .int) ∈ AW := ac18 _ (List.mem_of_getElem? (i := 17) rfl)
theorem miX6_pottedOf : Cond.instanceMethod yX6_pottedOf ∈ AW := ac18 _ (List.mem_of_getElem? (i := 15) rfl)
theorem meX6_pottedOf : Cond.selects RX6 yX6_pottedOf yX6_pottedOf ∈ AW := ac18 _ (List.mem_of_getElem? (i := 16) rfl)
theorem hdX6_pottedOf : yX6_pottedOf.cls ≠ "java/lang/invoke/MethodHandle" ∧ yX6_pottedOf.cls ≠ "java/lang/invoke/VarHandle" ∧ (parseMethodDescriptor yX6_pottedOf.desc).map (fun d => d.parameters.length) = some 1 := by decide +kernel
theorem mcX6_isOver : Cond.code yX6_isOver cX6_isOver 1 (some .boolean) ∈ AW := ac19 _ (List.mem_of_getElem? (i := 5) rfl)
theorem miX6_isOver : Cond.instanceMethod yX6_isOver ∈ AW := ac19 _ (List.mem_of_getElem? (i := 3) rfl)
theorem meX6_isOver : Cond.selects RX6 yX6_isOver yX6_isOver ∈ AW := ac19 _ (List.mem_of_getElem? (i := 4) rfl)
theorem hdX6_isOver : yX6_isOver.cls ≠ "java/lang/invoke/MethodHandle" ∧ yX6_isOver.cls ≠ "java/lang/invoke/VarHandle" ∧ (parseMethodDescriptor yX6_isOver.desc).map (fun d => d.parameters.length) = some 0 := by decide +kernel
theorem mcX6_pottedInAll : Cond.code yX6_pottedInAll cX6_pottedInAll 1 (some .int) ∈ AW := ac22 _ (List.mem_of_getElem? (i := 13) rfl)
theorem miX6_pottedInAll : Cond.instanceMethod yX6_pottedInAll ∈ AW := ac22 _ (List.mem_of_getElem? (i := 11) rfl)
theorem meX6_pottedInAll : Cond.selects RX6 yX6_pottedInAll yX6_pottedInAll ∈ AW := ac22 _ (List.mem_of_getElem? (i := 12) rfl)
theorem hdX6_pottedInAll : yX6_pottedInAll.cls ≠ "java/lang/invoke/MethodHandle" ∧ yX6_pottedInAll.cls ≠ "java/lang/invoke/VarHandle" ∧ (parseMethodDescriptor yX6_pottedInAll.desc).map (fun d => d.parameters.length) = some 0 := by decide +kernel
theorem mcX6_lay : Cond.code yX6_lay cX6_lay 3 none ∈ AW := ac20 _ (List.mem_of_getElem? (i := 0) rfl)
theorem miX6_lay : Cond.instanceMethod yX6_lay ∈ AW := ac19 _ (List.mem_of_getElem? (i := 22) rfl)
theorem meX6_lay : Cond.selects RX6 yX6_lay yX6_lay ∈ AW := ac19 _ (List.mem_of_getElem? (i := 23) rfl)
theorem hdX6_lay : yX6_lay.cls ≠ "java/lang/invoke/MethodHandle" ∧ yX6_lay.cls ≠ "java/lang/invoke/VarHandle" ∧ (parseMethodDescriptor yX6_lay.desc).map (fun d => d.parameters.length) = some 2 := by decide +kernel
theorem mcX6_points : Cond.code yX6_points cX6_points 4 (some .int) ∈ AW := ac19 _ (List.mem_of_getElem? (i := 1) rfl)
theorem miX6_points : Cond.instanceMethod yX6_points ∈ AW := ac18 _ (List.mem_of_getElem? (i := 23) rfl)
theorem meX6_points : Cond.selects RX6 yX6_points yX6_points ∈ AW := ac19 _ (List.mem_of_getElem? (i := 0) rfl)
theorem hdX6_points : yX6_points.cls ≠ "java/lang/invoke/MethodHandle" ∧ yX6_points.cls ≠ "java/lang/invoke/VarHandle" ∧ (parseMethodDescriptor yX6_points.desc).map (fun d => d.parameters.length) = some 1 := by decide +kernel
theorem mcX6_team : Cond.code yX6_team cX6_team 2 (some .int) ∈ AW := ac24 _ (List.mem_of_getElem? (i := 5) rfl)
theorem miX6_team : Cond.instanceMethod yX6_team ∈ AW := ac24 _ (List.mem_of_getElem? (i := 3) rfl)
theorem meX6_team : Cond.selects RX6 yX6_team yX6_team ∈ AW := ac24 _ (List.mem_of_getElem? (i := 4) rfl)
theorem hdX6_team : yX6_team.cls ≠ "java/lang/invoke/MethodHandle" ∧ yX6_team.cls ≠ "java/lang/invoke/VarHandle" ∧ (parseMethodDescriptor yX6_team.desc).map (fun d => d.parameters.length) = some 1 := by decide +kernel
theorem mcX6_pass : Cond.code yX6_pass cX6_pass 2 none ∈ AW := ac20 _ (List.mem_of_getElem? (i := 4) rfl)
theorem miX6_pass : Cond.instanceMethod yX6_pass ∈ AW := ac20 _ (List.mem_of_getElem? (i := 2) rfl)
theorem meX6_pass : Cond.selects RX6 yX6_pass yX6_pass ∈ AW := ac20 _ (List.mem_of_getElem? (i := 3) rfl)
theorem hdX6_pass : yX6_pass.cls ≠ "java/lang/invoke/MethodHandle" ∧ yX6_pass.cls ≠ "java/lang/invoke/VarHandle" ∧ (parseMethodDescriptor yX6_pass.desc).map (fun d => d.parameters.length) = some 0 := by decide +kernel
theorem mcX6_leads : Cond.code yX6_leads cX6_leads 9 (some .int) ∈ AW := ac19 _ (List.mem_of_getElem? (i := 20) rfl)
theorem msX6_leads : Cond.static yX6_leads ∈ AW := ac19 _ (List.mem_of_getElem? (i := 19) rfl)
theorem hdX6_leads : yX6_leads.cls ≠ "java/lang/invoke/MethodHandle" ∧ yX6_leads.cls ≠ "java/lang/invoke/VarHandle" ∧ (parseMethodDescriptor yX6_leads.desc).map (fun d => d.parameters.length) = some 3 := by decide +kernel
theorem mcX6_steps : Cond.code yX6_steps cX6_steps 2 (some .int) ∈ AW := ac19 _ (List.mem_of_getElem? (i := 17) rfl)
theorem msX6_steps : Cond.static yX6_steps ∈ AW := ac19 _ (List.mem_of_getElem? (i := 16) rfl)
theorem hdX6_steps : yX6_steps.cls ≠ "java/lang/invoke/MethodHandle" ∧ yX6_steps.cls ≠ "java/lang/invoke/VarHandle" ∧ (parseMethodDescriptor yX6_steps.desc).map (fun d => d.parameters.length) = some 2 := by decide +kernel
theorem mcX6_told : Cond.code yX6_told cX6_told 1 (some .int) ∈ AW := ac20 _ (List.mem_of_getElem? (i := 7) rfl)
theorem msX6_told : Cond.static yX6_told ∈ AW := ac20 _ (List.mem_of_getElem? (i := 6) rfl)
theorem hdX6_told : yX6_told.cls ≠ "java/lang/invoke/MethodHandle" ∧ yX6_told.cls ≠ "java/lang/invoke/VarHandle" ∧ (parseMethodDescriptor yX6_told.desc).map (fun d => d.parameters.length) = some 1 := by decide +kernel
theorem mcX6_whyNot : Cond.code yX6_whyNot cX6_whyNot 2 (some .int) ∈ AW := ac20 _ (List.mem_of_getElem? (i := 22) rfl)
theorem miX6_whyNot : Cond.instanceMethod yX6_whyNot ∈ AW := ac20 _ (List.mem_of_getElem? (i := 20) rfl)
theorem meX6_whyNot : Cond.selects RX6 yX6_whyNot yX6_whyNot ∈ AW := ac20 _ (List.mem_of_getElem? (i := 21) rfl)
theorem hdX6_whyNot : yX6_whyNot.cls ≠ "java/lang/invoke/MethodHandle" ∧ yX6_whyNot.cls ≠ "java/lang/invoke/VarHandle" ∧ (parseMethodDescriptor yX6_whyNot.desc).map (fun d => d.parameters.length) = some 1 := by decide +kernel
theorem mcX6_flies : Cond.code yX6_flies cX6_flies 5 (some .int) ∈ AW := ac21 _ (List.mem_of_getElem? (i := 6) rfl)
theorem miX6_flies : Cond.instanceMethod yX6_flies ∈ AW := ac21 _ (List.mem_of_getElem? (i := 4) rfl)
theorem meX6_flies : Cond.selects RX6 yX6_flies yX6_flies ∈ AW := ac21 _ (List.mem_of_getElem? (i := 5) rfl)
theorem hdX6_flies : yX6_flies.cls ≠ "java/lang/invoke/MethodHandle" ∧ yX6_flies.cls ≠ "java/lang/invoke/VarHandle" ∧ (parseMethodDescriptor yX6_flies.desc).map (fun d => d.parameters.length) = some 3 := by decide +kernel
theorem mcX6_beside : Cond.code yX6_beside cX6_beside 4 (some .int) ∈ AW := ac20 _ (List.mem_of_getElem? (i := 14) rfl)
theorem msX6_beside : Cond.static yX6_beside ∈ AW := ac20 _ (List.mem_of_getElem? (i := 13) rfl)
theorem hdX6_beside : yX6_beside.cls ≠ "java/lang/invoke/MethodHandle" ∧ yX6_beside.cls ≠ "java/lang/invoke/VarHandle" ∧ (parseMethodDescriptor yX6_beside.desc).map (fun d => d.parameters.length) = some 2 := by decide +kernel
theorem mcX6_whyNotLifted : Cond.code yX6_whyNotLifted cX6_whyNotLifted 5 (some .int) ∈ AW := ac21 _ (List.mem_of_getElem? (i := 10) rfl)
theorem miX6_whyNotLifted : Cond.instanceMethod yX6_whyNotLifted ∈ AW := ac21 _ (List.mem_of_getElem? (i := 8) rfl)
theorem meX6_whyNotLifted : Cond.selects RX6 yX6_whyNotLifted yX6_whyNotLifted ∈ AW := ac21 _ (List.mem_of_getElem? (i := 9) rfl)
theorem hdX6_whyNotLifted : yX6_whyNotLifted.cls ≠ "java/lang/invoke/MethodHandle" ∧ yX6_whyNotLifted.cls ≠ "java/lang/invoke/VarHandle" ∧ (parseMethodDescriptor yX6_whyNotLifted.desc).map (fun d => d.parameters.length) = some 3 := by decide +kernel
theorem mcX6_lifts : Cond.code yX6_lifts cX6_lifts 6 (some .int) ∈ AW := ac21 _ (List.mem_of_getElem? (i := 14) rfl)
theorem miX6_lifts : Cond.instanceMethod yX6_lifts ∈ AW := ac21 _ (List.mem_of_getElem? (i := 12) rfl)
theorem meX6_lifts : Cond.selects RX6 yX6_lifts yX6_lifts ∈ AW := ac21 _ (List.mem_of_getElem? (i := 13) rfl)
theorem hdX6_lifts : yX6_lifts.cls ≠ "java/lang/invoke/MethodHandle" ∧ yX6_lifts.cls ≠ "java/lang/invoke/VarHandle" ∧ (parseMethodDescriptor yX6_lifts.desc).map (fun d => d.parameters.length) = some 3 := by decide +kernel
theorem mcX6_fly : Cond.code yX6_fly cX6_fly 4 (some .int) ∈ AW := ac28 _ (List.mem_of_getElem? (i := 20) rfl)
theorem miX6_fly : Cond.instanceMethod yX6_fly ∈ AW := ac28 _ (List.mem_of_getElem? (i := 18) rfl)
theorem meX6_fly : Cond.selects RX6 yX6_fly yX6_fly ∈ AW := ac28 _ (List.mem_of_getElem? (i := 19) rfl)
theorem hdX6_fly : yX6_fly.cls ≠ "java/lang/invoke/MethodHandle" ∧ yX6_fly.cls ≠ "java/lang/invoke/VarHandle" ∧ (parseMethodDescriptor yX6_fly.desc).map (fun d => d.parameters.length) = some 3 := by decide +kernel
theorem mcX6_lift : Cond.code yX6_lift cX6_lift 5 (some .int) ∈ AW := ac29 _ (List.mem_of_getElem? (i := 2) rfl)
theorem miX6_lift : Cond.instanceMethod yX6_lift ∈ AW := ac29 _ (List.mem_of_getElem? (i := 0) rfl)
theorem meX6_lift : Cond.selects RX6 yX6_lift yX6_lift ∈ AW := ac29 _ (List.mem_of_getElem? (i := 1) rfl)
theorem hdX6_lift : yX6_lift.cls ≠ "java/lang/invoke/MethodHandle" ∧ yX6_lift.cls ≠ "java/lang/invoke/VarHandle" ∧ (parseMethodDescriptor yX6_lift.desc).map (fun d => d.parameters.length) = some 4 := by decide +kernel
theorem mcX6_set : Cond.code yX6_set cX6_set 3 (some .int) ∈ AW := ac29 _ (List.mem_of_getElem? (i := 5) rfl)
theorem miX6_set : Cond.instanceMethod yX6_set ∈ AW := ac29 _ (List.mem_of_getElem? (i := 3) rfl)
theorem meX6_set : Cond.selects RX6 yX6_set yX6_set ∈ AW := ac29 _ (List.mem_of_getElem? (i := 4) rfl)
theorem hdX6_set : yX6_set.cls ≠ "java/lang/invoke/MethodHandle" ∧ yX6_set.cls ≠ "java/lang/invoke/VarHandle" ∧ (parseMethodDescriptor yX6_set.desc).map (fun d => d.parameters.length) = some 1 := by decide +kernel
theorem mcX6_put : Cond.code yX6_put cX6_put 4 (some .int) ∈ AW := ac29 _ (List.mem_of_getElem? (i := 8) rfl)
theorem miX6_put : Cond.instanceMethod yX6_put ∈ AW := ac29 _ (List.mem_of_getElem? (i := 6) rfl)
theorem meX6_put : Cond.selects RX6 yX6_put yX6_put ∈ AW := ac29 _ (List.mem_of_getElem? (i := 7) rfl)
theorem hdX6_put : yX6_put.cls ≠ "java/lang/invoke/MethodHandle" ∧ yX6_put.cls ≠ "java/lang/invoke/VarHandle" ∧ (parseMethodDescriptor yX6_put.desc).map (fun d => d.parameters.length) = some 3 := by decide +kernel
theorem mcX6_append : Cond.code yX6_append cX6_append 2 (some .int) ∈ AW := ac29 _ (List.mem_of_getElem? (i := 11) rfl)
theorem miX6_append : Cond.instanceMethod yX6_append ∈ AW := ac29 _ (List.mem_of_getElem? (i := 9) rfl)
theorem meX6_append : Cond.selects RX6 yX6_append yX6_append ∈ AW := ac29 _ (List.mem_of_getElem? (i := 10) rfl)
theorem hdX6_append : yX6_append.cls ≠ "java/lang/invoke/MethodHandle" ∧ yX6_append.cls ≠ "java/lang/invoke/VarHandle" ∧ (parseMethodDescriptor yX6_append.desc).map (fun d => d.parameters.length) = some 1 := by decide +kernel
theorem mcX6_clearBuffer : Cond.code yX6_clearBuffer cX6_clearBuffer 2 (some .int) ∈ AW := ac29 _ (List.mem_of_getElem? (i := 17) rfl)
theorem miX6_clearBuffer : Cond.instanceMethod yX6_clearBuffer ∈ AW := ac29 _ (List.mem_of_getElem? (i := 15) rfl)
theorem meX6_clearBuffer : Cond.selects RX6 yX6_clearBuffer yX6_clearBuffer ∈ AW := ac29 _ (List.mem_of_getElem? (i := 16) rfl)
theorem hdX6_clearBuffer : yX6_clearBuffer.cls ≠ "java/lang/invoke/MethodHandle" ∧ yX6_clearBuffer.cls ≠ "java/lang/invoke/VarHandle" ∧ (parseMethodDescriptor yX6_clearBuffer.desc).map (fun d => d.parameters.length) = some 0 := by decide +kernel
theorem mcX6_takes : Cond.code yX6_takes cX6_takes 4 (some .boolean) ∈ AW := ac21 _ (List.mem_of_getElem? (i := 20) rfl)
theorem miX6_takes : Cond.instanceMethod yX6_takes ∈ AW := ac21 _ (List.mem_of_getElem? (i := 18) rfl)
theorem meX6_takes : Cond.selects RX6 yX6_takes yX6_takes ∈ AW := ac21 _ (List.mem_of_getElem? (i := 19) rfl)
theorem hdX6_takes : yX6_takes.cls ≠ "java/lang/invoke/MethodHandle" ∧ yX6_takes.cls ≠ "java/lang/invoke/VarHandle" ∧ (parseMethodDescriptor yX6_takes.desc).map (fun d => d.parameters.length) = some 2 := by decide +kernel
theorem mcX6_part : Cond.code yX6_part cX6_part 1 (some .boolean) ∈ AW := ac22 _ (List.mem_of_getElem? (i := 0) rfl)
theorem miX6_part : Cond.instanceMethod yX6_part ∈ AW := ac21 _ (List.mem_of_getElem? (i := 22) rfl)
theorem meX6_part : Cond.selects RX6 yX6_part yX6_part ∈ AW := ac21 _ (List.mem_of_getElem? (i := 23) rfl)
theorem hdX6_part : yX6_part.cls ≠ "java/lang/invoke/MethodHandle" ∧ yX6_part.cls ≠ "java/lang/invoke/VarHandle" ∧ (parseMethodDescriptor yX6_part.desc).map (fun d => d.parameters.length) = some 0 := by decide +kernel
theorem mcX6_isWhole : Cond.code yX6_isWhole cX6_isWhole 2 (some .boolean) ∈ AW := ac22 _ (List.mem_of_getElem? (i := 4) rfl)
theorem miX6_isWhole : Cond.instanceMethod yX6_isWhole ∈ AW := ac22 _ (List.mem_of_getElem? (i := 2) rfl)
theorem meX6_isWhole : Cond.selects RX6 yX6_isWhole yX6_isWhole ∈ AW := ac22 _ (List.mem_of_getElem? (i := 3) rfl)
theorem hdX6_isWhole : yX6_isWhole.cls ≠ "java/lang/invoke/MethodHandle" ∧ yX6_isWhole.cls ≠ "java/lang/invoke/VarHandle" ∧ (parseMethodDescriptor yX6_isWhole.desc).map (fun d => d.parameters.length) = some 0 := by decide +kernel
theorem mcX6_firstError : Cond.code yX6_firstError cX6_firstError 1 (some .int) ∈ AW := ac29 _ (List.mem_of_getElem? (i := 23) rfl)
theorem miX6_firstError : Cond.instanceMethod yX6_firstError ∈ AW := ac29 _ (List.mem_of_getElem? (i := 21) rfl)
theorem meX6_firstError : Cond.selects RX6 yX6_firstError yX6_firstError ∈ AW := ac29 _ (List.mem_of_getElem? (i := 22) rfl)
theorem hdX6_firstError : yX6_firstError.cls ≠ "java/lang/invoke/MethodHandle" ∧ yX6_firstError.cls ≠ "java/lang/invoke/VarHandle" ∧ (parseMethodDescriptor yX6_firstError.desc).map (fun d => d.parameters.length) = some 0 := by decide +kernel
theorem mcX6_does : Cond.code yX6_does cX6_does 5 (some .boolean) ∈ AW := ac22 _ (List.mem_of_getElem? (i := 8) rfl)
theorem miX6_does : Cond.instanceMethod yX6_does ∈ AW := ac22 _ (List.mem_of_getElem? (i := 6) rfl)
theorem meX6_does : Cond.selects RX6 yX6_does yX6_does ∈ AW := ac22 _ (List.mem_of_getElem? (i := 7) rfl)
theorem hdX6_does : yX6_does.cls ≠ "java/lang/invoke/MethodHandle" ∧ yX6_does.cls ≠ "java/lang/invoke/VarHandle" ∧ (parseMethodDescriptor yX6_does.desc).map (fun d => d.parameters.length) = some 1 := by decide +kernel
theorem mcX6_play : Cond.code yX6_play cX6_play 3 (some .int) ∈ AW := ac30 _ (List.mem_of_getElem? (i := 2) rfl)
theorem miX6_play : Cond.instanceMethod yX6_play ∈ AW := ac30 _ (List.mem_of_getElem? (i := 0) rfl)
theorem meX6_play : Cond.selects RX6 yX6_play yX6_play ∈ AW := ac30 _ (List.mem_of_getElem? (i := 1) rfl)
theorem hdX6_play : yX6_play.cls ≠ "java/lang/invoke/MethodHandle" ∧ yX6_play.cls ≠ "java/lang/invoke/VarHandle" ∧ (parseMethodDescriptor yX6_play.desc).map (fun d => d.parameters.length) = some 0 := by decide +kernel
theorem mcX6_keep : Cond.code yX6_keep cX6_keep 2 (some .int) ∈ AW := ac30 _ (List.mem_of_getElem? (i := 8) rfl)
theorem miX6_keep : Cond.instanceMethod yX6_keep ∈ AW := ac30 _ (List.mem_of_getElem? (i := 6) rfl)
theorem meX6_keep : Cond.selects RX6 yX6_keep yX6_keep ∈ AW := ac30 _ (List.mem_of_getElem? (i := 7) rfl)
theorem hdX6_keep : yX6_keep.cls ≠ "java/lang/invoke/MethodHandle" ∧ yX6_keep.cls ≠ "java/lang/invoke/VarHandle" ∧ (parseMethodDescriptor yX6_keep.desc).map (fun d => d.parameters.length) = some 0 := by decide +kernel
theorem mcX6_goBack : Cond.code yX6_goBack cX6_goBack 2 (some .int) ∈ AW := ac30 _ (List.mem_of_getElem? (i := 11) rfl)
theorem miX6_goBack : Cond.instanceMethod yX6_goBack ∈ AW := ac30 _ (List.mem_of_getElem? (i := 9) rfl)
theorem meX6_goBack : Cond.selects RX6 yX6_goBack yX6_goBack ∈ AW := ac30 _ (List.mem_of_getElem? (i := 10) rfl)
theorem hdX6_goBack : yX6_goBack.cls ≠ "java/lang/invoke/MethodHandle" ∧ yX6_goBack.cls ≠ "java/lang/invoke/VarHandle" ∧ (parseMethodDescriptor yX6_goBack.desc).map (fun d => d.parameters.length) = some 0 := by decide +kernel
theorem mcX6_undo : Cond.code yX6_undo cX6_undo 2 (some .int) ∈ AW := ac30 _ (List.mem_of_getElem? (i := 14) rfl)
theorem miX6_undo : Cond.instanceMethod yX6_undo ∈ AW := ac30 _ (List.mem_of_getElem? (i := 12) rfl)
theorem meX6_undo : Cond.selects RX6 yX6_undo yX6_undo ∈ AW := ac30 _ (List.mem_of_getElem? (i := 13) rfl)
theorem hdX6_undo : yX6_undo.cls ≠ "java/lang/invoke/MethodHandle" ∧ yX6_undo.cls ≠ "java/lang/invoke/VarHandle" ∧ (parseMethodDescriptor yX6_undo.desc).map (fun d => d.parameters.length) = some 0 := by decide +kernel
theorem mcX6_ofWink : Cond.code yX6_ofWink cX6_ofWink 3 (some .int) ∈ AW := ac22 _ (List.mem_of_getElem? (i := 17) rfl)
theorem miX6_ofWink : Cond.instanceMethod yX6_ofWink ∈ AW := ac22 _ (List.mem_of_getElem? (i := 15) rfl)
theorem meX6_ofWink : Cond.selects RX6 yX6_ofWink yX6_ofWink ∈ AW := ac22 _ (List.mem_of_getElem? (i := 16) rfl)
theorem hdX6_ofWink : yX6_ofWink.cls ≠ "java/lang/invoke/MethodHandle" ∧ yX6_ofWink.cls ≠ "java/lang/invoke/VarHandle" ∧ (parseMethodDescriptor yX6_ofWink.desc).map (fun d => d.parameters.length) = some 2 := by decide +kernel
theorem mcX6_wink : Cond.code yX6_wink cX6_wink 3 (some .int) ∈ AW := ac30 _ (List.mem_of_getElem? (i := 17) rfl)
theorem miX6_wink : Cond.instanceMethod yX6_wink ∈ AW := ac30 _ (List.mem_of_getElem? (i := 15) rfl)
theorem meX6_wink : Cond.selects RX6 yX6_wink yX6_wink ∈ AW := ac30 _ (List.mem_of_getElem? (i := 16) rfl)
theorem hdX6_wink : yX6_wink.cls ≠ "java/lang/invoke/MethodHandle" ∧ yX6_wink.cls ≠ "java/lang/invoke/VarHandle" ∧ (parseMethodDescriptor yX6_wink.desc).map (fun d => d.parameters.length) = some 2 := by decide +kernel
theorem mcX6_colours : Cond.code yX6_colours cX6_colours 4 (some .int) ∈ AW := ac22 _ (List.mem_of_getElem? (i := 21) rfl)
theorem miX6_colours : Cond.instanceMethod yX6_colours ∈ AW := ac22 _ (List.mem_of_getElem? (i := 19) rfl)
theorem meX6_colours : Cond.selects RX6 yX6_colours yX6_colours ∈ AW := ac22 _ (List.mem_of_getElem? (i := 20) rfl)
theorem hdX6_colours : yX6_colours.cls ≠ "java/lang/invoke/MethodHandle" ∧ yX6_colours.cls ≠ "java/lang/invoke/VarHandle" ∧ (parseMethodDescriptor yX6_colours.desc).map (fun d => d.parameters.length) = some 1 := by decide +kernel
theorem mcX6_ofPile : Cond.code yX6_ofPile cX6_ofPile 4 (some .int) ∈ AW := ac23 _ (List.mem_of_getElem? (i := 1) rfl)
theorem miX6_ofPile : Cond.instanceMethod yX6_ofPile ∈ AW := ac22 _ (List.mem_of_getElem? (i := 23) rfl)
theorem meX6_ofPile : Cond.selects RX6 yX6_ofPile yX6_ofPile ∈ AW := ac23 _ (List.mem_of_getElem? (i := 0) rfl)
theorem hdX6_ofPile : yX6_ofPile.cls ≠ "java/lang/invoke/MethodHandle" ∧ yX6_ofPile.cls ≠ "java/lang/invoke/VarHandle" ∧ (parseMethodDescriptor yX6_ofPile.desc).map (fun d => d.parameters.length) = some 2 := by decide +kernel
theorem mcX6_pile : Cond.code yX6_pile cX6_pile 4 (some .int) ∈ AW := ac30 _ (List.mem_of_getElem? (i := 20) rfl)
theorem miX6_pile : Cond.instanceMethod yX6_pile ∈ AW := ac30 _ (List.mem_of_getElem? (i := 18) rfl)
theorem meX6_pile : Cond.selects RX6 yX6_pile yX6_pile ∈ AW := ac30 _ (List.mem_of_getElem? (i := 19) rfl)
theorem hdX6_pile : yX6_pile.cls ≠ "java/lang/invoke/MethodHandle" ∧ yX6_pile.cls ≠ "java/lang/invoke/VarHandle" ∧ (parseMethodDescriptor yX6_pile.desc).map (fun d => d.parameters.length) = some 3 := by decide +kernel
theorem mcX6_coveredOf : Cond.code yX6_coveredOf cX6_coveredOf 4 (some .int) ∈ AW := ac23 _ (List.mem_of_getElem? (i := 5) rfl)
theorem miX6_coveredOf : Cond.instanceMethod yX6_coveredOf ∈ AW := ac23 _ (List.mem_of_getElem? (i := 3) rfl)
theorem meX6_coveredOf : Cond.selects RX6 yX6_coveredOf yX6_coveredOf ∈ AW := ac23 _ (List.mem_of_getElem? (i := 4) rfl)
theorem hdX6_coveredOf : yX6_coveredOf.cls ≠ "java/lang/invoke/MethodHandle" ∧ yX6_coveredOf.cls ≠ "java/lang/invoke/VarHandle" ∧ (parseMethodDescriptor yX6_coveredOf.desc).map (fun d => d.parameters.length) = some 1 := by decide +kernel
theorem mcX6_below : Cond.code yX6_below cX6_below 6 (some .int) ∈ AW := ac23 _ (List.mem_of_getElem? (i := 9) rfl)
theorem miX6_below : Cond.instanceMethod yX6_below ∈ AW := ac23 _ (List.mem_of_getElem? (i := 7) rfl)
theorem meX6_below : Cond.selects RX6 yX6_below yX6_below ∈ AW := ac23 _ (List.mem_of_getElem? (i := 8) rfl)
theorem hdX6_below : yX6_below.cls ≠ "java/lang/invoke/MethodHandle" ∧ yX6_below.cls ≠ "java/lang/invoke/VarHandle" ∧ (parseMethodDescriptor yX6_below.desc).map (fun d => d.parameters.length) = some 1 := by decide +kernel
theorem mcX6_ofColour : Cond.code yX6_ofColour cX6_ofColour 3 (some .int) ∈ AW := ac23 _ (List.mem_of_getElem? (i := 13) rfl)
theorem miX6_ofColour : Cond.instanceMethod yX6_ofColour ∈ AW := ac23 _ (List.mem_of_getElem? (i := 11) rfl)
theorem meX6_ofColour : Cond.selects RX6 yX6_ofColour yX6_ofColour ∈ AW := ac23 _ (List.mem_of_getElem? (i := 12) rfl)
theorem hdX6_ofColour : yX6_ofColour.cls ≠ "java/lang/invoke/MethodHandle" ∧ yX6_ofColour.cls ≠ "java/lang/invoke/VarHandle" ∧ (parseMethodDescriptor yX6_ofColour.desc).map (fun d => d.parameters.length) = some 2 := by decide +kernel
theorem mcX6_colour : Cond.code yX6_colour cX6_colour 3 (some .int) ∈ AW := ac30 _ (List.mem_of_getElem? (i := 23) rfl)
theorem miX6_colour : Cond.instanceMethod yX6_colour ∈ AW := ac30 _ (List.mem_of_getElem? (i := 21) rfl)
theorem meX6_colour : Cond.selects RX6 yX6_colour yX6_colour ∈ AW := ac30 _ (List.mem_of_getElem? (i := 22) rfl)
theorem hdX6_colour : yX6_colour.cls ≠ "java/lang/invoke/MethodHandle" ∧ yX6_colour.cls ≠ "java/lang/invoke/VarHandle" ∧ (parseMethodDescriptor yX6_colour.desc).map (fun d => d.parameters.length) = some 2 := by decide +kernel
theorem mcX6_piles : Cond.code yX6_piles cX6_piles 3 (some .int) ∈ AW := ac23 _ (List.mem_of_getElem? (i := 21) rfl)
theorem miX6_piles : Cond.instanceMethod yX6_piles ∈ AW := ac23 _ (List.mem_of_getElem? (i := 19) rfl)
theorem meX6_piles : Cond.selects RX6 yX6_piles yX6_piles ∈ AW := ac23 _ (List.mem_of_getElem? (i := 20) rfl)
theorem hdX6_piles : yX6_piles.cls ≠ "java/lang/invoke/MethodHandle" ∧ yX6_piles.cls ≠ "java/lang/invoke/VarHandle" ∧ (parseMethodDescriptor yX6_piles.desc).map (fun d => d.parameters.length) = some 0 := by decide +kernel
theorem mcX6_highest : Cond.code yX6_highest cX6_highest 3 (some .int) ∈ AW := ac24 _ (List.mem_of_getElem? (i := 1) rfl)
theorem miX6_highest : Cond.instanceMethod yX6_highest ∈ AW := ac23 _ (List.mem_of_getElem? (i := 23) rfl)
theorem meX6_highest : Cond.selects RX6 yX6_highest yX6_highest ∈ AW := ac24 _ (List.mem_of_getElem? (i := 0) rfl)
theorem hdX6_highest : yX6_highest.cls ≠ "java/lang/invoke/MethodHandle" ∧ yX6_highest.cls ≠ "java/lang/invoke/VarHandle" ∧ (parseMethodDescriptor yX6_highest.desc).map (fun d => d.parameters.length) = some 0 := by decide +kernel
theorem mcX6_covered : Cond.code yX6_covered cX6_covered 1 (some .int) ∈ AW := ac23 _ (List.mem_of_getElem? (i := 17) rfl)
theorem miX6_covered : Cond.instanceMethod yX6_covered ∈ AW := ac23 _ (List.mem_of_getElem? (i := 15) rfl)
theorem meX6_covered : Cond.selects RX6 yX6_covered yX6_covered ∈ AW := ac23 _ (List.mem_of_getElem? (i := 16) rfl)
theorem hdX6_covered : yX6_covered.cls ≠ "java/lang/invoke/MethodHandle" ∧ yX6_covered.cls ≠ "java/lang/invoke/VarHandle" ∧ (parseMethodDescriptor yX6_covered.desc).map (fun d => d.parameters.length) = some 0 := by decide +kernel
theorem mcX6_number : Cond.code yX6_number cX6_number 2 (some .int) ∈ AW := ac24 _ (List.mem_of_getElem? (i := 9) rfl)
theorem miX6_number : Cond.instanceMethod yX6_number ∈ AW := ac24 _ (List.mem_of_getElem? (i := 7) rfl)
theorem meX6_number : Cond.selects RX6 yX6_number yX6_number ∈ AW := ac24 _ (List.mem_of_getElem? (i := 8) rfl)
theorem hdX6_number : yX6_number.cls ≠ "java/lang/invoke/MethodHandle" ∧ yX6_number.cls ≠ "java/lang/invoke/VarHandle" ∧ (parseMethodDescriptor yX6_number.desc).map (fun d => d.parameters.length) = some 1 := by decide +kernel
theorem mcX6_count : Cond.code yX6_count cX6_count 2 (some .int) ∈ AW := ac31 _ (List.mem_of_getElem? (i := 2) rfl)
theorem miX6_count : Cond.instanceMethod yX6_count ∈ AW := ac31 _ (List.mem_of_getElem? (i := 0) rfl)
theorem meX6_count : Cond.selects RX6 yX6_count yX6_count ∈ AW := ac31 _ (List.mem_of_getElem? (i := 1) rfl)
theorem hdX6_count : yX6_count.cls ≠ "java/lang/invoke/MethodHandle" ∧ yX6_count.cls ≠ "java/lang/invoke/VarHandle" ∧ (parseMethodDescriptor yX6_count.desc).map (fun d => d.parameters.length) = some 1 := by decide +kernel
theorem mcX6_why : Cond.code yX6_why cX6_why 5 (some .int) ∈ AW := ac31 _ (List.mem_of_getElem? (i := 5) rfl)
theorem miX6_why : Cond.instanceMethod yX6_why ∈ AW := ac31 _ (List.mem_of_getElem? (i := 3) rfl)
theorem meX6_why : Cond.selects RX6 yX6_why yX6_why ∈ AW := ac31 _ (List.mem_of_getElem? (i := 4) rfl)
theorem hdX6_why : yX6_why.cls ≠ "java/lang/invoke/MethodHandle" ∧ yX6_why.cls ≠ "java/lang/invoke/VarHandle" ∧ (parseMethodDescriptor yX6_why.desc).map (fun d => d.parameters.length) = some 4 := by decide +kernel
theorem mcX6_landing : Cond.code yX6_landing cX6_landing 4 (some .int) ∈ AW := ac24 _ (List.mem_of_getElem? (i := 13) rfl)
theorem miX6_landing : Cond.instanceMethod yX6_landing ∈ AW := ac24 _ (List.mem_of_getElem? (i := 11) rfl)
theorem meX6_landing : Cond.selects RX6 yX6_landing yX6_landing ∈ AW := ac24 _ (List.mem_of_getElem? (i := 12) rfl)
theorem hdX6_landing : yX6_landing.cls ≠ "java/lang/invoke/MethodHandle" ∧ yX6_landing.cls ≠ "java/lang/invoke/VarHandle" ∧ (parseMethodDescriptor yX6_landing.desc).map (fun d => d.parameters.length) = some 3 := by decide +kernel
theorem mcX6_lands : Cond.code yX6_lands cX6_lands 4 (some .int) ∈ AW := ac31 _ (List.mem_of_getElem? (i := 8) rfl)
theorem miX6_lands : Cond.instanceMethod yX6_lands ∈ AW := ac31 _ (List.mem_of_getElem? (i := 6) rfl)
theorem meX6_lands : Cond.selects RX6 yX6_lands yX6_lands ∈ AW := ac31 _ (List.mem_of_getElem? (i := 7) rfl)
theorem hdX6_lands : yX6_lands.cls ≠ "java/lang/invoke/MethodHandle" ∧ yX6_lands.cls ≠ "java/lang/invoke/VarHandle" ∧ (parseMethodDescriptor yX6_lands.desc).map (fun d => d.parameters.length) = some 3 := by decide +kernel
theorem mcX6_brings : Cond.code yX6_brings cX6_brings 8 (some .int) ∈ AW := ac25 _ (List.mem_of_getElem? (i := 1) rfl)
theorem miX6_brings : Cond.instanceMethod yX6_brings ∈ AW := ac24 _ (List.mem_of_getElem? (i := 23) rfl)
theorem meX6_brings : Cond.selects RX6 yX6_brings yX6_brings ∈ AW := ac25 _ (List.mem_of_getElem? (i := 0) rfl)
theorem hdX6_brings : yX6_brings.cls ≠ "java/lang/invoke/MethodHandle" ∧ yX6_brings.cls ≠ "java/lang/invoke/VarHandle" ∧ (parseMethodDescriptor yX6_brings.desc).map (fun d => d.parameters.length) = some 4 := by decide +kernel
theorem mcX6_ifFlown : Cond.code yX6_ifFlown cX6_ifFlown 5 (some .int) ∈ AW := ac31 _ (List.mem_of_getElem? (i := 11) rfl)
theorem miX6_ifFlown : Cond.instanceMethod yX6_ifFlown ∈ AW := ac31 _ (List.mem_of_getElem? (i := 9) rfl)
theorem meX6_ifFlown : Cond.selects RX6 yX6_ifFlown yX6_ifFlown ∈ AW := ac31 _ (List.mem_of_getElem? (i := 10) rfl)
theorem hdX6_ifFlown : yX6_ifFlown.cls ≠ "java/lang/invoke/MethodHandle" ∧ yX6_ifFlown.cls ≠ "java/lang/invoke/VarHandle" ∧ (parseMethodDescriptor yX6_ifFlown.desc).map (fun d => d.parameters.length) = some 4 := by decide +kernel
theorem mcX6_bestFlight : Cond.code yX6_bestFlight cX6_bestFlight 8 (some .int) ∈ AW := ac25 _ (List.mem_of_getElem? (i := 5) rfl)
theorem miX6_bestFlight : Cond.instanceMethod yX6_bestFlight ∈ AW := ac25 _ (List.mem_of_getElem? (i := 3) rfl)
theorem meX6_bestFlight : Cond.selects RX6 yX6_bestFlight yX6_bestFlight ∈ AW := ac25 _ (List.mem_of_getElem? (i := 4) rfl)
theorem hdX6_bestFlight : yX6_bestFlight.cls ≠ "java/lang/invoke/MethodHandle" ∧ yX6_bestFlight.cls ≠ "java/lang/invoke/VarHandle" ∧ (parseMethodDescriptor yX6_bestFlight.desc).map (fun d => d.parameters.length) = some 0 := by decide +kernel
theorem mcX6_best : Cond.code yX6_best cX6_best 1 (some .int) ∈ AW := ac31 _ (List.mem_of_getElem? (i := 14) rfl)
theorem miX6_best : Cond.instanceMethod yX6_best ∈ AW := ac31 _ (List.mem_of_getElem? (i := 12) rfl)
theorem meX6_best : Cond.selects RX6 yX6_best yX6_best ∈ AW := ac31 _ (List.mem_of_getElem? (i := 13) rfl)
theorem hdX6_best : yX6_best.cls ≠ "java/lang/invoke/MethodHandle" ∧ yX6_best.cls ≠ "java/lang/invoke/VarHandle" ∧ (parseMethodDescriptor yX6_best.desc).map (fun d => d.parameters.length) = some 0 := by decide +kernel
theorem mcX6_fewest : Cond.code yX6_fewest cX6_fewest 7 (some .int) ∈ AW := ac25 _ (List.mem_of_getElem? (i := 9) rfl)
theorem miX6_fewest : Cond.instanceMethod yX6_fewest ∈ AW := ac25 _ (List.mem_of_getElem? (i := 7) rfl)
theorem meX6_fewest : Cond.selects RX6 yX6_fewest yX6_fewest ∈ AW := ac25 _ (List.mem_of_getElem? (i := 8) rfl)
theorem hdX6_fewest : yX6_fewest.cls ≠ "java/lang/invoke/MethodHandle" ∧ yX6_fewest.cls ≠ "java/lang/invoke/VarHandle" ∧ (parseMethodDescriptor yX6_fewest.desc).map (fun d => d.parameters.length) = some 1 := by decide +kernel
theorem mcX6_flightsTo : Cond.code yX6_flightsTo cX6_flightsTo 2 (some .int) ∈ AW := ac31 _ (List.mem_of_getElem? (i := 17) rfl)
theorem miX6_flightsTo : Cond.instanceMethod yX6_flightsTo ∈ AW := ac31 _ (List.mem_of_getElem? (i := 15) rfl)
theorem meX6_flightsTo : Cond.selects RX6 yX6_flightsTo yX6_flightsTo ∈ AW := ac31 _ (List.mem_of_getElem? (i := 16) rfl)
theorem hdX6_flightsTo : yX6_flightsTo.cls ≠ "java/lang/invoke/MethodHandle" ∧ yX6_flightsTo.cls ≠ "java/lang/invoke/VarHandle" ∧ (parseMethodDescriptor yX6_flightsTo.desc).map (fun d => d.parameters.length) = some 1 := by decide +kernel
theorem mcX6_pottedShare : Cond.code yX6_pottedShare cX6_pottedShare 1 (some .double) ∈ AW := ac26 _ (List.mem_of_getElem? (i := 18) rfl)
theorem miX6_pottedShare : Cond.instanceMethod yX6_pottedShare ∈ AW := ac26 _ (List.mem_of_getElem? (i := 16) rfl)
theorem meX6_pottedShare : Cond.selects RX6 yX6_pottedShare yX6_pottedShare ∈ AW := ac26 _ (List.mem_of_getElem? (i := 17) rfl)
theorem hdX6_pottedShare : yX6_pottedShare.cls ≠ "java/lang/invoke/MethodHandle" ∧ yX6_pottedShare.cls ≠ "java/lang/invoke/VarHandle" ∧ (parseMethodDescriptor yX6_pottedShare.desc).map (fun d => d.parameters.length) = some 0 := by decide +kernel
theorem mcX6_meanPile : Cond.code yX6_meanPile cX6_meanPile 1 (some .float) ∈ AW := ac27 _ (List.mem_of_getElem? (i := 1) rfl)
theorem miX6_meanPile : Cond.instanceMethod yX6_meanPile ∈ AW := ac26 _ (List.mem_of_getElem? (i := 23) rfl)
theorem meX6_meanPile : Cond.selects RX6 yX6_meanPile yX6_meanPile ∈ AW := ac27 _ (List.mem_of_getElem? (i := 0) rfl)
theorem hdX6_meanPile : yX6_meanPile.cls ≠ "java/lang/invoke/MethodHandle" ∧ yX6_meanPile.cls ≠ "java/lang/invoke/VarHandle" ∧ (parseMethodDescriptor yX6_meanPile.desc).map (fun d => d.parameters.length) = some 0 := by decide +kernel
theorem mcX6_ofCells : Cond.code yX6_ofCells cX6_ofCells 7 (some .long) ∈ AW := ac26 _ (List.mem_of_getElem? (i := 14) rfl)
theorem miX6_ofCells : Cond.instanceMethod yX6_ofCells ∈ AW := ac26 _ (List.mem_of_getElem? (i := 12) rfl)
theorem meX6_ofCells : Cond.selects RX6 yX6_ofCells yX6_ofCells ∈ AW := ac26 _ (List.mem_of_getElem? (i := 13) rfl)
theorem hdX6_ofCells : yX6_ofCells.cls ≠ "java/lang/invoke/MethodHandle" ∧ yX6_ofCells.cls ≠ "java/lang/invoke/VarHandle" ∧ (parseMethodDescriptor yX6_ofCells.desc).map (fun d => d.parameters.length) = some 1 := by decide +kernel
theorem mcX6_ofWinks : Cond.code yX6_ofWinks cX6_ofWinks 7 (some .long) ∈ AW := ac26 _ (List.mem_of_getElem? (i := 10) rfl)
theorem miX6_ofWinks : Cond.instanceMethod yX6_ofWinks ∈ AW := ac26 _ (List.mem_of_getElem? (i := 8) rfl)
theorem meX6_ofWinks : Cond.selects RX6 yX6_ofWinks yX6_ofWinks ∈ AW := ac26 _ (List.mem_of_getElem? (i := 9) rfl)
theorem hdX6_ofWinks : yX6_ofWinks.cls ≠ "java/lang/invoke/MethodHandle" ∧ yX6_ofWinks.cls ≠ "java/lang/invoke/VarHandle" ∧ (parseMethodDescriptor yX6_ofWinks.desc).map (fun d => d.parameters.length) = some 1 := by decide +kernel
theorem mcJxe99ae_isNaN_b9ae7 : Cond.code yJxe99ae_isNaN_b9ae7 cJxe99ae_isNaN_b9ae7 2 (some .boolean) ∈ AW := ac25 _ (List.mem_of_getElem? (i := 20) rfl)
theorem msJxe99ae_isNaN_b9ae7 : Cond.static yJxe99ae_isNaN_b9ae7 ∈ AW := ac25 _ (List.mem_of_getElem? (i := 18) rfl)
theorem hdJxe99ae_isNaN_b9ae7 : yJxe99ae_isNaN_b9ae7.cls ≠ "java/lang/invoke/MethodHandle" ∧ yJxe99ae_isNaN_b9ae7.cls ≠ "java/lang/invoke/VarHandle" ∧ (parseMethodDescriptor yJxe99ae_isNaN_b9ae7.desc).map (fun d => d.parameters.length) = some 1 := by decide +kernel
theorem mcJxe99ae_doubleToLongBits_ccdee : Cond.code yJxe99ae_doubleToLongBits_ccdee cJxe99ae_doubleToLongBits_ccdee 2 (some .long) ∈ AW := ac26 _ (List.mem_of_getElem? (i := 21) rfl)
theorem msJxe99ae_doubleToLongBits_ccdee : Cond.static yJxe99ae_doubleToLongBits_ccdee ∈ AW := ac26 _ (List.mem_of_getElem? (i := 20) rfl)
theorem hdJxe99ae_doubleToLongBits_ccdee : yJxe99ae_doubleToLongBits_ccdee.cls ≠ "java/lang/invoke/MethodHandle" ∧ yJxe99ae_doubleToLongBits_ccdee.cls ≠ "java/lang/invoke/VarHandle" ∧ (parseMethodDescriptor yJxe99ae_doubleToLongBits_ccdee.desc).map (fun d => d.parameters.length) = some 1 := by decide +kernel
theorem mcJxf58ca_isNaN_12338 : Cond.code yJxf58ca_isNaN_12338 cJxf58ca_isNaN_12338 1 (some .boolean) ∈ AW := ac26 _ (List.mem_of_getElem? (i := 5) rfl)
theorem msJxf58ca_isNaN_12338 : Cond.static yJxf58ca_isNaN_12338 ∈ AW := ac26 _ (List.mem_of_getElem? (i := 3) rfl)
theorem hdJxf58ca_isNaN_12338 : yJxf58ca_isNaN_12338.cls ≠ "java/lang/invoke/MethodHandle" ∧ yJxf58ca_isNaN_12338.cls ≠ "java/lang/invoke/VarHandle" ∧ (parseMethodDescriptor yJxf58ca_isNaN_12338.desc).map (fun d => d.parameters.length) = some 1 := by decide +kernel
theorem mcJxf58ca_floatToIntBits_5c35a : Cond.code yJxf58ca_floatToIntBits_5c35a cJxf58ca_floatToIntBits_5c35a 1 (some .int) ∈ AW := ac27 _ (List.mem_of_getElem? (i := 4) rfl)
theorem msJxf58ca_floatToIntBits_5c35a : Cond.static yJxf58ca_floatToIntBits_5c35a ∈ AW := ac27 _ (List.mem_of_getElem? (i := 3) rfl)
theorem hdJxf58ca_floatToIntBits_5c35a : yJxf58ca_floatToIntBits_5c35a.cls ≠ "java/lang/invoke/MethodHandle" ∧ yJxf58ca_floatToIntBits_5c35a.cls ≠ "java/lang/invoke/VarHandle" ∧ (parseMethodDescriptor yJxf58ca_floatToIntBits_5c35a.desc).map (fun d => d.parameters.length) = some 1 := by decide +kernel
theorem mcX6_digest : Cond.code yX6_digest cX6_digest 4 (some .long) ∈ AW := ac31 _ (List.mem_of_getElem? (i := 23) rfl)
theorem miX6_digest : Cond.instanceMethod yX6_digest ∈ AW := ac31 _ (List.mem_of_getElem? (i := 21) rfl)
theorem meX6_digest : Cond.selects RX6 yX6_digest yX6_digest ∈ AW := ac31 _ (List.mem_of_getElem? (i := 22) rfl)
theorem hdX6_digest : yX6_digest.cls ≠ "java/lang/invoke/MethodHandle" ∧ yX6_digest.cls ≠ "java/lang/invoke/VarHandle" ∧ (parseMethodDescriptor yX6_digest.desc).map (fun d => d.parameters.length) = some 0 := by decide +kernel
theorem mini_RX0 : Cond.initialized RX0 ∈ AW := ac0 _ (List.mem_of_getElem? (i := 8) rfl)
theorem mini_RX5 : Cond.initialized RX5 ∈ AW := ac0 _ (List.mem_of_getElem? (i := 19) rfl)
theorem mini_RX1 : Cond.initialized RX1 ∈ AW := ac1 _ (List.mem_of_getElem? (i := 14) rfl)
theorem mini_RX4 : Cond.initialized RX4 ∈ AW := ac4 _ (List.mem_of_getElem? (i := 19) rfl)
theorem mini_RX3 : Cond.initialized RX3 ∈ AW := ac6 _ (List.mem_of_getElem? (i := 8) rfl)
theorem mini_RX2 : Cond.initialized RX2 ∈ AW := ac8 _ (List.mem_of_getElem? (i := 1) rfl)
theorem mini_RX6 : Cond.initialized RX6 ∈ AW := ac18 _ (List.mem_of_getElem? (i := 2) rfl)
abbrev vwCl : List vw_C := [(RX0, TX0, 2), (RX1, TX1, 3), (RX2, TX2, 3), (RX3, TX3, 3), (RX4, TX4, 7), (RX5, TX5, 7), (RX6, TX6, 12)]
end
section
/-! THE POOL: objects 0 .. N-1 at the addresses ad, object k with the contents F k -/
def iW (ad : Nat → Nat) (N : Nat) (F : Nat → va_E) : va_W := (List.range N).map (fun k => (ad k, F k))
theorem iW_get {ad : Nat → Nat} {N : Nat} {F : Nat → va_E} {k : Nat} (h : k < N) : (iW ad N F)[k]? = some (ad k, F k) := by
  simp [iW, List.getElem?_map, List.getElem?_range, h]
theorem iW_at {ad : Nat → Nat} {N : Nat} {F : Nat → va_E} {k : Nat} {e : va_E} (h : k < N) (he : F k = e) : (iW ad N F)[k]? = some (ad k, e) := by
  rw [iW_get h, he]
theorem iW_inv {ad : Nat → Nat} {N : Nat} {F : Nat → va_E} {k : Nat} {q : Nat × va_E} (h : (iW ad N F)[k]? = some q) : k < N ∧ q = (ad k, F k) := by
  have hk : k < N := by
    have := (List.getElem?_eq_some_iff.mp h).1
    simpa [iW] using this
  rw [iW_get hk] at h
  exact ⟨hk, (Option.some.inj h).symm⟩
theorem iW_set {ad : Nat → Nat} {N : Nat} {F : Nat → va_E} {k : Nat} {e : va_E} (h : k < N) : (iW ad N F).set k (ad k, e) = iW ad N (va_up F k e) := by
  apply List.ext_getElem?
  intro j
  rw [List.getElem?_set]
  by_cases hj : k = j
  · subst hj
    rw [if_pos rfl, if_pos (by simpa [iW] using h), iW_get h, va_up_self]
  · rw [if_neg hj]
    by_cases hl : j < N
    · rw [iW_get hl, iW_get hl, va_up_ne _ _ (Ne.symm hj)]
    · rw [List.getElem?_eq_none (by simp [iW]; omega), List.getElem?_eq_none (by simp [iW]; omega)]
theorem iW_push {ad : Nat → Nat} {N : Nat} {F : Nat → va_E} {q : Nat} {e : va_E} : iW ad N F ++ [(q, e)] = iW (va_up ad N q) (N + 1) (va_up F N e) := by
  apply List.ext_getElem?
  intro j
  by_cases hl : j < N
  · rw [List.getElem?_append_left (by simpa [iW] using hl), iW_get hl, iW_get (by omega), va_up_ne _ _ (by omega), va_up_ne _ _ (by omega)]
  · by_cases he : j = N
    · subst he
      rw [List.getElem?_append_right (by simp [iW]), iW_get (by omega), va_up_self, va_up_self]
      simp [iW]
    · rw [List.getElem?_eq_none (by simp [iW]; omega), List.getElem?_eq_none (by simp [iW]; omega)]
/-- which cells a method may change -/
def iA (ad : Nat → Nat) (N sz : Nat) : Nat → Prop := fun q => (∃ k, k < N ∧ q = ad k) ∨ sz ≤ q
/-- the addresses are apart -/
def iD (ad : Nat → Nat) (N : Nat) : Prop := ∀ i j, i < N → j < N → ad i = ad j → i = j
theorem iD_D {ad : Nat → Nat} {N : Nat} {A : Nat → Prop} {F : Nat → va_E} (h : iD ad N) (hA : ∀ k, k < N → A (ad k)) : va_D A (iW ad N F) := by
  refine ⟨fun i j p q hi hj hpq => ?_, fun k q hk => ?_⟩
  · obtain ⟨a1, a2⟩ := iW_inv hi
    obtain ⟨b1, b2⟩ := iW_inv hj
    rw [a2, b2] at hpq
    exact h i j a1 b1 hpq
  · obtain ⟨a1, a2⟩ := iW_inv hk
    rw [a2]
    exact hA k a1
theorem iD_of {ad : Nat → Nat} {N : Nat} {A : Nat → Prop} {F : Nat → va_E} (h : va_D A (iW ad N F)) : iD ad N ∧ ∀ k, k < N → A (ad k) :=
  ⟨fun i j hi hj e => h.1 i j _ _ (iW_get hi) (iW_get hj) e, fun k hk => h.2 k _ (iW_get hk)⟩
abbrev iT (cI cQ cL : ClassId) : List (ClassId × FieldType) := [(cI, .int), (cQ, .object "SquopPiles$State"), (cL, .long)]
/-- what links members of the nest -/
def nestF : List (String × Nat × String × String × String) := [("SquopPiles$State", 77, "SquopPiles$Mat", "cell", "[I"), ("SquopPiles", 170, "SquopPiles$Mat", "cell", "[I"), ("SquopPiles", 94, "SquopPiles$State", "mat", "LSquopPiles$Mat;"), ("SquopPiles", 177, "SquopPiles$State", "flights", "[I"), ("SquopPiles", 210, "SquopPiles$State", "fouls", "[I"), ("SquopPiles", 213, "SquopPiles$State", "lost", "[I"), ("SquopPiles", 219, "SquopPiles$State", "turn", "I"), ("SquopPiles", 237, "SquopPiles$State", "lifts", "I"), ("SquopPiles", 109, "SquopPiles$State", "setting", "I"), ("SquopPiles", 156, "SquopPiles$Past", "many", "I"), ("SquopPiles", 128, "SquopPiles$GameText", "length", "I")]
def nestM : List (String × Nat × MethodName) := [(RX5, 9, yX4_init), (RX1, 21, yX5_colourOf), (RX1, 25, yX5_baseOf), (RX2, 24, yX4_init), (RX5, 28, yX0_init), (RX5, 42, yX3_init), (RX4, 52, yX5_colourOf), (RX1, 34, yX5_isWink), (RX3, 31, yX5_landing), (RX4, 80, yX5_stepsOf), (RX4, 83, yX5_landing), (RX4, 86, yX5_restingCell), (RX4, 99, yX5_flightAnswer), (RX4, 63, yX5_cellAt), (RX4, 73, yX5_cellBeside), (RX4, 102, yX5_isWink)]
def NW (U : State) : Prop := (∀ q ∈ nestF, va_Nw (.fieldLinkNest q.1 q.2.1 q.2.2.1 q.2.2.2.1 q.2.2.2.2 "SquopPiles") U) ∧ ∀ q ∈ nestM, va_Nw (.methodLinkNest q.1 q.2.1 q.2.2 "SquopPiles") U
theorem NW.warm {s U : State} (hW : s.WarmedH U.vm) (h : NW s) : NW U := ⟨fun q hq => va_Nw.warmF hW (h.1 q hq), fun q hq => va_Nw.warmM hW (h.2 q hq)⟩
theorem NW.same {u U : State} (e : u.vm = U.vm) (h : NW u) : NW U := ⟨fun q hq => va_Nw.same rfl e (h.1 q hq), fun q hq => va_Nw.same rfl e (h.2 q hq)⟩
/-- the world of a method that reads -/
def rW (D : va_G) (cI cQ cL : ClassId) (ad : Nat → Nat) (N : Nat) (F : Nat → va_E) (U : State) : Prop := va_P D vwCl (iW ad N F) U.heap ∧ va_K D vwCl (iT cI cQ cL) U ∧ NW U
theorem rW_blind {D : va_G} {cI cQ cL : ClassId} {ad : Nat → Nat} {N : Nat} {F : Nat → va_E} {args : List Value} : FrameBlind (va_Pc args (rW D cI cQ cL ad N F)) :=
  fun a U g mk q => ⟨q.1, q.2.1, va_K.moved (u := U) (U := U.calling g mk a) (Vm.Alike.refl U.vm) q.2.2.1, NW.same rfl q.2.2.2⟩
/-- a method that reads, in a world -/
def MR (l : Launch) (y : MethodName) (ws : List Cond) (rm : Room) (D : va_G) (cI cQ cL : ClassId) (ad : Nat → Nat) (N : Nat) (F : Nat → va_E) (args : List Value) (r : Value) : Prop :=
  Met l y ws rm (va_Pc args (rW D cI cQ cL ad N F)) (fun _ st o t => o = .returned (some r) ∧ t.heap = st.heap) 0 0 (fun _ => False)
/-- a method of its arguments alone -/
def MP (l : Launch) (y : MethodName) (ws : List Cond) (rm : Room) (args : List Value) (r : Value) : Prop :=
  Met l y ws rm (va_Pc args (fun _ => True)) (fun _ st o t => o = .returned (some r) ∧ t.heap = st.heap) 0 0 (fun _ => False)
theorem MP_blind {args : List Value} : FrameBlind (va_Pc args (fun _ => True)) := fun _ _ _ _ q => q
section MRS
variable {l : Launch} {y : MethodName} {ws ws' : List Cond} {rm : Room} {cc : ByteArray} {maxL : Nat} {D : va_G} {cI cQ cL : ClassId} {ad : Nat → Nat} {N : Nat} {F : Nat → va_E} {args : List Value}
theorem mr_i {ty : FieldType} {r : Int32} (hy : plainName y.cls = true) (hw : ws = Cond.code y cc maxL (some ty) :: ws') (hrc : rm.cells = 0) (hrs : rm.slots = 0) (hn : narrow ty (.int r) = .int r) (hlen : (lg_sl args).length ≤ maxL)
    (body : ∀ (p : Program) (e : Env) (s : State) (m : MethodId) (below : List Frame) (meth : Method) (c : Code) (Q : State → Prop) (ls : Array Slot),
      p.tables.exec = Jvm.exec → c.code = cc → c.maxLocals = maxL → s.vm.findClass y.cls = some m.cls → (∀ w ∈ ws, w.before args.toArray s = true) → va_P D vwCl (iW ad N F) s.heap → va_K D vwCl (iT cI cQ cL) s → NW s →
      (∀ (pc : Nat) (ls : Array Slot) (v : Int32), v = r → decode cc pc = .ok (.ireturn, 1) → W p l e rm s m args.toArray below meth c s.heap [] 0 0 Q (F0 m pc ls [.int v])) →
      lv_has ls maxL (lv_args 0 args) → W p l e rm s m args.toArray below meth c s.heap [] 0 0 Q (F0 m 0 ls [])) : MR l y ws rm D cI cQ cL ad N F args (.int r) := by
  refine Met.ofW (cc := cc) (maxL := maxL) (ret := some ty) hy hw ?_
  intro p e s m args9 below meth c s₁ B hml hv
  obtain ⟨rfl, hP, hK, hNW⟩ := hv
  have hl := lv_entry args (n := maxL) hlen
  rw [lg_entry_eq]
  exact body p e s m below meth c _ _ B.exec B.bytes hml (findClass_of_methodNamed B.named) (atoms_spec B.pre) hP hK hNW (fun pc ls v hv hd => by
    subst hv
    exact W.zret B.exec B.bytes B.returns hn (fun t ht _ => ⟨rfl, ht⟩) (fun _ h => nomatch h) hd B.notSynchronized) hl
theorem mp_i {ty : FieldType} {r : Int32} (hy : plainName y.cls = true) (hw : ws = Cond.code y cc maxL (some ty) :: ws') (hrc : rm.cells = 0) (hrs : rm.slots = 0) (hn : narrow ty (.int r) = .int r) (hlen : (lg_sl args).length ≤ maxL)
    (body : ∀ (p : Program) (e : Env) (s : State) (m : MethodId) (below : List Frame) (meth : Method) (c : Code) (Q : State → Prop) (ls : Array Slot),
      p.tables.exec = Jvm.exec → c.code = cc → c.maxLocals = maxL → s.vm.findClass y.cls = some m.cls → (∀ w ∈ ws, w.before args.toArray s = true) →
      (∀ (pc : Nat) (ls : Array Slot) (v : Int32), v = r → decode cc pc = .ok (.ireturn, 1) → W p l e rm s m args.toArray below meth c s.heap [] 0 0 Q (F0 m pc ls [.int v])) →
      lv_has ls maxL (lv_args 0 args) → W p l e rm s m args.toArray below meth c s.heap [] 0 0 Q (F0 m 0 ls [])) : MP l y ws rm args (.int r) := by
  refine Met.ofW (cc := cc) (maxL := maxL) (ret := some ty) hy hw ?_
  intro p e s m args9 below meth c s₁ B hml hv
  obtain ⟨rfl, -⟩ := hv
  have hl := lv_entry args (n := maxL) hlen
  rw [lg_entry_eq]
  exact body p e s m below meth c _ _ B.exec B.bytes hml (findClass_of_methodNamed B.named) (atoms_spec B.pre) (fun pc ls v hv hd => by
    subst hv
    exact W.zret B.exec B.bytes B.returns hn (fun t ht _ => ⟨rfl, ht⟩) (fun _ h => nomatch h) hd B.notSynchronized) hl
end MRS
section ROWS
variable {p : Program} {l : Launch} {e : Env} {R : Room} {s : State} {m : MethodId} {args : Array Value} {below : List Frame} {meth : Method} {c : Code} {H : Heap} {locs : List Loc} {cells slots : Nat} {Q : State → Prop}
variable {cc : ByteArray} {pc : Nat} {ls : Array Slot} {rest st0 : List Value} {D : va_G} {cI cQ cL : ClassId} {ad : Nat → Nat} {N : Nat} {F : Nat → va_E} {A : Nat → Prop} {H0 : Heap} {Ts : List Cond}
theorem gf (hx : p.tables.exec = Jvm.exec) (hb : c.code = cc) {own ref C : String} {T : u_T} {n ci index : Nat} (hts : ∀ w ∈ Ts, w.before args s = true) (hin : ∀ w ∈ u_ws C T n, w ∈ Ts) (hown : s.vm.findClass own = some m.cls) (hK : va_K D vwCl (iT cI cQ cL) s) (hP : va_P D vwCl (iW ad N F) H) {k : Nat} (hk : k < N) {fs : List Value} (hF : F k = .inr (ci, fs)) (hc : vwCl[ci]? = some (C, T, n)) (j : Nat) (hj : j < n) (hlink : (Cond.fieldLink own index ref (T j).2.1 (T j).2.2.1).before args s = true) (hsame : ∀ x, s.fieldFound? (T j).1 (T j).2.1 (T j).2.2.1 = some x → s.fieldFound? ref (T j).2.1 (T j).2.2.1 = some x) {v : Value} (hv : fs[j]? = some v) (hdg : decode cc pc = .ok (.getfield index, 3))
    (kk : W p l e R s m args below meth c H locs cells slots Q (F0 m (pc + 3) ls (v :: rest))) : W p l e R s m args below meth c H locs cells slots Q (F0 m pc ls (.ref (ad k) :: rest)) :=
  va_get hx hb hts hin hown hK hP k (iW_at hk hF) hc j hj hlink hsame hv hdg kk
theorem gfN (hx : p.tables.exec = Jvm.exec) (hb : c.code = cc) {own ref C host : String} {T : u_T} {n ci index : Nat} (hts : ∀ w ∈ Ts, w.before args s = true) (hin : ∀ w ∈ u_ws C T n, w ∈ Ts) (hown : s.vm.findClass own = some m.cls) (hK : va_K D vwCl (iT cI cQ cL) s) (hP : va_P D vwCl (iW ad N F) H) {k : Nat} (hk : k < N) {fs : List Value} (hF : F k = .inr (ci, fs)) (hc : vwCl[ci]? = some (C, T, n)) (j : Nat) (hj : j < n) (hlink : va_Nw (.fieldLinkNest own index ref (T j).2.1 (T j).2.2.1 host) s) (hsame : ∀ x, s.fieldFound? (T j).1 (T j).2.1 (T j).2.2.1 = some x → s.fieldFound? ref (T j).2.1 (T j).2.2.1 = some x) {v : Value} (hv : fs[j]? = some v) (hdg : decode cc pc = .ok (.getfield index, 3))
    (kk : W p l e R s m args below meth c H locs cells slots Q (F0 m (pc + 3) ls (v :: rest))) : W p l e R s m args below meth c H locs cells slots Q (F0 m pc ls (.ref (ad k) :: rest)) :=
  va_getN hx hb hts hin hown hK hP k (iW_at hk hF) hc j hj (va_Nw.use rfl hlink) hsame hv hdg kk
theorem ald (hx : p.tables.exec = Jvm.exec) (hb : c.code = cc) (hK : va_K D vwCl (iT cI cQ cL) s) (hP : va_P D vwCl (iW ad N F) H) {k n : Nat} {f : Nat → Int32} {x : Int32} {j : Nat} (hk : k < N) (hF : F k = .inl (cI, n, .inl f)) (hxj : x = nI j) (hj : j < n) (hn : n < 2 ^ 31) (hdg : decode cc pc = .ok (.iaload, 1))
    (kk : W p l e R s m args below meth c H locs cells slots Q (F0 m (pc + 1) ls (.int (f j) :: rest))) : W p l e R s m args below meth c H locs cells slots Q (F0 m pc ls (.int x :: .ref (ad k) :: rest)) := by
  subst hxj
  refine va_iald hx hb hK hP k 0 (iW_at hk hF) rfl (vp_in_nI hj hn) hdg ?_
  rw [nI_clamp (Nat.lt_trans hj hn)]
  exact kk
theorem alen (hx : p.tables.exec = Jvm.exec) (hb : c.code = cc) (hK : va_K D vwCl (iT cI cQ cL) s) (hP : va_P D vwCl (iW ad N F) H) {k n : Nat} {f : Nat → Int32} (hk : k < N) (hF : F k = .inl (cI, n, .inl f)) (hdg : decode cc pc = .ok (.arraylength, 1))
    (kk : W p l e R s m args below meth c H locs cells slots Q (F0 m (pc + 1) ls (.int (nI n) :: rest))) : W p l e R s m args below meth c H locs cells slots Q (F0 m pc ls (.ref (ad k) :: rest)) :=
  va_alen hx hb hK hP k 0 (iW_at hk hF) (ty := .int) rfl rfl hdg kk
/-- behind a call that reads -/
theorem cp {r : Value} (hr : va_Run p l e R s m args below meth c H locs cells slots 0 0 (F0 m pc ls st0) rest (fun st o t => o = .returned (some r) ∧ t.heap = st.heap) (fun _ => False))
    (kk : W p l e R s m args below meth c H locs cells slots Q (F0 m (pc + 3) ls (r :: rest))) : W p l e R s m args below meth c H locs cells slots Q (F0 m pc ls st0) := by
  intro T hT X
  obtain ⟨v, st₀, t, T', L, h0, X', hL, e1, e2, ⟨hv, hh⟩, st⟩ := hr T hT X
  cases hv
  have hLn : L = [] := by
    cases L with
    | nil => rfl
    | cons a L => exact (hL a List.mem_cons_self).elim
  subst hLn
  rw [List.append_nil] at X'
  obtain ⟨t2, a1, b1⟩ := kk T' (by rw [e1, hh, h0]) X'
  exact ⟨t2, st t2 a1, b1⟩
theorem icond {k ci n : Nat} {C : String} {T : u_T} {fs : List Value} (hK : va_K D vwCl (iT cI cQ cL) s) (hP : va_P D vwCl (iW ad N F) H) (hk : k < N) (hF : F k = .inr (ci, fs)) (hc : vwCl[ci]? = some (C, T, n)) : ∃ cell : Cell, H[ad k]? = some cell ∧ cell.vm.isStatics = false ∧ s.vm.findClass C = some cell.cls :=
  va_recv hK hP hc (iW_at hk hF)
theorem rW_pre {argl : List Value} {U : State} (hK : va_K D vwCl (iT cI cQ cL) s) (hP : va_P D vwCl (iW ad N F) H) (hNW : NW s) (hU : U.heap = H) (hW : s.WarmedH U.vm) : va_Pc argl (rW D cI cQ cL ad N F) argl.toArray U :=
  ⟨rfl, by rw [hU]; exact hP, va_K.moved hW.alike hK, hNW.warm hW⟩
/-- a call of a virtual method that reads -/
theorem cvR {nL index na : Nat} {own C : String} {y : MethodName} {bytes : ByteArray} {maxL : Nat} {ret : Option FieldType} {ws : List Cond} {rm : Room} {As : List Value} {r : Value} {k ci n : Nat} {T : u_T} {fs : List Value}
    (S : CallFix p m c cc nL s args Ts own) (hM : MR l y ws rm D cI cQ cL ad N F (.ref (ad k) :: As) r) (cw : CallW R s args own C index y bytes maxL ret ws rm 0 0 na) (hK : va_K D vwCl (iT cI cQ cL) s) (hP : va_P D vwCl (iW ad N F) H) (hNW : NW s) (hk : k < N) (hF : F k = .inr (ci, fs)) (hc : vwCl[ci]? = some (C, T, n))
    (hn : As.length = na) (hsize : ls.size = nL) (hstack : st0 = As.reverse ++ .ref (ad k) :: rest) (hW : (rest.map fun v => v.category).sum ≤ 8) (hf : cells + 0 ≤ R.cells ∧ slots + 0 ≤ R.slots) (hdg : decode cc pc = .ok (.invokevirtual index, 3))
    (kk : W p l e R s m args below meth c H locs cells slots Q (F0 m (pc + 3) ls (r :: rest))) : W p l e R s m args below meth c H locs cells slots Q (F0 m pc ls st0) :=
  cp (va_runV (g := F0 m pc ls st0) S hM cw ⟨rW_blind, icond hK hP hk hF hc, fun U hU hW => rW_pre hK hP hNW hU hW⟩ rfl hn hsize hstack (lv_room hW) hdg hf) kk
/-- a call of a static method of its arguments alone -/
theorem csP {nL index na : Nat} {own : String} {y : MethodName} {bytes : ByteArray} {maxL : Nat} {ret : Option FieldType} {ws : List Cond} {rm : Room} {As : List Value} {r : Value}
    (S : CallFix p m c cc nL s args Ts own) (hM : MP l y ws rm As r) (cw : CallB R s args own index y bytes maxL ret ws rm 0 0 na ∧ (Cond.static y).before args s = true)
    (hn : As.length = na) (hsize : ls.size = nL) (hstack : st0 = As.reverse ++ rest) (hW : (rest.map fun v => v.category).sum ≤ 8) (hf : cells + 0 ≤ R.cells ∧ slots + 0 ≤ R.slots) (hdg : decode cc pc = .ok (.invokestatic index, 3))
    (kk : W p l e R s m args below meth c H locs cells slots Q (F0 m (pc + 3) ls (r :: rest))) : W p l e R s m args below meth c H locs cells slots Q (F0 m pc ls st0) :=
  cp (va_runS (g := F0 m pc ls st0) S hM cw ⟨MP_blind, fun U hU hW => ⟨rfl, trivial⟩⟩ rfl hn hsize hstack (lv_room hW) hdg hf) kk
theorem csPN {nL index na : Nat} {own host : String} {y : MethodName} {bytes : ByteArray} {maxL : Nat} {ret : Option FieldType} {ws : List Cond} {rm : Room} {As : List Value} {r : Value}
    (S : CallFix p m c cc nL s args Ts own) (hM : MP l y ws rm As r) (cw : va_CN R s args own index y host bytes maxL ret ws rm 0 0 na) (hst : (Cond.static y).before args s = true)
    (hn : As.length = na) (hsize : ls.size = nL) (hstack : st0 = As.reverse ++ rest) (hW : (rest.map fun v => v.category).sum ≤ 8) (hf : cells + 0 ≤ R.cells ∧ slots + 0 ≤ R.slots) (hdg : decode cc pc = .ok (.invokestatic index, 3))
    (kk : W p l e R s m args below meth c H locs cells slots Q (F0 m (pc + 3) ls (r :: rest))) : W p l e R s m args below meth c H locs cells slots Q (F0 m pc ls st0) :=
  cp (va_runSN (g := F0 m pc ls st0) S hM ⟨cw, hst, trivial⟩ ⟨MP_blind, fun U hU hW => ⟨rfl, trivial⟩⟩ rfl hn hsize hstack (lv_room hW) hdg hf) kk
end ROWS
end
section
def bI (b : Bool) : Int32 := if b then nI 1 else nI 0
theorem bI_t {b : Bool} (h : b = true) : bI b = nI 1 := by rw [h]; rfl
theorem bI_f {b : Bool} (h : b = false) : bI b = nI 0 := by rw [h]; rfl
theorem bI_0 {b : Bool} : bI b = 0 ↔ b = false := by cases b <;> simp [bI, nI_0, show ¬ nI 1 = 0 by decide]
theorem bI_fit (b : Bool) : fits .boolean (.int (bI b)) = true := by cases b <;> rfl
theorem bI_nar (b : Bool) : narrow .boolean (.int (bI b)) = .int (bI b) := by cases b <;> rfl
theorem n_inc (i : Nat) : nI i + Int32.ofInt 1 = nI (i + 1) := by rw [show Int32.ofInt 1 = 1 from rfl, nI_1]
theorem nI_inj {a b : Nat} (ha : a < 2 ^ 31) (hb : b < 2 ^ 31) (h : nI a = nI b) : a = b := (nI_eq ha hb).mp h
section NROWS
variable {p : Program} {l : Launch} {e : Env} {R : Room} {s : State} {m : MethodId} {args : Array Value} {below : List Frame} {meth : Method} {c : Code} {H : Heap} {locs : List Loc} {cells slots : Nat} {Q : State → Prop}
variable {cc : ByteArray} {pc tgt : Nat} {ls : Array Slot} {rest : List Value} {off : Int}
theorem n_iadd (hx : p.tables.exec = Jvm.exec) (hb : c.code = cc) {a b : Nat} (hdg : decode cc pc = .ok (.iadd, 1)) (k : W p l e R s m args below meth c H locs cells slots Q (F0 m (pc + 1) ls (.int (nI (a + b)) :: rest))) : W p l e R s m args below meth c H locs cells slots Q (F0 m pc ls (.int (nI b) :: .int (nI a) :: rest)) :=
  lv_iadd hx hb hdg (by rw [nI_add]; exact k)
theorem n_isub (hx : p.tables.exec = Jvm.exec) (hb : c.code = cc) {a b : Nat} (hba : b ≤ a) (hdg : decode cc pc = .ok (.isub, 1)) (k : W p l e R s m args below meth c H locs cells slots Q (F0 m (pc + 1) ls (.int (nI (a - b)) :: rest))) : W p l e R s m args below meth c H locs cells slots Q (F0 m pc ls (.int (nI b) :: .int (nI a) :: rest)) :=
  lv_isub hx hb hdg (by rw [pk_sub hba]; exact k)
theorem n_imul (hx : p.tables.exec = Jvm.exec) (hb : c.code = cc) {a b : Nat} (hdg : decode cc pc = .ok (.imul, 1)) (k : W p l e R s m args below meth c H locs cells slots Q (F0 m (pc + 1) ls (.int (nI (a * b)) :: rest))) : W p l e R s m args below meth c H locs cells slots Q (F0 m pc ls (.int (nI b) :: .int (nI a) :: rest)) :=
  lv_imul hx hb hdg (by rw [pk_mul]; exact k)
theorem n_idiv (hx : p.tables.exec = Jvm.exec) (hb : c.code = cc) {a b : Nat} (ha : a < 2 ^ 31) (h0 : 0 < b) (hb2 : b < 2 ^ 31) (hdg : decode cc pc = .ok (.idiv, 1)) (k : W p l e R s m args below meth c H locs cells slots Q (F0 m (pc + 1) ls (.int (nI (a / b)) :: rest))) : W p l e R s m args below meth c H locs cells slots Q (F0 m pc ls (.int (nI b) :: .int (nI a) :: rest)) :=
  lv_idiv hx hb hdg (nI_ne0 h0 hb2) (by rw [pk_div ha h0 hb2]; exact k)
theorem n_irem (hx : p.tables.exec = Jvm.exec) (hb : c.code = cc) {a b : Nat} (ha : a < 2 ^ 31) (h0 : 0 < b) (hb2 : b < 2 ^ 31) (hdg : decode cc pc = .ok (.irem, 1)) (k : W p l e R s m args below meth c H locs cells slots Q (F0 m (pc + 1) ls (.int (nI (a % b)) :: rest))) : W p l e R s m args below meth c H locs cells slots Q (F0 m pc ls (.int (nI b) :: .int (nI a) :: rest)) :=
  lv_irem hx hb hdg (nI_ne0 h0 hb2) (by rw [pk_rem ha h0 hb2]; exact k)
theorem n_icmp_eq (hx : p.tables.exec = Jvm.exec) (hb : c.code = cc) {a b : Nat} (ha : a < 2 ^ 31) (hb2 : b < 2 ^ 31) (hdg : decode cc pc = .ok (.if_icmp .eq off, 3)) (ht : (pc : Int) + off = (tgt : Int)) (kt : a = b → W p l e R s m args below meth c H locs cells slots Q (F0 m tgt ls rest)) (kf : a ≠ b → W p l e R s m args below meth c H locs cells slots Q (F0 m (pc + 3) ls rest)) : W p l e R s m args below meth c H locs cells slots Q (F0 m pc ls (.int (nI b) :: .int (nI a) :: rest)) :=
  lv_icmp_eq hx hb hdg ht (fun h => kt ((nI_eq ha hb2).mp h)) (fun h => kf (fun q => h ((nI_eq ha hb2).mpr q)))
theorem n_icmp_ne (hx : p.tables.exec = Jvm.exec) (hb : c.code = cc) {a b : Nat} (ha : a < 2 ^ 31) (hb2 : b < 2 ^ 31) (hdg : decode cc pc = .ok (.if_icmp .ne off, 3)) (ht : (pc : Int) + off = (tgt : Int)) (kt : a ≠ b → W p l e R s m args below meth c H locs cells slots Q (F0 m tgt ls rest)) (kf : a = b → W p l e R s m args below meth c H locs cells slots Q (F0 m (pc + 3) ls rest)) : W p l e R s m args below meth c H locs cells slots Q (F0 m pc ls (.int (nI b) :: .int (nI a) :: rest)) :=
  lv_icmp_ne hx hb hdg ht (fun h => kt (fun q => h ((nI_eq ha hb2).mpr q))) (fun h => kf ((nI_eq ha hb2).mp h))
theorem n_icmp_lt (hx : p.tables.exec = Jvm.exec) (hb : c.code = cc) {a b : Nat} (ha : a < 2 ^ 31) (hb2 : b < 2 ^ 31) (hdg : decode cc pc = .ok (.if_icmp .lt off, 3)) (ht : (pc : Int) + off = (tgt : Int)) (kt : a < b → W p l e R s m args below meth c H locs cells slots Q (F0 m tgt ls rest)) (kf : b ≤ a → W p l e R s m args below meth c H locs cells slots Q (F0 m (pc + 3) ls rest)) : W p l e R s m args below meth c H locs cells slots Q (F0 m pc ls (.int (nI b) :: .int (nI a) :: rest)) :=
  lv_icmp_lt hx hb hdg ht (fun h => kt ((nI_ltI ha hb2).mp h)) (fun h => kf (Nat.not_lt.mp fun q => h ((nI_ltI ha hb2).mpr q)))
theorem n_icmp_ge (hx : p.tables.exec = Jvm.exec) (hb : c.code = cc) {a b : Nat} (ha : a < 2 ^ 31) (hb2 : b < 2 ^ 31) (hdg : decode cc pc = .ok (.if_icmp .ge off, 3)) (ht : (pc : Int) + off = (tgt : Int)) (kt : b ≤ a → W p l e R s m args below meth c H locs cells slots Q (F0 m tgt ls rest)) (kf : a < b → W p l e R s m args below meth c H locs cells slots Q (F0 m (pc + 3) ls rest)) : W p l e R s m args below meth c H locs cells slots Q (F0 m pc ls (.int (nI b) :: .int (nI a) :: rest)) :=
  lv_icmp_ge hx hb hdg ht (fun h => kt ((nI_leI hb2 ha).mp h)) (fun h => kf (Nat.not_le.mp fun q => h ((nI_leI hb2 ha).mpr q)))
theorem n_icmp_gt (hx : p.tables.exec = Jvm.exec) (hb : c.code = cc) {a b : Nat} (ha : a < 2 ^ 31) (hb2 : b < 2 ^ 31) (hdg : decode cc pc = .ok (.if_icmp .gt off, 3)) (ht : (pc : Int) + off = (tgt : Int)) (kt : b < a → W p l e R s m args below meth c H locs cells slots Q (F0 m tgt ls rest)) (kf : a ≤ b → W p l e R s m args below meth c H locs cells slots Q (F0 m (pc + 3) ls rest)) : W p l e R s m args below meth c H locs cells slots Q (F0 m pc ls (.int (nI b) :: .int (nI a) :: rest)) :=
  lv_icmp_gt hx hb hdg ht (fun h => kt ((nI_ltI hb2 ha).mp h)) (fun h => kf (Nat.not_lt.mp fun q => h ((nI_ltI hb2 ha).mpr q)))
theorem n_icmp_le (hx : p.tables.exec = Jvm.exec) (hb : c.code = cc) {a b : Nat} (ha : a < 2 ^ 31) (hb2 : b < 2 ^ 31) (hdg : decode cc pc = .ok (.if_icmp .le off, 3)) (ht : (pc : Int) + off = (tgt : Int)) (kt : a ≤ b → W p l e R s m args below meth c H locs cells slots Q (F0 m tgt ls rest)) (kf : b < a → W p l e R s m args below meth c H locs cells slots Q (F0 m (pc + 3) ls rest)) : W p l e R s m args below meth c H locs cells slots Q (F0 m pc ls (.int (nI b) :: .int (nI a) :: rest)) :=
  lv_icmp_le hx hb hdg ht (fun h => kt ((nI_leI ha hb2).mp h)) (fun h => kf (Nat.not_le.mp fun q => h ((nI_leI ha hb2).mpr q)))
theorem n_if_eq (hx : p.tables.exec = Jvm.exec) (hb : c.code = cc) {a : Nat} (ha : a < 2 ^ 31) (hdg : decode cc pc = .ok (.ifCond .eq off, 3)) (ht : (pc : Int) + off = (tgt : Int)) (kt : a = 0 → W p l e R s m args below meth c H locs cells slots Q (F0 m tgt ls rest)) (kf : a ≠ 0 → W p l e R s m args below meth c H locs cells slots Q (F0 m (pc + 3) ls rest)) : W p l e R s m args below meth c H locs cells slots Q (F0 m pc ls (.int (nI a) :: rest)) :=
  lv_if_eq hx hb hdg ht (fun h => kt ((nI_eq ha (by decide)).mp h)) (fun h => kf (fun q => h (by rw [q]; rfl)))
theorem n_if_ne (hx : p.tables.exec = Jvm.exec) (hb : c.code = cc) {a : Nat} (ha : a < 2 ^ 31) (hdg : decode cc pc = .ok (.ifCond .ne off, 3)) (ht : (pc : Int) + off = (tgt : Int)) (kt : a ≠ 0 → W p l e R s m args below meth c H locs cells slots Q (F0 m tgt ls rest)) (kf : a = 0 → W p l e R s m args below meth c H locs cells slots Q (F0 m (pc + 3) ls rest)) : W p l e R s m args below meth c H locs cells slots Q (F0 m pc ls (.int (nI a) :: rest)) :=
  lv_if_ne hx hb hdg ht (fun h => kt (fun q => h (by rw [q]; rfl))) (fun h => kf ((nI_eq ha (by decide)).mp h))
theorem n_if_le (hx : p.tables.exec = Jvm.exec) (hb : c.code = cc) {a : Nat} (ha : a < 2 ^ 31) (hdg : decode cc pc = .ok (.ifCond .le off, 3)) (ht : (pc : Int) + off = (tgt : Int)) (kt : a = 0 → W p l e R s m args below meth c H locs cells slots Q (F0 m tgt ls rest)) (kf : 0 < a → W p l e R s m args below meth c H locs cells slots Q (F0 m (pc + 3) ls rest)) : W p l e R s m args below meth c H locs cells slots Q (F0 m pc ls (.int (nI a) :: rest)) :=
  lv_if_le hx hb hdg ht (fun h => kt (Nat.le_zero.mp ((nI_leI (b := 0) ha (by decide)).mp h))) (fun h => kf (Nat.pos_of_ne_zero fun q => h (by rw [q]; decide)))
theorem n_if_gt (hx : p.tables.exec = Jvm.exec) (hb : c.code = cc) {a : Nat} (ha : a < 2 ^ 31) (hdg : decode cc pc = .ok (.ifCond .gt off, 3)) (ht : (pc : Int) + off = (tgt : Int)) (kt : 0 < a → W p l e R s m args below meth c H locs cells slots Q (F0 m tgt ls rest)) (kf : a = 0 → W p l e R s m args below meth c H locs cells slots Q (F0 m (pc + 3) ls rest)) : W p l e R s m args below meth c H locs cells slots Q (F0 m pc ls (.int (nI a) :: rest)) :=
  lv_if_gt hx hb hdg ht (fun h => kt ((nI_ltI (a := 0) (by decide) ha).mp h)) (fun h => kf (Nat.le_zero.mp (Nat.not_lt.mp fun q => h ((nI_ltI (a := 0) (by decide) ha).mpr q))))
theorem n_if_lt (hx : p.tables.exec = Jvm.exec) (hb : c.code = cc) {a : Nat} (ha : a < 2 ^ 31) (hdg : decode cc pc = .ok (.ifCond .lt off, 3)) (ht : (pc : Int) + off = (tgt : Int)) (kf : W p l e R s m args below meth c H locs cells slots Q (F0 m (pc + 3) ls rest)) : W p l e R s m args below meth c H locs cells slots Q (F0 m pc ls (.int (nI a) :: rest)) :=
  lv_if_lt hx hb hdg ht (fun h => absurd h (nI_pos ha)) (fun _ => kf)
theorem n_if_ge (hx : p.tables.exec = Jvm.exec) (hb : c.code = cc) {a : Nat} (ha : a < 2 ^ 31) (hdg : decode cc pc = .ok (.ifCond .ge off, 3)) (ht : (pc : Int) + off = (tgt : Int)) (kt : W p l e R s m args below meth c H locs cells slots Q (F0 m tgt ls rest)) : W p l e R s m args below meth c H locs cells slots Q (F0 m pc ls (.int (nI a) :: rest)) :=
  lv_if_ge hx hb hdg ht (fun _ => kt) (fun h => absurd (nI_pos' ha) h)
theorem b_if_eq (hx : p.tables.exec = Jvm.exec) (hb : c.code = cc) {b : Bool} (hdg : decode cc pc = .ok (.ifCond .eq off, 3)) (ht : (pc : Int) + off = (tgt : Int)) (kt : b = false → W p l e R s m args below meth c H locs cells slots Q (F0 m tgt ls rest)) (kf : b = true → W p l e R s m args below meth c H locs cells slots Q (F0 m (pc + 3) ls rest)) : W p l e R s m args below meth c H locs cells slots Q (F0 m pc ls (.int (bI b) :: rest)) :=
  lv_if_eq hx hb hdg ht (fun h => kt (bI_0.mp h)) (fun h => kf (by cases b; exact absurd rfl h; rfl))
theorem b_if_ne (hx : p.tables.exec = Jvm.exec) (hb : c.code = cc) {b : Bool} (hdg : decode cc pc = .ok (.ifCond .ne off, 3)) (ht : (pc : Int) + off = (tgt : Int)) (kt : b = true → W p l e R s m args below meth c H locs cells slots Q (F0 m tgt ls rest)) (kf : b = false → W p l e R s m args below meth c H locs cells slots Q (F0 m (pc + 3) ls rest)) : W p l e R s m args below meth c H locs cells slots Q (F0 m pc ls (.int (bI b) :: rest)) :=
  lv_if_ne hx hb hdg ht (fun h => kt (by cases b; exact absurd rfl h; rfl)) (fun h => kf (bI_0.mp h))
end NROWS
theorem gIn {x y : Cond} (h : y ∈ AW) : GoodIn (x :: AW) (y :: AW) := by
  intro w hw
  have hm : w ∈ AW := by
    rcases List.mem_cons.mp hw with rfl | h9
    · exact h
    · exact h9
  exact ⟨List.mem_cons_of_mem _ hm, good_of_word (List.all_eq_true.mp AW_good w hm)⟩
section CWS
variable {s : State} {args : Array Value} {R rm : Room} {own C : String} {index maxL mc ms : Nat} {y : MethodName} {bytes : ByteArray} {ret : Option FieldType} {x : Cond}
theorem cwV9 (n : Nat) (ht : ∀ w ∈ x :: AW, w.before args s = true) (hc : Cond.code y bytes maxL ret ∈ AW) (hl : Cond.methodLink own index y ∈ AW) (hi : Cond.instanceMethod y ∈ AW) (he : Cond.selects C y y ∈ AW) (hini : Cond.initialized y.cls ∈ AW) (hrc : rm.cells = mc) (hrs : rm.slots = ms)
    (hd : y.cls ≠ "java/lang/invoke/MethodHandle" ∧ y.cls ≠ "java/lang/invoke/VarHandle" ∧ (parseMethodDescriptor y.desc).map (fun d => d.parameters.length) = some n) (hR : rm.frames + 1 ≤ R.frames ∧ 8 + (maxL + 11) + rm.locals ≤ R.locals) : CallW R s args own C index y bytes maxL ret (Cond.code y bytes maxL ret :: AW) rm mc ms n :=
  ⟨callB_of n ht (gIn hc) rfl hrc hrs (ht _ (List.mem_cons_of_mem _ hini)) (ht _ (List.mem_cons_of_mem _ hl)) hd hR, ht _ (List.mem_cons_of_mem _ hi), ht _ (List.mem_cons_of_mem _ he)⟩
theorem cwS9 (n : Nat) (ht : ∀ w ∈ x :: AW, w.before args s = true) (hc : Cond.code y bytes maxL ret ∈ AW) (hl : Cond.methodLink own index y ∈ AW) (hst : Cond.static y ∈ AW) (hini : Cond.initialized y.cls ∈ AW) (hrc : rm.cells = mc) (hrs : rm.slots = ms)
    (hd : y.cls ≠ "java/lang/invoke/MethodHandle" ∧ y.cls ≠ "java/lang/invoke/VarHandle" ∧ (parseMethodDescriptor y.desc).map (fun d => d.parameters.length) = some n) (hR : rm.frames + 1 ≤ R.frames ∧ 8 + (maxL + 11) + rm.locals ≤ R.locals) : CallB R s args own index y bytes maxL ret (Cond.code y bytes maxL ret :: AW) rm mc ms n ∧ (Cond.static y).before args s = true :=
  ⟨callB_of n ht (gIn hc) rfl hrc hrs (ht _ (List.mem_cons_of_mem _ hini)) (ht _ (List.mem_cons_of_mem _ hl)) hd hR, ht _ (List.mem_cons_of_mem _ hst)⟩
theorem cwN9 (n : Nat) (ht : ∀ w ∈ x :: AW, w.before args s = true) (hc : Cond.code y bytes maxL ret ∈ AW) {host : String} (hl : va_Nw (.methodLinkNest own index y host) s) (hini : Cond.initialized y.cls ∈ AW) (hrc : rm.cells = mc) (hrs : rm.slots = ms)
    (hd : y.cls ≠ "java/lang/invoke/MethodHandle" ∧ y.cls ≠ "java/lang/invoke/VarHandle" ∧ (parseMethodDescriptor y.desc).map (fun d => d.parameters.length) = some n) (hR : rm.frames + 1 ≤ R.frames ∧ 8 + (maxL + 11) + rm.locals ≤ R.locals) : va_CN R s args own index y host bytes maxL ret (Cond.code y bytes maxL ret :: AW) rm mc ms n :=
  va_cnB n ht (gIn hc) rfl hrc hrs hl (ht _ (List.mem_cons_of_mem _ hini)) hd hR
end CWS
theorem nf0 {s : State} (h : NW s) : va_Nw (.fieldLinkNest RX4 77 "SquopPiles$Mat" "cell" "[I" "SquopPiles") s := h.1 (RX4, 77, "SquopPiles$Mat", "cell", "[I") (List.mem_of_getElem? (i := 0) rfl)
theorem nf1 {s : State} (h : NW s) : va_Nw (.fieldLinkNest RX5 170 "SquopPiles$Mat" "cell" "[I" "SquopPiles") s := h.1 (RX5, 170, "SquopPiles$Mat", "cell", "[I") (List.mem_of_getElem? (i := 1) rfl)
theorem nf2 {s : State} (h : NW s) : va_Nw (.fieldLinkNest RX5 94 "SquopPiles$State" "mat" "LSquopPiles$Mat;" "SquopPiles") s := h.1 (RX5, 94, "SquopPiles$State", "mat", "LSquopPiles$Mat;") (List.mem_of_getElem? (i := 2) rfl)
theorem nf3 {s : State} (h : NW s) : va_Nw (.fieldLinkNest RX5 177 "SquopPiles$State" "flights" "[I" "SquopPiles") s := h.1 (RX5, 177, "SquopPiles$State", "flights", "[I") (List.mem_of_getElem? (i := 3) rfl)
theorem nf4 {s : State} (h : NW s) : va_Nw (.fieldLinkNest RX5 210 "SquopPiles$State" "fouls" "[I" "SquopPiles") s := h.1 (RX5, 210, "SquopPiles$State", "fouls", "[I") (List.mem_of_getElem? (i := 4) rfl)
theorem nf5 {s : State} (h : NW s) : va_Nw (.fieldLinkNest RX5 213 "SquopPiles$State" "lost" "[I" "SquopPiles") s := h.1 (RX5, 213, "SquopPiles$State", "lost", "[I") (List.mem_of_getElem? (i := 5) rfl)
theorem nf6 {s : State} (h : NW s) : va_Nw (.fieldLinkNest RX5 219 "SquopPiles$State" "turn" "I" "SquopPiles") s := h.1 (RX5, 219, "SquopPiles$State", "turn", "I") (List.mem_of_getElem? (i := 6) rfl)
theorem nf7 {s : State} (h : NW s) : va_Nw (.fieldLinkNest RX5 237 "SquopPiles$State" "lifts" "I" "SquopPiles") s := h.1 (RX5, 237, "SquopPiles$State", "lifts", "I") (List.mem_of_getElem? (i := 7) rfl)
theorem nf8 {s : State} (h : NW s) : va_Nw (.fieldLinkNest RX5 109 "SquopPiles$State" "setting" "I" "SquopPiles") s := h.1 (RX5, 109, "SquopPiles$State", "setting", "I") (List.mem_of_getElem? (i := 8) rfl)
theorem nf9 {s : State} (h : NW s) : va_Nw (.fieldLinkNest RX5 156 "SquopPiles$Past" "many" "I" "SquopPiles") s := h.1 (RX5, 156, "SquopPiles$Past", "many", "I") (List.mem_of_getElem? (i := 9) rfl)
theorem nf10 {s : State} (h : NW s) : va_Nw (.fieldLinkNest RX5 128 "SquopPiles$GameText" "length" "I" "SquopPiles") s := h.1 (RX5, 128, "SquopPiles$GameText", "length", "I") (List.mem_of_getElem? (i := 10) rfl)
theorem nm0 {s : State} (h : NW s) : va_Nw (.methodLinkNest RX5 9 yX4_init "SquopPiles") s := h.2 (RX5, 9, yX4_init) (List.mem_of_getElem? (i := 0) rfl)
theorem nm1 {s : State} (h : NW s) : va_Nw (.methodLinkNest RX1 21 yX5_colourOf "SquopPiles") s := h.2 (RX1, 21, yX5_colourOf) (List.mem_of_getElem? (i := 1) rfl)
theorem nm2 {s : State} (h : NW s) : va_Nw (.methodLinkNest RX1 25 yX5_baseOf "SquopPiles") s := h.2 (RX1, 25, yX5_baseOf) (List.mem_of_getElem? (i := 2) rfl)
theorem nm3 {s : State} (h : NW s) : va_Nw (.methodLinkNest RX2 24 yX4_init "SquopPiles") s := h.2 (RX2, 24, yX4_init) (List.mem_of_getElem? (i := 3) rfl)
theorem nm4 {s : State} (h : NW s) : va_Nw (.methodLinkNest RX5 28 yX0_init "SquopPiles") s := h.2 (RX5, 28, yX0_init) (List.mem_of_getElem? (i := 4) rfl)
theorem nm5 {s : State} (h : NW s) : va_Nw (.methodLinkNest RX5 42 yX3_init "SquopPiles") s := h.2 (RX5, 42, yX3_init) (List.mem_of_getElem? (i := 5) rfl)
theorem nm6 {s : State} (h : NW s) : va_Nw (.methodLinkNest RX4 52 yX5_colourOf "SquopPiles") s := h.2 (RX4, 52, yX5_colourOf) (List.mem_of_getElem? (i := 6) rfl)
theorem nm7 {s : State} (h : NW s) : va_Nw (.methodLinkNest RX1 34 yX5_isWink "SquopPiles") s := h.2 (RX1, 34, yX5_isWink) (List.mem_of_getElem? (i := 7) rfl)
theorem nm8 {s : State} (h : NW s) : va_Nw (.methodLinkNest RX3 31 yX5_landing "SquopPiles") s := h.2 (RX3, 31, yX5_landing) (List.mem_of_getElem? (i := 8) rfl)
theorem nm9 {s : State} (h : NW s) : va_Nw (.methodLinkNest RX4 80 yX5_stepsOf "SquopPiles") s := h.2 (RX4, 80, yX5_stepsOf) (List.mem_of_getElem? (i := 9) rfl)
theorem nm10 {s : State} (h : NW s) : va_Nw (.methodLinkNest RX4 83 yX5_landing "SquopPiles") s := h.2 (RX4, 83, yX5_landing) (List.mem_of_getElem? (i := 10) rfl)
theorem nm11 {s : State} (h : NW s) : va_Nw (.methodLinkNest RX4 86 yX5_restingCell "SquopPiles") s := h.2 (RX4, 86, yX5_restingCell) (List.mem_of_getElem? (i := 11) rfl)
theorem nm12 {s : State} (h : NW s) : va_Nw (.methodLinkNest RX4 99 yX5_flightAnswer "SquopPiles") s := h.2 (RX4, 99, yX5_flightAnswer) (List.mem_of_getElem? (i := 12) rfl)
theorem nm13 {s : State} (h : NW s) : va_Nw (.methodLinkNest RX4 63 yX5_cellAt "SquopPiles") s := h.2 (RX4, 63, yX5_cellAt) (List.mem_of_getElem? (i := 13) rfl)
theorem nm14 {s : State} (h : NW s) : va_Nw (.methodLinkNest RX4 73 yX5_cellBeside "SquopPiles") s := h.2 (RX4, 73, yX5_cellBeside) (List.mem_of_getElem? (i := 14) rfl)
theorem nm15 {s : State} (h : NW s) : va_Nw (.methodLinkNest RX4 102 yX5_isWink "SquopPiles") s := h.2 (RX4, 102, yX5_isWink) (List.mem_of_getElem? (i := 15) rfl)
end
section
theorem sw_out {x : Int32} (n : Nat) (h : ∀ k, k < n → x ≠ nI k) (hn : n < 2 ^ 31 := by decide) : x.toInt < 0 ∨ ((n : Int) - 1) < x.toInt := by
  rcases Int.lt_or_le x.toInt 0 with q | q
  · exact Or.inl q
  · refine Or.inr ?_
    rcases Int.lt_or_le ((n : Int) - 1) x.toInt with r | r
    · exact r
    · exfalso
      refine h x.toInt.toNat (by omega) ?_
      apply Int32.toInt_inj.mp
      rw [nI_toInt (by omega)]
      omega
def wk (x : Int32) : Bool := !(decide (x < 0)) && !(decide (nI 16 ≤ x))
def ix (x : Int32) : Nat := x.toNatClampNeg
theorem wk_of {x : Int32} (h : wk x = true) : ∃ j : Nat, j < 16 ∧ x = nI j := by
  simp only [wk, Bool.and_eq_true, Bool.not_eq_true', decide_eq_false_iff_not] at h
  obtain ⟨j, h1, h2⟩ := nI_of h.1
  refine ⟨j, ?_, h2⟩
  have h3 := h.2
  rw [h2] at h3
  exact Nat.not_le.mp fun q => h3 ((nI_leI (by decide) h1).mpr q)
theorem wk_nI {j : Nat} (h : j < 16) : wk (nI j) = true := by
  have h1 : ¬ nI j < 0 := nI_pos (Nat.lt_trans h (by decide))
  have h2 : ¬ nI 16 ≤ nI j := fun q => absurd ((nI_leI (by decide) (Nat.lt_trans h (by decide))).mp q) (by omega)
  simp [wk, h1, h2]
theorem ix_nI {j : Nat} (h : j < 2 ^ 31) : ix (nI j) = j := nI_clamp h
theorem wk_eq {x : Int32} (h : wk x = true) : x = nI (ix x) := by
  obtain ⟨j, hj, rfl⟩ := wk_of h
  rw [ix_nI (Nat.lt_trans hj (by decide))]
theorem wk_lt {x : Int32} (h : wk x = true) : ix x < 16 := by
  obtain ⟨j, hj, rfl⟩ := wk_of h
  rw [ix_nI (Nat.lt_trans hj (by decide))]
  exact hj
theorem wk_m1 : wk (-1) = false := by decide
def cl4 (x : Int32) : Bool := !(decide (x < 0)) && !(decide (nI 4 ≤ x))
def on (x y : Int32) : Bool := (!(decide (x < 0)) && !(decide (nI 13 ≤ x))) && (!(decide (y < 0)) && !(decide (nI 13 ≤ y)))
def bs (c : Nat) : Nat := if c = 0 then 0 else if c = 1 then 12 else if c = 2 then 168 else 156
def ea (d : Int32) : Int32 := if ¬ d < nI 1 ∧ ¬ nI 3 < d then nI 1 else if ¬ d < nI 5 then -1 else nI 0
def so (d : Int32) : Int32 := if ¬ d < nI 3 ∧ ¬ nI 5 < d then nI 1 else if d = nI 2 ∨ d = nI 6 then nI 0 else -1
def cat (x y : Int32) : Int32 := nI 13 * y + x
def beside (x y d : Int32) : Int32 := if on (x + ea d) (y + so d) = true then cat (x + ea d) (y + so d) else -1
/-- a flight: steps left, where, how it goes, whether it has bounced -/
def ldL : Nat → Int32 → Int32 → Int32 → Int32 → Bool → Int32
  | 0, x, y, _, _, _ => cat x y
  | n + 1, x, y, u, v, b => if on (x + u) (y + v) = true then ldL n (x + u) (y + v) u v b else if b = true then -1 else if on (x + -u) (y + -v) = true then ldL n (x + -u) (y + -v) (-u) (-v) true else -1
def stp (w f : Nat) : Nat := if w % 4 < 2 then f else f + 1
def rest9 (w : Nat) (q : Int32) : Int32 := if q = -1 then nI (bs (w / 4)) else q
def fans (q : Int32) : Int32 := if q = nI 84 then nI 169 else q
/-- how many i below n -/
def cnt (p : Nat → Bool) : Nat → Nat
  | 0 => 0
  | n + 1 => if p n then cnt p n + 1 else cnt p n
theorem cnt_le (p : Nat → Bool) : ∀ n, cnt p n ≤ n
  | 0 => Nat.le_refl 0
  | n + 1 => by
    have h := cnt_le p n
    simp only [cnt]
    split <;> omega
theorem cnt_cong {p q : Nat → Bool} : ∀ {n : Nat}, (∀ k, k < n → p k = q k) → cnt p n = cnt q n
  | 0, _ => rfl
  | n + 1, h => by
    simp only [cnt]
    rw [cnt_cong (n := n) (fun k hk => h k (Nat.lt_succ_of_lt hk)), h n (Nat.lt_succ_self n)]
theorem cnt_pos {p : Nat → Bool} : ∀ {n i : Nat}, i < n → p i = true → 0 < cnt p n
  | 0, _, h, _ => absurd h (Nat.not_lt_zero _)
  | n + 1, i, h, hp => by
    simp only [cnt]
    by_cases e : i = n
    · subst e
      rw [if_pos hp]
      omega
    · have := cnt_pos (n := n) (i := i) (by omega) hp
      split <;> omega
/-- the first i from i0 on, n of them; none: -1 -/
def fst (p : Nat → Bool) : Nat → Nat → Int32
  | 0, _ => -1
  | n + 1, i => if p i then nI i else fst p n (i + 1)
def sm (f : Nat → Nat) : Nat → Nat
  | 0 => 0
  | n + 1 => sm f n + f n
theorem sm_le {f : Nat → Nat} {b : Nat} (h : ∀ k, f k ≤ b) : ∀ n, sm f n ≤ n * b
  | 0 => by simp [sm]
  | n + 1 => by
    have h1 := sm_le h n
    have h2 := h n
    simp only [sm]
    rw [Nat.succ_mul]
    omega
def anyl (p : Nat → Bool) : Nat → Nat → Bool
  | 0, _ => false
  | n + 1, i => if p i then true else anyl p n (i + 1)
/-- a pile's links down: how many -/
def plc (b : Nat → Int32) : Nat → Int32 → Nat
  | 0, _ => 0
  | n + 1, x => if wk x = true then plc b n (b (ix x)) + 1 else 0
theorem plc_le (b : Nat → Int32) : ∀ n x, plc b n x ≤ n
  | 0, _ => Nat.le_refl 0
  | n + 1, x => by
    have h := plc_le b n (b (ix x))
    simp only [plc]
    split <;> omega
/-- so many links down, as long as there is one -/
def lou (b : Nat → Int32) : Nat → Int32 → Int32
  | 0, x => x
  | n + 1, x => if wk x = true then lou b n (b (ix x)) else x
def lbl (v : Nat → Int32) (c : Nat) : Nat → Int32 → Bool
  | 0, _ => false
  | n + 1, x => if wk x = true then (if ix x / 4 = c then true else lbl v c n (v (ix x))) else false
def msk (p : Nat → Bool) : Nat → Int32
  | 0 => nI 0
  | n + 1 => if p n then msk p n ||| (nI 1 <<< (nI (n / 4) &&& 31)) else msk p n
def mxl (p : Nat → Bool) (f : Nat → Nat) : Nat → Nat
  | 0 => 0
  | n + 1 => if p n then max (mxl p f n) (f n) else mxl p f n
def imax (x y : Int32) : Int32 := if x < y then y else x
def imin (x y : Int32) : Int32 := if y < x then y else x
def mxi (p : Nat → Bool) (f : Nat → Int32) : Nat → Int32
  | 0 => nI 0
  | n + 1 => if p n then imax (mxi p f n) (f n) else mxi p f n
-- the mat
def pot (c : Nat → Int32) (w : Nat) : Bool := decide (c w = -1)
def cov (v : Nat → Int32) (w : Nat) : Bool := !(decide (v w = -1))
def hgt (c : Nat → Int32) (q : Int32) : Nat := cnt (fun i => decide (c i = q)) 16
def tpq (c v : Nat → Int32) (q : Int32) (i : Nat) : Bool := decide (c i = q) && decide (v i = -1)
def top (c v : Nat → Int32) (q : Int32) : Int32 := fst (tpq c v q) 16 0
def bot (c b : Nat → Int32) (w : Nat) : Bool := !(decide (c w = -1)) && decide (b w = -1)
def pls (c b : Nat → Int32) (w : Nat) : Int32 := if c w = -1 then -1 else nI (plc b 16 (b w))
def low (c b v : Nat → Int32) (q : Int32) (n : Nat) : Int32 := lou b (n - 1) (top c v q)
def potc (c : Nat → Int32) (k : Nat) : Nat := cnt (fun w => decide (c (4 * k + w) = -1)) 4
def covc (v : Nat → Int32) (k : Nat) : Nat := cnt (fun w => cov v (4 * k + w)) 4
def potn (c : Nat → Int32) : Nat := sm (potc c) 4
def over (c : Nat → Int32) : Bool := anyl (fun k => decide (potc c k = 4)) 4 0
def ptw (c v : Nat → Int32) (k w : Nat) : Nat := if c (4 * k + w) = -1 then 3 else if cov v (4 * k + w) = true then 0 else if c (4 * k + w) = nI (bs k) then 0 else 1
def ptc (c v : Nat → Int32) (k : Nat) : Nat := sm (ptw c v k) 4
def ptt (c v : Nat → Int32) (t : Nat) : Nat := ptc c v t + ptc c v (t + 2)
def oth (v : Nat → Int32) (k w : Nat) : Bool := !(decide (w / 4 = k)) && lbl v k 16 (v w)
theorem potc_le (c : Nat → Int32) (k : Nat) : potc c k ≤ 4 := cnt_le _ 4
theorem covc_le (v : Nat → Int32) (k : Nat) : covc v k ≤ 4 := cnt_le _ 4
theorem hgt_le (c : Nat → Int32) (q : Int32) : hgt c q ≤ 16 := cnt_le _ 16
theorem ptw_le (c v : Nat → Int32) (k w : Nat) : ptw c v k w ≤ 3 := by
  unfold ptw
  split
  · omega
  · split
    · omega
    · split <;> omega
theorem ptc_le (c v : Nat → Int32) (k : Nat) : ptc c v k ≤ 12 := sm_le (ptw_le c v k) 4
theorem potn_le (c : Nat → Int32) : potn c ≤ 16 := sm_le (potc_le c) 4
def matAt (cI : ClassId) (ad : Nat → Nat) (F : Nat → va_E) (k : Nat) (c b v : Nat → Int32) : Prop :=
  F k = .inr (1, [.ref (ad (k + 1)), .ref (ad (k + 2)), .ref (ad (k + 3))]) ∧ F (k + 1) = .inl (cI, 16, .inl c) ∧ F (k + 2) = .inl (cI, 16, .inl b) ∧ F (k + 3) = .inl (cI, 16, .inl v)
section SWI
variable {p : Program} {l : Launch} {e : Env} {R : Room} {s : State} {m : MethodId} {args : Array Value} {below : List Frame} {meth : Method} {c : Code} {H : Heap} {locs : List Loc} {cells slots : Nat} {Q : State → Prop}
variable {cc : ByteArray} {pc tgt : Nat} {ls : Array Slot} {rest : List Value} {off : Int}
theorem sw_in (j : Nat) (hx : p.tables.exec = Jvm.exec) (hb : c.code = cc) {dflt hi : Int} {offs : Array Int} {len : Nat} {x : Int32} (hdg : decode cc pc = .ok (.tableswitch dflt 0 hi offs, len)) (h : x = nI j) (hj : (nI j).toInt = (j : Int)) (hh : decide ((j : Int) ≤ hi) = true) (ho : offs[j]? = some off) (ht : (pc : Int) + off = (tgt : Int))
    (k : W p l e R s m args below meth c H locs cells slots Q (F0 m tgt ls rest)) : W p l e R s m args below meth c H locs cells slots Q (F0 m pc ls (.int x :: rest)) := by
  have h9 := of_decide_eq_true hh
  subst h
  refine lv_tableIn hx hb hdg (by rw [hj]; omega) (by rw [hj]; omega) ?_ ht k
  rw [hj, show ((j : Int) - 0).toNat = j by omega]
  exact ho
end SWI
def ldg (q d : Int32) (f : Nat) : Int32 := ldL f (q - q / nI 13 * nI 13) (q / nI 13) (ea d) (so d) false
end
section
set_option maxRecDepth 100000 in
set_option maxHeartbeats 4000000 in
theorem tX5_isWink (l : Launch) (x : Int32) : MP l yX5_isWink (Cond.code yX5_isWink cX5_isWink 1 (some .boolean) :: AW) ({ frames := 0, cells := 0, slots := 0, locals := 0 } : Room) [.int x] (.int (bI (wk x))) := by
  refine mp_i (ty := .boolean) (by decide +kernel) rfl rfl rfl (bI_nar _) (Nat.le_of_ble_eq_true rfl) (fun p e s m below meth cd Q ls hx hb hml hown hts hret hl => ?_)
  have hown : s.vm.findClass RX5 = some m.cls := hown
  have hl : lv_has ls 1 [(0, .int x)] := hl
  refine lv_iload_n hx hb (dk kX5_isWink_ok 0 rfl) rfl (lv_at hl 0 rfl) ?_
  refine lv_if_lt (tgt := 14) hx hb (dk kX5_isWink_ok 1 rfl) (by decide) (fun h1 => ?_) (fun h1 => ?_)
  · skip
    refine lv_iconst (v := nI 0) hx hb (dk kX5_isWink_ok 7 rfl) rfl ?_
    exact hret _ _ _ (by simp [wk, h1, bI]) (dk kX5_isWink_ok 8 rfl)
  · skip
    refine lv_iload_n hx hb (dk kX5_isWink_ok 2 rfl) rfl (lv_at hl 0 rfl) ?_
    refine lv_bipush (v := nI 16) hx hb (dk kX5_isWink_ok 3 rfl) rfl ?_
    refine lv_icmp_ge (tgt := 14) hx hb (dk kX5_isWink_ok 4 rfl) (by decide) (fun h2 => ?_) (fun h2 => ?_)
    · skip
      refine lv_iconst (v := nI 0) hx hb (dk kX5_isWink_ok 7 rfl) rfl ?_
      exact hret _ _ _ (by simp [wk, h1, h2, bI]) (dk kX5_isWink_ok 8 rfl)
    · skip
      refine lv_iconst (v := nI 1) hx hb (dk kX5_isWink_ok 5 rfl) rfl ?_
      refine lv_goto (tgt := 15) hx hb (dk kX5_isWink_ok 6 rfl) (by decide) ?_
      exact hret _ _ _ (by simp [wk, h1, h2, bI]) (dk kX5_isWink_ok 8 rfl)
set_option maxRecDepth 100000 in
set_option maxHeartbeats 4000000 in
theorem tX5_isColour (l : Launch) (x : Int32) : MP l yX5_isColour (Cond.code yX5_isColour cX5_isColour 1 (some .boolean) :: AW) ({ frames := 0, cells := 0, slots := 0, locals := 0 } : Room) [.int x] (.int (bI (cl4 x))) := by
  refine mp_i (ty := .boolean) (by decide +kernel) rfl rfl rfl (bI_nar _) (Nat.le_of_ble_eq_true rfl) (fun p e s m below meth cd Q ls hx hb hml hown hts hret hl => ?_)
  have hown : s.vm.findClass RX5 = some m.cls := hown
  have hl : lv_has ls 1 [(0, .int x)] := hl
  refine lv_iload_n hx hb (dk kX5_isColour_ok 0 rfl) rfl (lv_at hl 0 rfl) ?_
  refine lv_if_lt (tgt := 13) hx hb (dk kX5_isColour_ok 1 rfl) (by decide) (fun h1 => ?_) (fun h1 => ?_)
  · skip
    refine lv_iconst (v := nI 0) hx hb (dk kX5_isColour_ok 7 rfl) rfl ?_
    exact hret _ _ _ (by simp [cl4, h1, bI]) (dk kX5_isColour_ok 8 rfl)
  · skip
    refine lv_iload_n hx hb (dk kX5_isColour_ok 2 rfl) rfl (lv_at hl 0 rfl) ?_
    refine lv_iconst (v := nI 4) hx hb (dk kX5_isColour_ok 3 rfl) rfl ?_
    refine lv_icmp_ge (tgt := 13) hx hb (dk kX5_isColour_ok 4 rfl) (by decide) (fun h2 => ?_) (fun h2 => ?_)
    · skip
      refine lv_iconst (v := nI 0) hx hb (dk kX5_isColour_ok 7 rfl) rfl ?_
      exact hret _ _ _ (by simp [cl4, h1, h2, bI]) (dk kX5_isColour_ok 8 rfl)
    · skip
      refine lv_iconst (v := nI 1) hx hb (dk kX5_isColour_ok 5 rfl) rfl ?_
      refine lv_goto (tgt := 14) hx hb (dk kX5_isColour_ok 6 rfl) (by decide) ?_
      exact hret _ _ _ (by simp [cl4, h1, h2, bI]) (dk kX5_isColour_ok 8 rfl)
set_option maxRecDepth 100000 in
set_option maxHeartbeats 4000000 in
theorem tX5_isOnMat (l : Launch) (x y : Int32) : MP l yX5_isOnMat (Cond.code yX5_isOnMat cX5_isOnMat 2 (some .boolean) :: AW) ({ frames := 0, cells := 0, slots := 0, locals := 0 } : Room) [.int x, .int y] (.int (bI (on x y))) := by
  refine mp_i (ty := .boolean) (by decide +kernel) rfl rfl rfl (bI_nar _) (Nat.le_of_ble_eq_true rfl) (fun p e s m below meth cd Q ls hx hb hml hown hts hret hl => ?_)
  have hown : s.vm.findClass RX5 = some m.cls := hown
  have hl : lv_has ls 2 [(0, .int x), (1, .int y)] := hl
  refine lv_iload_n hx hb (dk kX5_isOnMat_ok 0 rfl) rfl (lv_at hl 0 rfl) ?_
  refine lv_if_lt (tgt := 24) hx hb (dk kX5_isOnMat_ok 1 rfl) (by decide) (fun h1 => ?_) (fun h1 => ?_)
  · skip
    refine lv_iconst (v := nI 0) hx hb (dk kX5_isOnMat_ok 12 rfl) rfl ?_
    exact hret _ _ _ (by simp [on, h1, bI]) (dk kX5_isOnMat_ok 13 rfl)
  · skip
    refine lv_iload_n hx hb (dk kX5_isOnMat_ok 2 rfl) rfl (lv_at hl 0 rfl) ?_
    refine lv_bipush (v := nI 13) hx hb (dk kX5_isOnMat_ok 3 rfl) rfl ?_
    refine lv_icmp_ge (tgt := 24) hx hb (dk kX5_isOnMat_ok 4 rfl) (by decide) (fun h2 => ?_) (fun h2 => ?_)
    · skip
      refine lv_iconst (v := nI 0) hx hb (dk kX5_isOnMat_ok 12 rfl) rfl ?_
      exact hret _ _ _ (by simp [on, h1, h2, bI]) (dk kX5_isOnMat_ok 13 rfl)
    · skip
      refine lv_iload_n hx hb (dk kX5_isOnMat_ok 5 rfl) rfl (lv_at hl 1 rfl) ?_
      refine lv_if_lt (tgt := 24) hx hb (dk kX5_isOnMat_ok 6 rfl) (by decide) (fun h3 => ?_) (fun h3 => ?_)
      · skip
        refine lv_iconst (v := nI 0) hx hb (dk kX5_isOnMat_ok 12 rfl) rfl ?_
        exact hret _ _ _ (by simp [on, h1, h2, h3, bI]) (dk kX5_isOnMat_ok 13 rfl)
      · skip
        refine lv_iload_n hx hb (dk kX5_isOnMat_ok 7 rfl) rfl (lv_at hl 1 rfl) ?_
        refine lv_bipush (v := nI 13) hx hb (dk kX5_isOnMat_ok 8 rfl) rfl ?_
        refine lv_icmp_ge (tgt := 24) hx hb (dk kX5_isOnMat_ok 9 rfl) (by decide) (fun h4 => ?_) (fun h4 => ?_)
        · skip
          refine lv_iconst (v := nI 0) hx hb (dk kX5_isOnMat_ok 12 rfl) rfl ?_
          exact hret _ _ _ (by simp [on, h1, h2, h3, h4, bI]) (dk kX5_isOnMat_ok 13 rfl)
        · skip
          refine lv_iconst (v := nI 1) hx hb (dk kX5_isOnMat_ok 10 rfl) rfl ?_
          refine lv_goto (tgt := 25) hx hb (dk kX5_isOnMat_ok 11 rfl) (by decide) ?_
          exact hret _ _ _ (by simp [on, h1, h2, h3, h4, bI]) (dk kX5_isOnMat_ok 13 rfl)
set_option maxRecDepth 100000 in
set_option maxHeartbeats 4000000 in
theorem tX5_cellAt (l : Launch) (x y : Int32) : MP l yX5_cellAt (Cond.code yX5_cellAt cX5_cellAt 2 (some .int) :: AW) ({ frames := 0, cells := 0, slots := 0, locals := 0 } : Room) [.int x, .int y] (.int (cat x y)) := by
  refine mp_i (ty := .int) (by decide +kernel) rfl rfl rfl rfl (Nat.le_of_ble_eq_true rfl) (fun p e s m below meth cd Q ls hx hb hml hown hts hret hl => ?_)
  have hown : s.vm.findClass RX5 = some m.cls := hown
  have hl : lv_has ls 2 [(0, .int x), (1, .int y)] := hl
  refine lv_bipush (v := nI 13) hx hb (dk kX5_cellAt_ok 0 rfl) rfl ?_
  refine lv_iload_n hx hb (dk kX5_cellAt_ok 1 rfl) rfl (lv_at hl 1 rfl) ?_
  refine lv_imul hx hb (dk kX5_cellAt_ok 2 rfl) ?_
  refine lv_iload_n hx hb (dk kX5_cellAt_ok 3 rfl) rfl (lv_at hl 0 rfl) ?_
  refine lv_iadd hx hb (dk kX5_cellAt_ok 4 rfl) ?_
  exact hret _ _ _ (by rfl) (dk kX5_cellAt_ok 5 rfl)
set_option maxRecDepth 100000 in
set_option maxHeartbeats 4000000 in
theorem tX5_eastOf (l : Launch) (d : Int32) : MP l yX5_eastOf (Cond.code yX5_eastOf cX5_eastOf 1 (some .int) :: AW) ({ frames := 0, cells := 0, slots := 0, locals := 0 } : Room) [.int d] (.int (ea d)) := by
  refine mp_i (ty := .int) (by decide +kernel) rfl rfl rfl rfl (Nat.le_of_ble_eq_true rfl) (fun p e s m below meth cd Q ls hx hb hml hown hts hret hl => ?_)
  have hown : s.vm.findClass RX5 = some m.cls := hown
  have hl : lv_has ls 1 [(0, .int d)] := hl
  refine lv_iload_n hx hb (dk kX5_eastOf_ok 0 rfl) rfl (lv_at hl 0 rfl) ?_
  refine lv_iconst (v := nI 1) hx hb (dk kX5_eastOf_ok 1 rfl) rfl ?_
  refine lv_icmp_lt (tgt := 14) hx hb (dk kX5_eastOf_ok 2 rfl) (by decide) (fun h1 => ?_) (fun h1 => ?_)
  · skip
    refine lv_iload_n hx hb (dk kX5_eastOf_ok 8 rfl) rfl (lv_at hl 0 rfl) ?_
    refine lv_iconst (v := nI 5) hx hb (dk kX5_eastOf_ok 9 rfl) rfl ?_
    refine lv_icmp_lt (tgt := 23) hx hb (dk kX5_eastOf_ok 10 rfl) (by decide) (fun h2 => ?_) (fun h2 => ?_)
    · skip
      refine lv_iconst (v := nI 0) hx hb (dk kX5_eastOf_ok 13 rfl) rfl ?_
      exact hret _ _ _ (by simp [ea, h1, h2]) (dk kX5_eastOf_ok 14 rfl)
    · skip
      refine lv_iconst (v := -1) hx hb (dk kX5_eastOf_ok 11 rfl) rfl ?_
      refine lv_goto (tgt := 24) hx hb (dk kX5_eastOf_ok 12 rfl) (by decide) ?_
      exact hret _ _ _ (by simp [ea, h1, h2]) (dk kX5_eastOf_ok 14 rfl)
  · skip
    refine lv_iload_n hx hb (dk kX5_eastOf_ok 3 rfl) rfl (lv_at hl 0 rfl) ?_
    refine lv_iconst (v := nI 3) hx hb (dk kX5_eastOf_ok 4 rfl) rfl ?_
    refine lv_icmp_gt (tgt := 14) hx hb (dk kX5_eastOf_ok 5 rfl) (by decide) (fun h3 => ?_) (fun h3 => ?_)
    · skip
      refine lv_iload_n hx hb (dk kX5_eastOf_ok 8 rfl) rfl (lv_at hl 0 rfl) ?_
      refine lv_iconst (v := nI 5) hx hb (dk kX5_eastOf_ok 9 rfl) rfl ?_
      refine lv_icmp_lt (tgt := 23) hx hb (dk kX5_eastOf_ok 10 rfl) (by decide) (fun h4 => ?_) (fun h4 => ?_)
      · skip
        refine lv_iconst (v := nI 0) hx hb (dk kX5_eastOf_ok 13 rfl) rfl ?_
        exact hret _ _ _ (by simp [ea, h1, h3, h4]) (dk kX5_eastOf_ok 14 rfl)
      · skip
        refine lv_iconst (v := -1) hx hb (dk kX5_eastOf_ok 11 rfl) rfl ?_
        refine lv_goto (tgt := 24) hx hb (dk kX5_eastOf_ok 12 rfl) (by decide) ?_
        exact hret _ _ _ (by simp [ea, h1, h3, h4]) (dk kX5_eastOf_ok 14 rfl)
    · skip
      refine lv_iconst (v := nI 1) hx hb (dk kX5_eastOf_ok 6 rfl) rfl ?_
      refine lv_goto (tgt := 24) hx hb (dk kX5_eastOf_ok 7 rfl) (by decide) ?_
      exact hret _ _ _ (by simp [ea, h1, h3]) (dk kX5_eastOf_ok 14 rfl)
set_option maxRecDepth 100000 in
set_option maxHeartbeats 4000000 in
theorem tX5_southOf (l : Launch) (d : Int32) : MP l yX5_southOf (Cond.code yX5_southOf cX5_southOf 1 (some .int) :: AW) ({ frames := 0, cells := 0, slots := 0, locals := 0 } : Room) [.int d] (.int (so d)) := by
  refine mp_i (ty := .int) (by decide +kernel) rfl rfl rfl rfl (Nat.le_of_ble_eq_true rfl) (fun p e s m below meth cd Q ls hx hb hml hown hts hret hl => ?_)
  have hown : s.vm.findClass RX5 = some m.cls := hown
  have hl : lv_has ls 1 [(0, .int d)] := hl
  refine lv_iload_n hx hb (dk kX5_southOf_ok 0 rfl) rfl (lv_at hl 0 rfl) ?_
  refine lv_iconst (v := nI 3) hx hb (dk kX5_southOf_ok 1 rfl) rfl ?_
  refine lv_icmp_lt (tgt := 14) hx hb (dk kX5_southOf_ok 2 rfl) (by decide) (fun h1 => ?_) (fun h1 => ?_)
  · skip
    refine lv_iload_n hx hb (dk kX5_southOf_ok 8 rfl) rfl (lv_at hl 0 rfl) ?_
    refine lv_iconst (v := nI 2) hx hb (dk kX5_southOf_ok 9 rfl) rfl ?_
    refine lv_icmp_eq (tgt := 25) hx hb (dk kX5_southOf_ok 10 rfl) (by decide) (fun h2 => ?_) (fun h2 => ?_)
    · skip
      refine lv_iconst (v := nI 0) hx hb (dk kX5_southOf_ok 14 rfl) rfl ?_
      refine lv_goto (tgt := 30) hx hb (dk kX5_southOf_ok 15 rfl) (by decide) ?_
      exact hret _ _ _ (by unfold so; (repeat' split) <;> first | rfl | (exfalso; simp_all; done) | (exfalso; revert h1 h2; subst_vars; decide) | (exfalso; subst_vars; simp_all (decide := true))) (dk kX5_southOf_ok 17 rfl)
    · skip
      refine lv_iload_n hx hb (dk kX5_southOf_ok 11 rfl) rfl (lv_at hl 0 rfl) ?_
      refine lv_bipush (v := nI 6) hx hb (dk kX5_southOf_ok 12 rfl) rfl ?_
      refine lv_icmp_ne (tgt := 29) hx hb (dk kX5_southOf_ok 13 rfl) (by decide) (fun h3 => ?_) (fun h3 => ?_)
      · skip
        refine lv_iconst (v := -1) hx hb (dk kX5_southOf_ok 16 rfl) rfl ?_
        exact hret _ _ _ (by unfold so; (repeat' split) <;> first | rfl | (exfalso; simp_all; done) | (exfalso; revert h1 h2 h3; subst_vars; decide) | (exfalso; subst_vars; simp_all (decide := true))) (dk kX5_southOf_ok 17 rfl)
      · skip
        refine lv_iconst (v := nI 0) hx hb (dk kX5_southOf_ok 14 rfl) rfl ?_
        refine lv_goto (tgt := 30) hx hb (dk kX5_southOf_ok 15 rfl) (by decide) ?_
        exact hret _ _ _ (by unfold so; (repeat' split) <;> first | rfl | (exfalso; simp_all; done) | (exfalso; revert h1 h2 h3; subst_vars; decide) | (exfalso; subst_vars; simp_all (decide := true))) (dk kX5_southOf_ok 17 rfl)
  · skip
    refine lv_iload_n hx hb (dk kX5_southOf_ok 3 rfl) rfl (lv_at hl 0 rfl) ?_
    refine lv_iconst (v := nI 5) hx hb (dk kX5_southOf_ok 4 rfl) rfl ?_
    refine lv_icmp_gt (tgt := 14) hx hb (dk kX5_southOf_ok 5 rfl) (by decide) (fun h4 => ?_) (fun h4 => ?_)
    · skip
      refine lv_iload_n hx hb (dk kX5_southOf_ok 8 rfl) rfl (lv_at hl 0 rfl) ?_
      refine lv_iconst (v := nI 2) hx hb (dk kX5_southOf_ok 9 rfl) rfl ?_
      refine lv_icmp_eq (tgt := 25) hx hb (dk kX5_southOf_ok 10 rfl) (by decide) (fun h5 => ?_) (fun h5 => ?_)
      · skip
        refine lv_iconst (v := nI 0) hx hb (dk kX5_southOf_ok 14 rfl) rfl ?_
        refine lv_goto (tgt := 30) hx hb (dk kX5_southOf_ok 15 rfl) (by decide) ?_
        exact hret _ _ _ (by unfold so; (repeat' split) <;> first | rfl | (exfalso; simp_all; done) | (exfalso; revert h1 h4 h5; subst_vars; decide) | (exfalso; subst_vars; simp_all (decide := true))) (dk kX5_southOf_ok 17 rfl)
      · skip
        refine lv_iload_n hx hb (dk kX5_southOf_ok 11 rfl) rfl (lv_at hl 0 rfl) ?_
        refine lv_bipush (v := nI 6) hx hb (dk kX5_southOf_ok 12 rfl) rfl ?_
        refine lv_icmp_ne (tgt := 29) hx hb (dk kX5_southOf_ok 13 rfl) (by decide) (fun h6 => ?_) (fun h6 => ?_)
        · skip
          refine lv_iconst (v := -1) hx hb (dk kX5_southOf_ok 16 rfl) rfl ?_
          exact hret _ _ _ (by unfold so; (repeat' split) <;> first | rfl | (exfalso; simp_all; done) | (exfalso; revert h1 h4 h5 h6; subst_vars; decide) | (exfalso; subst_vars; simp_all (decide := true))) (dk kX5_southOf_ok 17 rfl)
        · skip
          refine lv_iconst (v := nI 0) hx hb (dk kX5_southOf_ok 14 rfl) rfl ?_
          refine lv_goto (tgt := 30) hx hb (dk kX5_southOf_ok 15 rfl) (by decide) ?_
          exact hret _ _ _ (by unfold so; (repeat' split) <;> first | rfl | (exfalso; simp_all; done) | (exfalso; revert h1 h4 h5 h6; subst_vars; decide) | (exfalso; subst_vars; simp_all (decide := true))) (dk kX5_southOf_ok 17 rfl)
    · skip
      refine lv_iconst (v := nI 1) hx hb (dk kX5_southOf_ok 6 rfl) rfl ?_
      refine lv_goto (tgt := 30) hx hb (dk kX5_southOf_ok 7 rfl) (by decide) ?_
      exact hret _ _ _ (by unfold so; (repeat' split) <;> first | rfl | (exfalso; simp_all; done) | (exfalso; revert h1 h4; subst_vars; decide) | (exfalso; subst_vars; simp_all (decide := true))) (dk kX5_southOf_ok 17 rfl)
set_option maxRecDepth 100000 in
set_option maxHeartbeats 4000000 in
theorem tX5_colourOf (l : Launch) (x : Int32) (w : Nat) (hxw : x = nI w) (hw : w < 2 ^ 31) : MP l yX5_colourOf (Cond.code yX5_colourOf cX5_colourOf 1 (some .int) :: AW) ({ frames := 0, cells := 0, slots := 0, locals := 0 } : Room) [.int x] (.int (nI (w / 4))) := by
  refine mp_i (ty := .int) (by decide +kernel) rfl rfl rfl rfl (Nat.le_of_ble_eq_true rfl) (fun p e s m below meth cd Q ls hx hb hml hown hts hret hl => ?_)
  have hown : s.vm.findClass RX5 = some m.cls := hown
  subst hxw
  have hl : lv_has ls 1 [(0, .int (nI w))] := hl
  refine lv_iload_n hx hb (dk kX5_colourOf_ok 0 rfl) rfl (lv_at hl 0 rfl) ?_
  refine lv_iconst (v := nI 4) hx hb (dk kX5_colourOf_ok 1 rfl) rfl ?_
  refine n_idiv hx hb (by omega) (by decide) (by decide) (dk kX5_colourOf_ok 2 rfl) ?_
  exact hret _ _ _ (by first | rfl | assumption | omega | (simp_all; done)) (dk kX5_colourOf_ok 3 rfl)
set_option maxRecDepth 100000 in
set_option maxHeartbeats 4000000 in
theorem tX5_teamOf (l : Launch) (x : Int32) (w : Nat) (hxw : x = nI w) (hw : w < 2 ^ 31) : MP l yX5_teamOf (Cond.code yX5_teamOf cX5_teamOf 1 (some .int) :: AW) ({ frames := 1, cells := 0, slots := 0, locals := 20 } : Room) [.int x] (.int (nI (w / 4 % 2))) := by
  refine mp_i (ty := .int) (by decide +kernel) rfl rfl rfl rfl (Nat.le_of_ble_eq_true rfl) (fun p e s m below meth cd Q ls hx hb hml hown hts hret hl => ?_)
  have hown : s.vm.findClass RX5 = some m.cls := hown
  subst hxw
  have hl : lv_has ls 1 [(0, .int (nI w))] := hl
  refine lv_iload_n hx hb (dk kX5_teamOf_ok 0 rfl) rfl (lv_at hl 0 rfl) ?_
  refine csP (As := [.int (nI w)]) (rest := []) ⟨hx, hb, hml, hown, hts⟩ (tX5_colourOf l (nI w) w rfl (by omega)) (cwS9 1 hts mcX5_colourOf (ac7 _ (List.mem_of_getElem? (i := 2) rfl)) msX5_colourOf mini_RX5 rfl rfl hdX5_colourOf ⟨Nat.le_of_ble_eq_true rfl, Nat.le_of_ble_eq_true rfl⟩) rfl hl.1 rfl (Nat.le_of_ble_eq_true rfl) (by decide) (dk kX5_teamOf_ok 1 rfl) ?_
  refine lv_iconst (v := nI 2) hx hb (dk kX5_teamOf_ok 2 rfl) rfl ?_
  refine n_irem hx hb (by omega) (by decide) (by decide) (dk kX5_teamOf_ok 3 rfl) ?_
  exact hret _ _ _ (by first | rfl | assumption | omega | (simp_all; done)) (dk kX5_teamOf_ok 4 rfl)
set_option maxRecDepth 100000 in
set_option maxHeartbeats 4000000 in
theorem tX5_isLarge (l : Launch) (x : Int32) (w : Nat) (hxw : x = nI w) (hw : w < 2 ^ 31) : MP l yX5_isLarge (Cond.code yX5_isLarge cX5_isLarge 1 (some .boolean) :: AW) ({ frames := 0, cells := 0, slots := 0, locals := 0 } : Room) [.int x] (.int (bI (decide (w % 4 < 2)))) := by
  refine mp_i (ty := .boolean) (by decide +kernel) rfl rfl rfl (bI_nar _) (Nat.le_of_ble_eq_true rfl) (fun p e s m below meth cd Q ls hx hb hml hown hts hret hl => ?_)
  have hown : s.vm.findClass RX5 = some m.cls := hown
  subst hxw
  have hl : lv_has ls 1 [(0, .int (nI w))] := hl
  refine lv_iload_n hx hb (dk kX5_isLarge_ok 0 rfl) rfl (lv_at hl 0 rfl) ?_
  refine lv_iconst (v := nI 4) hx hb (dk kX5_isLarge_ok 1 rfl) rfl ?_
  refine n_irem hx hb (by omega) (by decide) (by decide) (dk kX5_isLarge_ok 2 rfl) ?_
  refine lv_iconst (v := nI 2) hx hb (dk kX5_isLarge_ok 3 rfl) rfl ?_
  refine n_icmp_ge (tgt := 11) hx hb (by omega) (by decide) (dk kX5_isLarge_ok 4 rfl) (by decide) (fun h1 => ?_) (fun h1 => ?_)
  · skip
    refine lv_iconst (v := nI 0) hx hb (dk kX5_isLarge_ok 7 rfl) rfl ?_
    exact hret _ _ _ (by first | (rw [decide_eq_true (by omega)]; rfl) | (rw [decide_eq_false (by omega)]; rfl)) (dk kX5_isLarge_ok 8 rfl)
  · skip
    refine lv_iconst (v := nI 1) hx hb (dk kX5_isLarge_ok 5 rfl) rfl ?_
    refine lv_goto (tgt := 12) hx hb (dk kX5_isLarge_ok 6 rfl) (by decide) ?_
    exact hret _ _ _ (by first | (rw [decide_eq_true (by omega)]; rfl) | (rw [decide_eq_false (by omega)]; rfl)) (dk kX5_isLarge_ok 8 rfl)
set_option maxRecDepth 100000 in
set_option maxHeartbeats 4000000 in
theorem tX5_stepsOf (l : Launch) (x : Int32) (w : Nat) (hxw : x = nI w) (hw : w < 2 ^ 31) (y : Int32) (f : Nat) (hyf : y = nI f) (hf : f < 2 ^ 30) : MP l yX5_stepsOf (Cond.code yX5_stepsOf cX5_stepsOf 2 (some .int) :: AW) ({ frames := 1, cells := 0, slots := 0, locals := 20 } : Room) [.int x, .int y] (.int (nI (stp w f))) := by
  refine mp_i (ty := .int) (by decide +kernel) rfl rfl rfl rfl (Nat.le_of_ble_eq_true rfl) (fun p e s m below meth cd Q ls hx hb hml hown hts hret hl => ?_)
  have hown : s.vm.findClass RX5 = some m.cls := hown
  subst hxw
  subst hyf
  have hl : lv_has ls 2 [(0, .int (nI w)), (1, .int (nI f))] := hl
  refine lv_iload_n hx hb (dk kX5_stepsOf_ok 0 rfl) rfl (lv_at hl 0 rfl) ?_
  refine csP (As := [.int (nI w)]) (rest := []) ⟨hx, hb, hml, hown, hts⟩ (tX5_isLarge l (nI w) w rfl (by omega)) (cwS9 1 hts mcX5_isLarge (ac6 _ (List.mem_of_getElem? (i := 23) rfl)) msX5_isLarge mini_RX5 rfl rfl hdX5_isLarge ⟨Nat.le_of_ble_eq_true rfl, Nat.le_of_ble_eq_true rfl⟩) rfl hl.1 rfl (Nat.le_of_ble_eq_true rfl) (by decide) (dk kX5_stepsOf_ok 1 rfl) ?_
  refine b_if_eq (tgt := 11) hx hb (dk kX5_stepsOf_ok 2 rfl) (by decide) (fun h1 => ?_) (fun h1 => ?_)
  · replace h1 := of_decide_eq_false h1
    refine lv_iload_n hx hb (dk kX5_stepsOf_ok 5 rfl) rfl (lv_at hl 1 rfl) ?_
    refine lv_iconst (v := nI 1) hx hb (dk kX5_stepsOf_ok 6 rfl) rfl ?_
    refine n_iadd hx hb (dk kX5_stepsOf_ok 7 rfl) ?_
    exact hret _ _ _ (by unfold stp; split <;> first | rfl | (exfalso; omega)) (dk kX5_stepsOf_ok 8 rfl)
  · replace h1 := of_decide_eq_true h1
    refine lv_iload_n hx hb (dk kX5_stepsOf_ok 3 rfl) rfl (lv_at hl 1 rfl) ?_
    refine lv_goto (tgt := 14) hx hb (dk kX5_stepsOf_ok 4 rfl) (by decide) ?_
    exact hret _ _ _ (by unfold stp; split <;> first | rfl | (exfalso; omega)) (dk kX5_stepsOf_ok 8 rfl)
set_option maxRecDepth 100000 in
set_option maxHeartbeats 4000000 in
theorem tX5_baseOf (l : Launch) (x : Int32) (w : Nat) (hxw : x = nI w) (hw : w < 4) : MP l yX5_baseOf (Cond.code yX5_baseOf cX5_baseOf 1 (some .int) :: AW) ({ frames := 1, cells := 0, slots := 0, locals := 21 } : Room) [.int x] (.int (nI (bs w))) := by
  refine mp_i (ty := .int) (by decide +kernel) rfl rfl rfl rfl (Nat.le_of_ble_eq_true rfl) (fun p e s m below meth cd Q ls hx hb hml hown hts hret hl => ?_)
  have hown : s.vm.findClass RX5 = some m.cls := hown
  subst hxw
  have hl : lv_has ls 1 [(0, .int (nI w))] := hl
  refine lv_iload_n hx hb (dk kX5_baseOf_ok 0 rfl) rfl (lv_at hl 0 rfl) ?_
  rcases Classical.em (nI w = nI 0) with hs1 | hs1
  · skip
    refine sw_in (off := 27) (tgt := 28) 0 hx hb (dk kX5_baseOf_ok 1 rfl) hs1 rfl rfl rfl (by decide) ?_
    refine lv_iconst (v := nI 0) hx hb (dk kX5_baseOf_ok 2 rfl) rfl ?_
    refine lv_iconst (v := nI 0) hx hb (dk kX5_baseOf_ok 3 rfl) rfl ?_
    refine csP (As := [.int (nI 0), .int (nI 0)]) (rest := []) ⟨hx, hb, hml, hown, hts⟩ (tX5_cellAt l (nI 0) (nI 0)) (cwS9 2 hts mcX5_cellAt (ac0 _ (List.mem_of_getElem? (i := 17) rfl)) msX5_cellAt mini_RX5 rfl rfl hdX5_cellAt ⟨Nat.le_of_ble_eq_true rfl, Nat.le_of_ble_eq_true rfl⟩) rfl hl.1 rfl (Nat.le_of_ble_eq_true rfl) (by decide) (dk kX5_baseOf_ok 4 rfl) ?_
    exact hret _ _ _ (by rcases (show w = 0 ∨ w = 1 ∨ w = 2 ∨ w = 3 by omega) with rfl | rfl | rfl | rfl <;> first | rfl | (exfalso; revert hs1; decide)) (dk kX5_baseOf_ok 5 rfl)
  rcases Classical.em (nI w = nI 1) with hs2 | hs2
  · skip
    refine sw_in (off := 33) (tgt := 34) 1 hx hb (dk kX5_baseOf_ok 1 rfl) hs2 rfl rfl rfl (by decide) ?_
    refine lv_bipush (v := nI 12) hx hb (dk kX5_baseOf_ok 6 rfl) rfl ?_
    refine lv_iconst (v := nI 0) hx hb (dk kX5_baseOf_ok 7 rfl) rfl ?_
    refine csP (As := [.int (nI 12), .int (nI 0)]) (rest := []) ⟨hx, hb, hml, hown, hts⟩ (tX5_cellAt l (nI 12) (nI 0)) (cwS9 2 hts mcX5_cellAt (ac0 _ (List.mem_of_getElem? (i := 17) rfl)) msX5_cellAt mini_RX5 rfl rfl hdX5_cellAt ⟨Nat.le_of_ble_eq_true rfl, Nat.le_of_ble_eq_true rfl⟩) rfl hl.1 rfl (Nat.le_of_ble_eq_true rfl) (by decide) (dk kX5_baseOf_ok 8 rfl) ?_
    exact hret _ _ _ (by rcases (show w = 0 ∨ w = 1 ∨ w = 2 ∨ w = 3 by omega) with rfl | rfl | rfl | rfl <;> first | rfl | (exfalso; revert hs1 hs2; decide)) (dk kX5_baseOf_ok 9 rfl)
  rcases Classical.em (nI w = nI 2) with hs3 | hs3
  · skip
    refine sw_in (off := 40) (tgt := 41) 2 hx hb (dk kX5_baseOf_ok 1 rfl) hs3 rfl rfl rfl (by decide) ?_
    refine lv_bipush (v := nI 12) hx hb (dk kX5_baseOf_ok 10 rfl) rfl ?_
    refine lv_bipush (v := nI 12) hx hb (dk kX5_baseOf_ok 11 rfl) rfl ?_
    refine csP (As := [.int (nI 12), .int (nI 12)]) (rest := []) ⟨hx, hb, hml, hown, hts⟩ (tX5_cellAt l (nI 12) (nI 12)) (cwS9 2 hts mcX5_cellAt (ac0 _ (List.mem_of_getElem? (i := 17) rfl)) msX5_cellAt mini_RX5 rfl rfl hdX5_cellAt ⟨Nat.le_of_ble_eq_true rfl, Nat.le_of_ble_eq_true rfl⟩) rfl hl.1 rfl (Nat.le_of_ble_eq_true rfl) (by decide) (dk kX5_baseOf_ok 12 rfl) ?_
    exact hret _ _ _ (by rcases (show w = 0 ∨ w = 1 ∨ w = 2 ∨ w = 3 by omega) with rfl | rfl | rfl | rfl <;> first | rfl | (exfalso; revert hs1 hs2 hs3; decide)) (dk kX5_baseOf_ok 13 rfl)
  refine lv_tableOut (tgt := 49) hx hb (dk kX5_baseOf_ok 1 rfl) (sw_out 3 (by intro k9 hk9; rcases k9 with _ | _ | _ | _ <;> first | assumption | omega)) (by decide) ?_
  refine lv_iconst (v := nI 0) hx hb (dk kX5_baseOf_ok 14 rfl) rfl ?_
  refine lv_bipush (v := nI 12) hx hb (dk kX5_baseOf_ok 15 rfl) rfl ?_
  refine csP (As := [.int (nI 0), .int (nI 12)]) (rest := []) ⟨hx, hb, hml, hown, hts⟩ (tX5_cellAt l (nI 0) (nI 12)) (cwS9 2 hts mcX5_cellAt (ac0 _ (List.mem_of_getElem? (i := 17) rfl)) msX5_cellAt mini_RX5 rfl rfl hdX5_cellAt ⟨Nat.le_of_ble_eq_true rfl, Nat.le_of_ble_eq_true rfl⟩) rfl hl.1 rfl (Nat.le_of_ble_eq_true rfl) (by decide) (dk kX5_baseOf_ok 16 rfl) ?_
  exact hret _ _ _ (by rcases (show w = 0 ∨ w = 1 ∨ w = 2 ∨ w = 3 by omega) with rfl | rfl | rfl | rfl <;> first | rfl | (exfalso; revert hs1 hs2 hs3; decide)) (dk kX5_baseOf_ok 17 rfl)
set_option maxRecDepth 100000 in
set_option maxHeartbeats 4000000 in
theorem tX5_cellBeside (l : Launch) (x y d : Int32) : MP l yX5_cellBeside (Cond.code yX5_cellBeside cX5_cellBeside 5 (some .int) :: AW) ({ frames := 1, cells := 0, slots := 0, locals := 21 } : Room) [.int x, .int y, .int d] (.int (beside x y d)) := by
  refine mp_i (ty := .int) (by decide +kernel) rfl rfl rfl rfl (Nat.le_of_ble_eq_true rfl) (fun p e s m below meth cd Q ls hx hb hml hown hts hret hl => ?_)
  have hown : s.vm.findClass RX5 = some m.cls := hown
  have hl : lv_has ls 5 [(0, .int x), (1, .int y), (2, .int d)] := hl
  refine lv_iload_n hx hb (dk kX5_cellBeside_ok 0 rfl) rfl (lv_at hl 0 rfl) ?_
  refine lv_iload_n hx hb (dk kX5_cellBeside_ok 1 rfl) rfl (lv_at hl 2 rfl) ?_
  refine csP (As := [.int d]) (rest := [.int x]) ⟨hx, hb, hml, hown, hts⟩ (tX5_eastOf l d) (cwS9 1 hts mcX5_eastOf (ac5 _ (List.mem_of_getElem? (i := 14) rfl)) msX5_eastOf mini_RX5 rfl rfl hdX5_eastOf ⟨Nat.le_of_ble_eq_true rfl, Nat.le_of_ble_eq_true rfl⟩) rfl hl.1 rfl (Nat.le_of_ble_eq_true rfl) (by decide) (dk kX5_cellBeside_ok 2 rfl) ?_
  refine lv_iadd hx hb (dk kX5_cellBeside_ok 3 rfl) ?_
  refine lv_istore_n (lv' := [(3, .int (x + (ea d))), (0, .int x), (1, .int y), (2, .int d)]) hx hb (dk kX5_cellBeside_ok 4 rfl) rfl hl (by decide) rfl (fun ls hl => ?_)
  refine lv_iload_n hx hb (dk kX5_cellBeside_ok 5 rfl) rfl (lv_at hl 2 rfl) ?_
  refine lv_iload_n hx hb (dk kX5_cellBeside_ok 6 rfl) rfl (lv_at hl 3 rfl) ?_
  refine csP (As := [.int d]) (rest := [.int y]) ⟨hx, hb, hml, hown, hts⟩ (tX5_southOf l d) (cwS9 1 hts mcX5_southOf (ac5 _ (List.mem_of_getElem? (i := 17) rfl)) msX5_southOf mini_RX5 rfl rfl hdX5_southOf ⟨Nat.le_of_ble_eq_true rfl, Nat.le_of_ble_eq_true rfl⟩) rfl hl.1 rfl (Nat.le_of_ble_eq_true rfl) (by decide) (dk kX5_cellBeside_ok 7 rfl) ?_
  refine lv_iadd hx hb (dk kX5_cellBeside_ok 8 rfl) ?_
  refine lv_istore (lv' := [(4, .int (y + (so d))), (3, .int (x + (ea d))), (0, .int x), (1, .int y), (2, .int d)]) hx hb (dk kX5_cellBeside_ok 9 rfl) hl (by decide) rfl (fun ls hl => ?_)
  refine lv_iload_n hx hb (dk kX5_cellBeside_ok 10 rfl) rfl (lv_at hl 1 rfl) ?_
  refine lv_iload hx hb (dk kX5_cellBeside_ok 11 rfl) (lv_at hl 0 rfl) ?_
  refine csP (As := [.int (x + (ea d)), .int (y + (so d))]) (rest := []) ⟨hx, hb, hml, hown, hts⟩ (tX5_isOnMat l (x + (ea d)) (y + (so d))) (cwS9 2 hts mcX5_isOnMat (ac5 _ (List.mem_of_getElem? (i := 20) rfl)) msX5_isOnMat mini_RX5 rfl rfl hdX5_isOnMat ⟨Nat.le_of_ble_eq_true rfl, Nat.le_of_ble_eq_true rfl⟩) rfl hl.1 rfl (Nat.le_of_ble_eq_true rfl) (by decide) (dk kX5_cellBeside_ok 12 rfl) ?_
  refine b_if_eq (tgt := 33) hx hb (dk kX5_cellBeside_ok 13 rfl) (by decide) (fun h1 => ?_) (fun h1 => ?_)
  · skip
    refine lv_iconst (v := -1) hx hb (dk kX5_cellBeside_ok 18 rfl) rfl ?_
    exact hret _ _ _ (by simp [beside, h1]) (dk kX5_cellBeside_ok 19 rfl)
  · skip
    refine lv_iload_n hx hb (dk kX5_cellBeside_ok 14 rfl) rfl (lv_at hl 1 rfl) ?_
    refine lv_iload hx hb (dk kX5_cellBeside_ok 15 rfl) (lv_at hl 0 rfl) ?_
    refine csP (As := [.int (x + (ea d)), .int (y + (so d))]) (rest := []) ⟨hx, hb, hml, hown, hts⟩ (tX5_cellAt l (x + (ea d)) (y + (so d))) (cwS9 2 hts mcX5_cellAt (ac0 _ (List.mem_of_getElem? (i := 17) rfl)) msX5_cellAt mini_RX5 rfl rfl hdX5_cellAt ⟨Nat.le_of_ble_eq_true rfl, Nat.le_of_ble_eq_true rfl⟩) rfl hl.1 rfl (Nat.le_of_ble_eq_true rfl) (by decide) (dk kX5_cellBeside_ok 16 rfl) ?_
    refine lv_goto (tgt := 34) hx hb (dk kX5_cellBeside_ok 17 rfl) (by decide) ?_
    exact hret _ _ _ (by simp [beside, h1]) (dk kX5_cellBeside_ok 19 rfl)
set_option maxRecDepth 100000 in
set_option maxHeartbeats 4000000 in
theorem tX5_landing (l : Launch) (q d z : Int32) (f : Nat) (hzf : z = nI f) (hf : f < 2 ^ 31) : MP l yX5_landing (Cond.code yX5_landing cX5_landing 9 (some .int) :: AW) ({ frames := 1, cells := 0, slots := 0, locals := 21 } : Room) [.int q, .int d, .int z] (.int (ldg q d f)) := by
  refine mp_i (ty := .int) (by decide +kernel) rfl rfl rfl rfl (Nat.le_of_ble_eq_true rfl) (fun p e s m below meth cd Q ls hx hb hml hown hts hret hl => ?_)
  have hown : s.vm.findClass RX5 = some m.cls := hown
  subst hzf
  have hl : lv_has ls 9 [(0, .int q), (1, .int d), (2, .int (nI f))] := hl
  refine lv_iload_n hx hb (dk kX5_landing_0_ok 0 rfl) rfl (lv_at hl 0 rfl) ?_
  refine lv_bipush (v := nI 13) hx hb (dk kX5_landing_0_ok 1 rfl) rfl ?_
  refine lv_irem hx hb (dk kX5_landing_0_ok 2 rfl) (by decide) ?_
  refine lv_istore_n (lv' := [(3, .int (q - q / (nI 13) * (nI 13))), (0, .int q), (1, .int d), (2, .int (nI f))]) hx hb (dk kX5_landing_0_ok 3 rfl) rfl hl (by decide) rfl (fun ls hl => ?_)
  refine lv_iload_n hx hb (dk kX5_landing_0_ok 4 rfl) rfl (lv_at hl 1 rfl) ?_
  refine lv_bipush (v := nI 13) hx hb (dk kX5_landing_0_ok 5 rfl) rfl ?_
  refine lv_idiv hx hb (dk kX5_landing_0_ok 6 rfl) (by decide) ?_
  refine lv_istore (lv' := [(4, .int (q / (nI 13))), (3, .int (q - q / (nI 13) * (nI 13))), (0, .int q), (1, .int d), (2, .int (nI f))]) hx hb (dk kX5_landing_0_ok 7 rfl) hl (by decide) rfl (fun ls hl => ?_)
  refine lv_iload_n hx hb (dk kX5_landing_0_ok 8 rfl) rfl (lv_at hl 3 rfl) ?_
  refine csP (As := [.int d]) (rest := []) ⟨hx, hb, hml, hown, hts⟩ (tX5_eastOf l d) (cwS9 1 hts mcX5_eastOf (ac5 _ (List.mem_of_getElem? (i := 14) rfl)) msX5_eastOf mini_RX5 rfl rfl hdX5_eastOf ⟨Nat.le_of_ble_eq_true rfl, Nat.le_of_ble_eq_true rfl⟩) rfl hl.1 rfl (Nat.le_of_ble_eq_true rfl) (by decide) (dk kX5_landing_0_ok 9 rfl) ?_
  refine lv_istore (lv' := [(5, .int (ea d)), (4, .int (q / (nI 13))), (3, .int (q - q / (nI 13) * (nI 13))), (0, .int q), (1, .int d), (2, .int (nI f))]) hx hb (dk kX5_landing_0_ok 10 rfl) hl (by decide) rfl (fun ls hl => ?_)
  refine lv_iload_n hx hb (dk kX5_landing_0_ok 11 rfl) rfl (lv_at hl 4 rfl) ?_
  refine csP (As := [.int d]) (rest := []) ⟨hx, hb, hml, hown, hts⟩ (tX5_southOf l d) (cwS9 1 hts mcX5_southOf (ac5 _ (List.mem_of_getElem? (i := 17) rfl)) msX5_southOf mini_RX5 rfl rfl hdX5_southOf ⟨Nat.le_of_ble_eq_true rfl, Nat.le_of_ble_eq_true rfl⟩) rfl hl.1 rfl (Nat.le_of_ble_eq_true rfl) (by decide) (dk kX5_landing_0_ok 12 rfl) ?_
  refine lv_istore (lv' := [(6, .int (so d)), (5, .int (ea d)), (4, .int (q / (nI 13))), (3, .int (q - q / (nI 13) * (nI 13))), (0, .int q), (1, .int d), (2, .int (nI f))]) hx hb (dk kX5_landing_0_ok 13 rfl) hl (by decide) rfl (fun ls hl => ?_)
  refine lv_iconst (v := nI 0) hx hb (dk kX5_landing_0_ok 14 rfl) rfl ?_
  refine lv_istore (lv' := [(7, .int (nI 0)), (6, .int (so d)), (5, .int (ea d)), (4, .int (q / (nI 13))), (3, .int (q - q / (nI 13) * (nI 13))), (0, .int q), (1, .int d), (2, .int (nI f))]) hx hb (dk kX5_landing_0_ok 15 rfl) hl (by decide) rfl (fun ls hl => ?_)
  refine lv_iconst (v := nI 0) hx hb (dk kX5_landing_0_ok 16 rfl) rfl ?_
  refine lv_istore (lv' := [(8, .int (nI 0)), (7, .int (nI 0)), (6, .int (so d)), (5, .int (ea d)), (4, .int (q / (nI 13))), (3, .int (q - q / (nI 13) * (nI 13))), (0, .int q), (1, .int d), (2, .int (nI f))]) hx hb (dk kX5_landing_0_ok 17 rfl) hl (by decide) rfl (fun ls hl => ?_)
  have L29 : ∀ (fu : Nat) (i : Nat) (x y u v : Int32) (b : Bool) (x7 : Int32), x7 = bI b → i ≤ f → ldg q d f = ldL (f - i) x y u v b → f - i < fu → ∀ ls : Array Slot, lv_has ls 9 [(0, .int q), (1, .int d), (2, .int (nI f)), (3, .int x), (4, .int y), (5, .int u), (6, .int v), (7, .int x7), (8, .int (nI i))] → W p l e ({ frames := 1, cells := 0, slots := 0, locals := 21 } : Room) s m ([.int q, .int d, .int (nI f)] : List Value).toArray below meth cd s.heap [] 0 0 Q (F0 m 29 ls []) := by
    intro fu
    induction fu with
    | zero => intros; omega
    | succ fu ih29 =>
      intro i x y u v b x7 ex7 hi hr hm29 ls hl
      subst ex7
      refine lv_iload hx hb (dk kX5_landing_0_ok 18 rfl) (lv_at hl 8 rfl) ?_
      refine lv_iload_n hx hb (dk kX5_landing_0_ok 19 rfl) rfl (lv_at hl 2 rfl) ?_
      refine n_icmp_ge (tgt := 103) hx hb (by omega) (by omega) (dk kX5_landing_0_ok 20 rfl) (by decide) (fun h1 => ?_) (fun h1 => ?_)
      · skip
        refine lv_iload_n hx hb (dk kX5_landing_0_ok 59 rfl) rfl (lv_at hl 3 rfl) ?_
        refine lv_iload hx hb (dk kX5_landing_1_ok 0 rfl) (lv_at hl 4 rfl) ?_
        refine csP (As := [.int x, .int y]) (rest := []) ⟨hx, hb, hml, hown, hts⟩ (tX5_cellAt l x y) (cwS9 2 hts mcX5_cellAt (ac0 _ (List.mem_of_getElem? (i := 17) rfl)) msX5_cellAt mini_RX5 rfl rfl hdX5_cellAt ⟨Nat.le_of_ble_eq_true rfl, Nat.le_of_ble_eq_true rfl⟩) rfl hl.1 rfl (Nat.le_of_ble_eq_true rfl) (by decide) (dk kX5_landing_1_ok 1 rfl) ?_
        exact hret _ _ _ (by first | (rw [hr, show f - i = (f - (i + 1)) + 1 by omega]; simp [ldL, h1]; done) | (rw [hr, show f - i = 0 by omega]; rfl)) (dk kX5_landing_1_ok 2 rfl)
      · skip
        refine lv_iload_n hx hb (dk kX5_landing_0_ok 21 rfl) rfl (lv_at hl 3 rfl) ?_
        refine lv_iload hx hb (dk kX5_landing_0_ok 22 rfl) (lv_at hl 5 rfl) ?_
        refine lv_iadd hx hb (dk kX5_landing_0_ok 23 rfl) ?_
        refine lv_iload hx hb (dk kX5_landing_0_ok 24 rfl) (lv_at hl 4 rfl) ?_
        refine lv_iload hx hb (dk kX5_landing_0_ok 25 rfl) (lv_at hl 6 rfl) ?_
        refine lv_iadd hx hb (dk kX5_landing_0_ok 26 rfl) ?_
        refine csP (As := [.int (x + u), .int (y + v)]) (rest := []) ⟨hx, hb, hml, hown, hts⟩ (tX5_isOnMat l (x + u) (y + v)) (cwS9 2 hts mcX5_isOnMat (ac5 _ (List.mem_of_getElem? (i := 20) rfl)) msX5_isOnMat mini_RX5 rfl rfl hdX5_isOnMat ⟨Nat.le_of_ble_eq_true rfl, Nat.le_of_ble_eq_true rfl⟩) rfl hl.1 rfl (Nat.le_of_ble_eq_true rfl) (by decide) (dk kX5_landing_0_ok 27 rfl) ?_
        refine b_if_ne (tgt := 85) hx hb (dk kX5_landing_0_ok 28 rfl) (by decide) (fun h2 => ?_) (fun h2 => ?_)
        · skip
          refine lv_iload_n hx hb (dk kX5_landing_0_ok 49 rfl) rfl (lv_at hl 3 rfl) ?_
          refine lv_iload hx hb (dk kX5_landing_0_ok 50 rfl) (lv_at hl 5 rfl) ?_
          refine lv_iadd hx hb (dk kX5_landing_0_ok 51 rfl) ?_
          refine lv_istore_n (lv' := [(3, .int (x + u)), (0, .int q), (1, .int d), (2, .int (nI f)), (4, .int y), (5, .int u), (6, .int v), (7, .int (bI b)), (8, .int (nI i))]) hx hb (dk kX5_landing_0_ok 52 rfl) rfl hl (by decide) rfl (fun ls hl => ?_)
          refine lv_iload hx hb (dk kX5_landing_0_ok 53 rfl) (lv_at hl 4 rfl) ?_
          refine lv_iload hx hb (dk kX5_landing_0_ok 54 rfl) (lv_at hl 6 rfl) ?_
          refine lv_iadd hx hb (dk kX5_landing_0_ok 55 rfl) ?_
          refine lv_istore (lv' := [(4, .int (y + v)), (3, .int (x + u)), (0, .int q), (1, .int d), (2, .int (nI f)), (5, .int u), (6, .int v), (7, .int (bI b)), (8, .int (nI i))]) hx hb (dk kX5_landing_0_ok 56 rfl) hl (by decide) rfl (fun ls hl => ?_)
          refine lv_iinc (v := nI (i + 1)) (lv' := [(8, .int (nI (i + 1))), (4, .int (y + v)), (3, .int (x + u)), (0, .int q), (1, .int d), (2, .int (nI f)), (5, .int u), (6, .int v), (7, .int (bI b))]) hx hb (dk kX5_landing_0_ok 57 rfl) hl (k := 8) rfl (n_inc _) (by decide) rfl (fun ls hl => ?_)
          refine lv_goto (tgt := 29) hx hb (dk kX5_landing_0_ok 58 rfl) (by decide) ?_
          exact ih29 (i + 1) (x + u) (y + v) u v b _ (by rfl) (by omega) (by rw [hr, show f - i = (f - (i + 1)) + 1 by omega]; simp [ldL, h1, h2]) (by omega) ls (lv_sub hl [3, 4, 5, 2, 1, 6, 7, 8, 0] rfl)
        · skip
          refine lv_iload hx hb (dk kX5_landing_0_ok 29 rfl) (lv_at hl 5 rfl) ?_
          refine lv_ineg hx hb (dk kX5_landing_0_ok 30 rfl) ?_
          refine lv_istore (lv' := [(5, .int (-u)), (0, .int q), (1, .int d), (2, .int (nI f)), (3, .int x), (4, .int y), (6, .int v), (7, .int (bI b)), (8, .int (nI i))]) hx hb (dk kX5_landing_0_ok 31 rfl) hl (by decide) rfl (fun ls hl => ?_)
          refine lv_iload hx hb (dk kX5_landing_0_ok 32 rfl) (lv_at hl 6 rfl) ?_
          refine lv_ineg hx hb (dk kX5_landing_0_ok 33 rfl) ?_
          refine lv_istore (lv' := [(6, .int (-v)), (5, .int (-u)), (0, .int q), (1, .int d), (2, .int (nI f)), (3, .int x), (4, .int y), (7, .int (bI b)), (8, .int (nI i))]) hx hb (dk kX5_landing_0_ok 34 rfl) hl (by decide) rfl (fun ls hl => ?_)
          refine lv_iload hx hb (dk kX5_landing_0_ok 35 rfl) (lv_at hl 7 rfl) ?_
          refine b_if_ne (tgt := 80) hx hb (dk kX5_landing_0_ok 36 rfl) (by decide) (fun h3 => ?_) (fun h3 => ?_)
          · skip
            refine lv_iconst (v := -1) hx hb (dk kX5_landing_0_ok 45 rfl) rfl ?_
            exact hret _ _ _ (by first | (rw [hr, show f - i = (f - (i + 1)) + 1 by omega]; simp [ldL, h1, h2, h3]; done) | (rw [hr, show f - i = 0 by omega]; rfl)) (dk kX5_landing_0_ok 46 rfl)
          · skip
            refine lv_iload_n hx hb (dk kX5_landing_0_ok 37 rfl) rfl (lv_at hl 5 rfl) ?_
            refine lv_iload hx hb (dk kX5_landing_0_ok 38 rfl) (lv_at hl 1 rfl) ?_
            refine lv_iadd hx hb (dk kX5_landing_0_ok 39 rfl) ?_
            refine lv_iload hx hb (dk kX5_landing_0_ok 40 rfl) (lv_at hl 6 rfl) ?_
            refine lv_iload hx hb (dk kX5_landing_0_ok 41 rfl) (lv_at hl 0 rfl) ?_
            refine lv_iadd hx hb (dk kX5_landing_0_ok 42 rfl) ?_
            refine csP (As := [.int (x + (-u)), .int (y + (-v))]) (rest := []) ⟨hx, hb, hml, hown, hts⟩ (tX5_isOnMat l (x + (-u)) (y + (-v))) (cwS9 2 hts mcX5_isOnMat (ac5 _ (List.mem_of_getElem? (i := 20) rfl)) msX5_isOnMat mini_RX5 rfl rfl hdX5_isOnMat ⟨Nat.le_of_ble_eq_true rfl, Nat.le_of_ble_eq_true rfl⟩) rfl hl.1 rfl (Nat.le_of_ble_eq_true rfl) (by decide) (dk kX5_landing_0_ok 43 rfl) ?_
            refine b_if_ne (tgt := 82) hx hb (dk kX5_landing_0_ok 44 rfl) (by decide) (fun h4 => ?_) (fun h4 => ?_)
            · skip
              refine lv_iconst (v := nI 1) hx hb (dk kX5_landing_0_ok 47 rfl) rfl ?_
              refine lv_istore (lv' := [(7, .int (nI 1)), (6, .int (-v)), (5, .int (-u)), (0, .int q), (1, .int d), (2, .int (nI f)), (3, .int x), (4, .int y), (8, .int (nI i))]) hx hb (dk kX5_landing_0_ok 48 rfl) hl (by decide) rfl (fun ls hl => ?_)
              refine lv_iload_n hx hb (dk kX5_landing_0_ok 49 rfl) rfl (lv_at hl 6 rfl) ?_
              refine lv_iload hx hb (dk kX5_landing_0_ok 50 rfl) (lv_at hl 2 rfl) ?_
              refine lv_iadd hx hb (dk kX5_landing_0_ok 51 rfl) ?_
              refine lv_istore_n (lv' := [(3, .int (x + (-u))), (7, .int (nI 1)), (6, .int (-v)), (5, .int (-u)), (0, .int q), (1, .int d), (2, .int (nI f)), (4, .int y), (8, .int (nI i))]) hx hb (dk kX5_landing_0_ok 52 rfl) rfl hl (by decide) rfl (fun ls hl => ?_)
              refine lv_iload hx hb (dk kX5_landing_0_ok 53 rfl) (lv_at hl 7 rfl) ?_
              refine lv_iload hx hb (dk kX5_landing_0_ok 54 rfl) (lv_at hl 2 rfl) ?_
              refine lv_iadd hx hb (dk kX5_landing_0_ok 55 rfl) ?_
              refine lv_istore (lv' := [(4, .int (y + (-v))), (3, .int (x + (-u))), (7, .int (nI 1)), (6, .int (-v)), (5, .int (-u)), (0, .int q), (1, .int d), (2, .int (nI f)), (8, .int (nI i))]) hx hb (dk kX5_landing_0_ok 56 rfl) hl (by decide) rfl (fun ls hl => ?_)
              refine lv_iinc (v := nI (i + 1)) (lv' := [(8, .int (nI (i + 1))), (4, .int (y + (-v))), (3, .int (x + (-u))), (7, .int (nI 1)), (6, .int (-v)), (5, .int (-u)), (0, .int q), (1, .int d), (2, .int (nI f))]) hx hb (dk kX5_landing_0_ok 57 rfl) hl (k := 8) rfl (n_inc _) (by decide) rfl (fun ls hl => ?_)
              refine lv_goto (tgt := 29) hx hb (dk kX5_landing_0_ok 58 rfl) (by decide) ?_
              exact ih29 (i + 1) (x + (-u)) (y + (-v)) (-u) (-v) true _ (by rfl) (by omega) (by rw [hr, show f - i = (f - (i + 1)) + 1 by omega]; simp [ldL, h1, h2, h3, h4]) (by omega) ls (lv_sub hl [6, 7, 8, 2, 1, 5, 4, 3, 0] rfl)
            · skip
              refine lv_iconst (v := -1) hx hb (dk kX5_landing_0_ok 45 rfl) rfl ?_
              exact hret _ _ _ (by first | (rw [hr, show f - i = (f - (i + 1)) + 1 by omega]; simp [ldL, h1, h2, h3, h4]; done) | (rw [hr, show f - i = 0 by omega]; rfl)) (dk kX5_landing_0_ok 46 rfl)
  exact L29 _ 0 (q - q / nI 13 * nI 13) (q / nI 13) (ea d) (so d) false _ (by first | rfl | omega) (by first | rfl | omega) (by first | rfl | omega) (Nat.lt_succ_self _) ls (lv_sub hl [6, 7, 8, 5, 4, 3, 2, 1, 0] rfl)
set_option maxRecDepth 100000 in
set_option maxHeartbeats 4000000 in
theorem tX5_restingCell (l : Launch) (x : Int32) (w : Nat) (hxw : x = nI w) (hw : w < 16) (q : Int32) : MP l yX5_restingCell (Cond.code yX5_restingCell cX5_restingCell 2 (some .int) :: AW) ({ frames := 2, cells := 0, slots := 0, locals := 41 } : Room) [.int x, .int q] (.int (rest9 w q)) := by
  refine mp_i (ty := .int) (by decide +kernel) rfl rfl rfl rfl (Nat.le_of_ble_eq_true rfl) (fun p e s m below meth cd Q ls hx hb hml hown hts hret hl => ?_)
  have hown : s.vm.findClass RX5 = some m.cls := hown
  subst hxw
  have hl : lv_has ls 2 [(0, .int (nI w)), (1, .int q)] := hl
  refine lv_iload_n hx hb (dk kX5_restingCell_ok 0 rfl) rfl (lv_at hl 1 rfl) ?_
  refine lv_iconst (v := -1) hx hb (dk kX5_restingCell_ok 1 rfl) rfl ?_
  refine lv_icmp_ne (tgt := 15) hx hb (dk kX5_restingCell_ok 2 rfl) (by decide) (fun h1 => ?_) (fun h1 => ?_)
  · skip
    refine lv_iload_n hx hb (dk kX5_restingCell_ok 7 rfl) rfl (lv_at hl 1 rfl) ?_
    exact hret _ _ _ (by simp [rest9, h1]) (dk kX5_restingCell_ok 8 rfl)
  · skip
    refine lv_iload_n hx hb (dk kX5_restingCell_ok 3 rfl) rfl (lv_at hl 0 rfl) ?_
    refine csP (As := [.int (nI w)]) (rest := []) ⟨hx, hb, hml, hown, hts⟩ (tX5_colourOf l (nI w) w rfl (by omega)) (cwS9 1 hts mcX5_colourOf (ac7 _ (List.mem_of_getElem? (i := 2) rfl)) msX5_colourOf mini_RX5 rfl rfl hdX5_colourOf ⟨Nat.le_of_ble_eq_true rfl, Nat.le_of_ble_eq_true rfl⟩) rfl hl.1 rfl (Nat.le_of_ble_eq_true rfl) (by decide) (dk kX5_restingCell_ok 4 rfl) ?_
    refine csP (As := [.int (nI (w / 4))]) (rest := []) ⟨hx, hb, hml, hown, hts⟩ (tX5_baseOf l (nI (w / 4)) (w / 4) rfl (by omega)) (cwS9 1 hts mcX5_baseOf (ac7 _ (List.mem_of_getElem? (i := 3) rfl)) msX5_baseOf mini_RX5 rfl rfl hdX5_baseOf ⟨Nat.le_of_ble_eq_true rfl, Nat.le_of_ble_eq_true rfl⟩) rfl hl.1 rfl (Nat.le_of_ble_eq_true rfl) (by decide) (dk kX5_restingCell_ok 5 rfl) ?_
    refine lv_goto (tgt := 16) hx hb (dk kX5_restingCell_ok 6 rfl) (by decide) ?_
    exact hret _ _ _ (by simp [rest9, h1]) (dk kX5_restingCell_ok 8 rfl)
set_option maxRecDepth 100000 in
set_option maxHeartbeats 4000000 in
theorem tX5_flightAnswer (l : Launch) (q : Int32) : MP l yX5_flightAnswer (Cond.code yX5_flightAnswer cX5_flightAnswer 1 (some .int) :: AW) ({ frames := 0, cells := 0, slots := 0, locals := 0 } : Room) [.int q] (.int (fans q)) := by
  refine mp_i (ty := .int) (by decide +kernel) rfl rfl rfl rfl (Nat.le_of_ble_eq_true rfl) (fun p e s m below meth cd Q ls hx hb hml hown hts hret hl => ?_)
  have hown : s.vm.findClass RX5 = some m.cls := hown
  have hl : lv_has ls 1 [(0, .int q)] := hl
  refine lv_iload_n hx hb (dk kX5_flightAnswer_ok 0 rfl) rfl (lv_at hl 0 rfl) ?_
  refine lv_bipush (v := nI 84) hx hb (dk kX5_flightAnswer_ok 1 rfl) rfl ?_
  refine lv_icmp_ne (tgt := 12) hx hb (dk kX5_flightAnswer_ok 2 rfl) (by decide) (fun h1 => ?_) (fun h1 => ?_)
  · skip
    refine lv_iload_n hx hb (dk kX5_flightAnswer_ok 5 rfl) rfl (lv_at hl 0 rfl) ?_
    exact hret _ _ _ (by simp [fans, h1]) (dk kX5_flightAnswer_ok 6 rfl)
  · skip
    refine lv_sipush (v := nI 169) hx hb (dk kX5_flightAnswer_ok 3 rfl) rfl ?_
    refine lv_goto (tgt := 13) hx hb (dk kX5_flightAnswer_ok 4 rfl) (by decide) ?_
    exact hret _ _ _ (by simp [fans, h1]) (dk kX5_flightAnswer_ok 6 rfl)
set_option maxRecDepth 100000 in
set_option maxHeartbeats 4000000 in
theorem tX5_colourOf_r (l : Launch) (x : Int32) : MP l yX5_colourOf (Cond.code yX5_colourOf cX5_colourOf 1 (some .int) :: AW) ({ frames := 0, cells := 0, slots := 0, locals := 0 } : Room) [.int x] (.int (x / nI 4)) := by
  refine mp_i (ty := .int) (by decide +kernel) rfl rfl rfl rfl (Nat.le_of_ble_eq_true rfl) (fun p e s m below meth cd Q ls hx hb hml hown hts hret hl => ?_)
  have hown : s.vm.findClass RX5 = some m.cls := hown
  have hl : lv_has ls 1 [(0, .int x)] := hl
  refine lv_iload_n hx hb (dk kX5_colourOf_ok 0 rfl) rfl (lv_at hl 0 rfl) ?_
  refine lv_iconst (v := nI 4) hx hb (dk kX5_colourOf_ok 1 rfl) rfl ?_
  refine lv_idiv hx hb (dk kX5_colourOf_ok 2 rfl) (by decide) ?_
  exact hret _ _ _ (by rfl) (dk kX5_colourOf_ok 3 rfl)
end
section
set_option maxRecDepth 100000 in
set_option maxHeartbeats 4000000 in
theorem tX1_isPotted (l : Launch) (D : va_G) (cI cQ cL : ClassId) (ad : Nat → Nat) (N : Nat) (F : Nat → va_E) (k : Nat) (hk : k + 3 < N) (c b v : Nat → Int32) (hM : matAt cI ad F k c b v) (x : Int32) (w : Nat) (hxw : x = nI w) (hw : w < 16) : MR l yX1_isPotted (Cond.code yX1_isPotted cX1_isPotted 2 (some .boolean) :: AW) ({ frames := 0, cells := 0, slots := 0, locals := 0 } : Room) D cI cQ cL ad N F [.ref (ad k), .int x] (.int (bI (pot c w))) := by
  refine mr_i (ty := .boolean) (by decide +kernel) rfl rfl rfl (bI_nar _) (Nat.le_of_ble_eq_true rfl) (fun p e s m below meth cd Q ls hx hb hml hown hts hP hK hNW hret hl => ?_)
  have hown : s.vm.findClass RX1 = some m.cls := hown
  subst hxw
  obtain ⟨f0, f1, f2, f3⟩ := id hM
  have hk0 : k < N := by omega
  have hk1 : k + 1 < N := by omega
  have hk2 : k + 2 < N := by omega
  have hk3 : k + 3 < N := hk
  have hl : lv_has ls 2 [(0, .ref (ad k)), (1, .int (nI w))] := hl
  refine lv_aload_n hx hb (dk kX1_isPotted_ok 0 rfl) rfl (lv_at hl 0 rfl) ?_
  refine gf hx hb hts (fun w h => List.mem_cons_of_mem _ (acX1 w h)) hown hK hP hk0 f0 rfl 0 (by decide) (hts _ (List.mem_cons_of_mem _ (ac0 _ (List.mem_of_getElem? (i := 22) rfl)))) (fun _ h => h) rfl (dk kX1_isPotted_ok 1 rfl) ?_
  refine lv_iload_n hx hb (dk kX1_isPotted_ok 2 rfl) rfl (lv_at hl 1 rfl) ?_
  refine ald (j := w) hx hb hK hP hk1 f1 rfl (by omega) (by decide) (dk kX1_isPotted_ok 3 rfl) ?_
  refine lv_iconst (v := -1) hx hb (dk kX1_isPotted_ok 4 rfl) rfl ?_
  refine lv_icmp_ne (tgt := 14) hx hb (dk kX1_isPotted_ok 5 rfl) (by decide) (fun h1 => ?_) (fun h1 => ?_)
  · skip
    refine lv_iconst (v := nI 0) hx hb (dk kX1_isPotted_ok 8 rfl) rfl ?_
    exact hret _ _ _ (by simp [pot, h1, bI]) (dk kX1_isPotted_ok 9 rfl)
  · skip
    refine lv_iconst (v := nI 1) hx hb (dk kX1_isPotted_ok 6 rfl) rfl ?_
    refine lv_goto (tgt := 15) hx hb (dk kX1_isPotted_ok 7 rfl) (by decide) ?_
    exact hret _ _ _ (by simp [pot, h1, bI]) (dk kX1_isPotted_ok 9 rfl)
set_option maxRecDepth 100000 in
set_option maxHeartbeats 4000000 in
theorem tX1_isCovered (l : Launch) (D : va_G) (cI cQ cL : ClassId) (ad : Nat → Nat) (N : Nat) (F : Nat → va_E) (k : Nat) (hk : k + 3 < N) (c b v : Nat → Int32) (hM : matAt cI ad F k c b v) (x : Int32) (w : Nat) (hxw : x = nI w) (hw : w < 16) : MR l yX1_isCovered (Cond.code yX1_isCovered cX1_isCovered 2 (some .boolean) :: AW) ({ frames := 0, cells := 0, slots := 0, locals := 0 } : Room) D cI cQ cL ad N F [.ref (ad k), .int x] (.int (bI (cov v w))) := by
  refine mr_i (ty := .boolean) (by decide +kernel) rfl rfl rfl (bI_nar _) (Nat.le_of_ble_eq_true rfl) (fun p e s m below meth cd Q ls hx hb hml hown hts hP hK hNW hret hl => ?_)
  have hown : s.vm.findClass RX1 = some m.cls := hown
  subst hxw
  obtain ⟨f0, f1, f2, f3⟩ := id hM
  have hk0 : k < N := by omega
  have hk1 : k + 1 < N := by omega
  have hk2 : k + 2 < N := by omega
  have hk3 : k + 3 < N := hk
  have hl : lv_has ls 2 [(0, .ref (ad k)), (1, .int (nI w))] := hl
  refine lv_aload_n hx hb (dk kX1_isCovered_ok 0 rfl) rfl (lv_at hl 0 rfl) ?_
  refine gf hx hb hts (fun w h => List.mem_cons_of_mem _ (acX1 w h)) hown hK hP hk0 f0 rfl 2 (by decide) (hts _ (List.mem_cons_of_mem _ (ac1 _ (List.mem_of_getElem? (i := 0) rfl)))) (fun _ h => h) rfl (dk kX1_isCovered_ok 1 rfl) ?_
  refine lv_iload_n hx hb (dk kX1_isCovered_ok 2 rfl) rfl (lv_at hl 1 rfl) ?_
  refine ald (j := w) hx hb hK hP hk3 f3 rfl (by omega) (by decide) (dk kX1_isCovered_ok 3 rfl) ?_
  refine lv_iconst (v := -1) hx hb (dk kX1_isCovered_ok 4 rfl) rfl ?_
  refine lv_icmp_eq (tgt := 14) hx hb (dk kX1_isCovered_ok 5 rfl) (by decide) (fun h1 => ?_) (fun h1 => ?_)
  · skip
    refine lv_iconst (v := nI 0) hx hb (dk kX1_isCovered_ok 8 rfl) rfl ?_
    exact hret _ _ _ (by simp [cov, h1, bI]) (dk kX1_isCovered_ok 9 rfl)
  · skip
    refine lv_iconst (v := nI 1) hx hb (dk kX1_isCovered_ok 6 rfl) rfl ?_
    refine lv_goto (tgt := 15) hx hb (dk kX1_isCovered_ok 7 rfl) (by decide) ?_
    exact hret _ _ _ (by simp [cov, h1, bI]) (dk kX1_isCovered_ok 9 rfl)
set_option maxRecDepth 100000 in
set_option maxHeartbeats 4000000 in
theorem tX1_topAt (l : Launch) (D : va_G) (cI cQ cL : ClassId) (ad : Nat → Nat) (N : Nat) (F : Nat → va_E) (k : Nat) (hk : k + 3 < N) (c b v : Nat → Int32) (hM : matAt cI ad F k c b v) (q : Int32) : MR l yX1_topAt (Cond.code yX1_topAt cX1_topAt 3 (some .int) :: AW) ({ frames := 0, cells := 0, slots := 0, locals := 0 } : Room) D cI cQ cL ad N F [.ref (ad k), .int q] (.int (top c v q)) := by
  refine mr_i (ty := .int) (by decide +kernel) rfl rfl rfl rfl (Nat.le_of_ble_eq_true rfl) (fun p e s m below meth cd Q ls hx hb hml hown hts hP hK hNW hret hl => ?_)
  have hown : s.vm.findClass RX1 = some m.cls := hown
  obtain ⟨f0, f1, f2, f3⟩ := id hM
  have hk0 : k < N := by omega
  have hk1 : k + 1 < N := by omega
  have hk2 : k + 2 < N := by omega
  have hk3 : k + 3 < N := hk
  have hl : lv_has ls 3 [(0, .ref (ad k)), (1, .int q)] := hl
  refine lv_iconst (v := nI 0) hx hb (dk kX1_topAt_ok 0 rfl) rfl ?_
  refine lv_istore_n (lv' := [(2, .int (nI 0)), (0, .ref (ad k)), (1, .int q)]) hx hb (dk kX1_topAt_ok 1 rfl) rfl hl (by decide) rfl (fun ls hl => ?_)
  have L2 : ∀ (fu : Nat) (i : Nat), i ≤ 16 → top c v q = fst (tpq c v q) (16 - i) i → 16 - i < fu → ∀ ls : Array Slot, lv_has ls 3 [(0, .ref (ad k)), (1, .int q), (2, .int (nI i))] → W p l e ({ frames := 0, cells := 0, slots := 0, locals := 0 } : Room) s m ([.ref (ad k), .int q] : List Value).toArray below meth cd s.heap [] 0 0 Q (F0 m 2 ls []) := by
    intro fu
    induction fu with
    | zero => intros; omega
    | succ fu ih2 =>
      intro i hi hr hm2 ls hl
      refine lv_iload_n hx hb (dk kX1_topAt_ok 2 rfl) rfl (lv_at hl 2 rfl) ?_
      refine lv_bipush (v := nI 16) hx hb (dk kX1_topAt_ok 3 rfl) rfl ?_
      refine n_icmp_ge (tgt := 36) hx hb (by omega) (by decide) (dk kX1_topAt_ok 4 rfl) (by decide) (fun h1 => ?_) (fun h1 => ?_)
      · skip
        refine lv_iconst (v := -1) hx hb (dk kX1_topAt_ok 21 rfl) rfl ?_
        exact hret _ _ _ (by first | (rw [hr, show 16 - i = (16 - (i + 1)) + 1 by omega]; simp [fst, tpq, h1]; done) | (rw [hr, show 16 - i = 0 by omega]; rfl)) (dk kX1_topAt_ok 22 rfl)
      · skip
        refine lv_aload_n hx hb (dk kX1_topAt_ok 5 rfl) rfl (lv_at hl 0 rfl) ?_
        refine gf hx hb hts (fun w h => List.mem_cons_of_mem _ (acX1 w h)) hown hK hP hk0 f0 rfl 0 (by decide) (hts _ (List.mem_cons_of_mem _ (ac0 _ (List.mem_of_getElem? (i := 22) rfl)))) (fun _ h => h) rfl (dk kX1_topAt_ok 6 rfl) ?_
        refine lv_iload_n hx hb (dk kX1_topAt_ok 7 rfl) rfl (lv_at hl 2 rfl) ?_
        refine ald (j := i) hx hb hK hP hk1 f1 rfl (by omega) (by decide) (dk kX1_topAt_ok 8 rfl) ?_
        refine lv_iload_n hx hb (dk kX1_topAt_ok 9 rfl) rfl (lv_at hl 1 rfl) ?_
        refine lv_icmp_ne (tgt := 30) hx hb (dk kX1_topAt_ok 10 rfl) (by decide) (fun h2 => ?_) (fun h2 => ?_)
        · skip
          refine lv_iinc (v := nI (i + 1)) (lv' := [(2, .int (nI (i + 1))), (0, .ref (ad k)), (1, .int q)]) hx hb (dk kX1_topAt_ok 19 rfl) hl (k := 2) rfl (n_inc _) (by decide) rfl (fun ls hl => ?_)
          refine lv_goto (tgt := 2) hx hb (dk kX1_topAt_ok 20 rfl) (by decide) ?_
          exact ih2 (i + 1) (by omega) (by rw [hr, show 16 - i = (16 - (i + 1)) + 1 by omega]; simp [fst, tpq, h1, h2]) (by omega) ls (lv_sub hl [1, 2, 0] rfl)
        · skip
          refine lv_aload_n hx hb (dk kX1_topAt_ok 11 rfl) rfl (lv_at hl 0 rfl) ?_
          refine gf hx hb hts (fun w h => List.mem_cons_of_mem _ (acX1 w h)) hown hK hP hk0 f0 rfl 2 (by decide) (hts _ (List.mem_cons_of_mem _ (ac1 _ (List.mem_of_getElem? (i := 0) rfl)))) (fun _ h => h) rfl (dk kX1_topAt_ok 12 rfl) ?_
          refine lv_iload_n hx hb (dk kX1_topAt_ok 13 rfl) rfl (lv_at hl 2 rfl) ?_
          refine ald (j := i) hx hb hK hP hk3 f3 rfl (by omega) (by decide) (dk kX1_topAt_ok 14 rfl) ?_
          refine lv_iconst (v := -1) hx hb (dk kX1_topAt_ok 15 rfl) rfl ?_
          refine lv_icmp_ne (tgt := 30) hx hb (dk kX1_topAt_ok 16 rfl) (by decide) (fun h3 => ?_) (fun h3 => ?_)
          · skip
            refine lv_iinc (v := nI (i + 1)) (lv' := [(2, .int (nI (i + 1))), (0, .ref (ad k)), (1, .int q)]) hx hb (dk kX1_topAt_ok 19 rfl) hl (k := 2) rfl (n_inc _) (by decide) rfl (fun ls hl => ?_)
            refine lv_goto (tgt := 2) hx hb (dk kX1_topAt_ok 20 rfl) (by decide) ?_
            exact ih2 (i + 1) (by omega) (by rw [hr, show 16 - i = (16 - (i + 1)) + 1 by omega]; simp [fst, tpq, h1, h2, h3]) (by omega) ls (lv_sub hl [1, 2, 0] rfl)
          · skip
            refine lv_iload_n hx hb (dk kX1_topAt_ok 17 rfl) rfl (lv_at hl 2 rfl) ?_
            exact hret _ _ _ (by first | (rw [hr, show 16 - i = (16 - (i + 1)) + 1 by omega]; simp [fst, tpq, h1, h2, h3]; done) | (rw [hr, show 16 - i = 0 by omega]; rfl)) (dk kX1_topAt_ok 18 rfl)
  exact L2 _ 0 (by first | rfl | omega) (by first | rfl | omega) (Nat.lt_succ_self _) ls (lv_sub hl [1, 2, 0] rfl)
set_option maxRecDepth 100000 in
set_option maxHeartbeats 4000000 in
theorem tX1_bottomAt (l : Launch) (D : va_G) (cI cQ cL : ClassId) (ad : Nat → Nat) (N : Nat) (F : Nat → va_E) (k : Nat) (hk : k + 3 < N) (c b v : Nat → Int32) (hM : matAt cI ad F k c b v) (q : Int32) : MR l yX1_bottomAt (Cond.code yX1_bottomAt cX1_bottomAt 3 (some .int) :: AW) ({ frames := 0, cells := 0, slots := 0, locals := 0 } : Room) D cI cQ cL ad N F [.ref (ad k), .int q] (.int (top c b q)) := by
  refine mr_i (ty := .int) (by decide +kernel) rfl rfl rfl rfl (Nat.le_of_ble_eq_true rfl) (fun p e s m below meth cd Q ls hx hb hml hown hts hP hK hNW hret hl => ?_)
  have hown : s.vm.findClass RX1 = some m.cls := hown
  obtain ⟨f0, f1, f2, f3⟩ := id hM
  have hk0 : k < N := by omega
  have hk1 : k + 1 < N := by omega
  have hk2 : k + 2 < N := by omega
  have hk3 : k + 3 < N := hk
  have hl : lv_has ls 3 [(0, .ref (ad k)), (1, .int q)] := hl
  refine lv_iconst (v := nI 0) hx hb (dk kX1_bottomAt_ok 0 rfl) rfl ?_
  refine lv_istore_n (lv' := [(2, .int (nI 0)), (0, .ref (ad k)), (1, .int q)]) hx hb (dk kX1_bottomAt_ok 1 rfl) rfl hl (by decide) rfl (fun ls hl => ?_)
  have L2 : ∀ (fu : Nat) (i : Nat), i ≤ 16 → top c b q = fst (tpq c b q) (16 - i) i → 16 - i < fu → ∀ ls : Array Slot, lv_has ls 3 [(0, .ref (ad k)), (1, .int q), (2, .int (nI i))] → W p l e ({ frames := 0, cells := 0, slots := 0, locals := 0 } : Room) s m ([.ref (ad k), .int q] : List Value).toArray below meth cd s.heap [] 0 0 Q (F0 m 2 ls []) := by
    intro fu
    induction fu with
    | zero => intros; omega
    | succ fu ih2 =>
      intro i hi hr hm2 ls hl
      refine lv_iload_n hx hb (dk kX1_bottomAt_ok 2 rfl) rfl (lv_at hl 2 rfl) ?_
      refine lv_bipush (v := nI 16) hx hb (dk kX1_bottomAt_ok 3 rfl) rfl ?_
      refine n_icmp_ge (tgt := 36) hx hb (by omega) (by decide) (dk kX1_bottomAt_ok 4 rfl) (by decide) (fun h1 => ?_) (fun h1 => ?_)
      · skip
        refine lv_iconst (v := -1) hx hb (dk kX1_bottomAt_ok 21 rfl) rfl ?_
        exact hret _ _ _ (by first | (rw [hr, show 16 - i = (16 - (i + 1)) + 1 by omega]; simp [fst, tpq, h1]; done) | (rw [hr, show 16 - i = 0 by omega]; rfl)) (dk kX1_bottomAt_ok 22 rfl)
      · skip
        refine lv_aload_n hx hb (dk kX1_bottomAt_ok 5 rfl) rfl (lv_at hl 0 rfl) ?_
        refine gf hx hb hts (fun w h => List.mem_cons_of_mem _ (acX1 w h)) hown hK hP hk0 f0 rfl 0 (by decide) (hts _ (List.mem_cons_of_mem _ (ac0 _ (List.mem_of_getElem? (i := 22) rfl)))) (fun _ h => h) rfl (dk kX1_bottomAt_ok 6 rfl) ?_
        refine lv_iload_n hx hb (dk kX1_bottomAt_ok 7 rfl) rfl (lv_at hl 2 rfl) ?_
        refine ald (j := i) hx hb hK hP hk1 f1 rfl (by omega) (by decide) (dk kX1_bottomAt_ok 8 rfl) ?_
        refine lv_iload_n hx hb (dk kX1_bottomAt_ok 9 rfl) rfl (lv_at hl 1 rfl) ?_
        refine lv_icmp_ne (tgt := 30) hx hb (dk kX1_bottomAt_ok 10 rfl) (by decide) (fun h2 => ?_) (fun h2 => ?_)
        · skip
          refine lv_iinc (v := nI (i + 1)) (lv' := [(2, .int (nI (i + 1))), (0, .ref (ad k)), (1, .int q)]) hx hb (dk kX1_bottomAt_ok 19 rfl) hl (k := 2) rfl (n_inc _) (by decide) rfl (fun ls hl => ?_)
          refine lv_goto (tgt := 2) hx hb (dk kX1_bottomAt_ok 20 rfl) (by decide) ?_
          exact ih2 (i + 1) (by omega) (by rw [hr, show 16 - i = (16 - (i + 1)) + 1 by omega]; simp [fst, tpq, h1, h2]) (by omega) ls (lv_sub hl [1, 2, 0] rfl)
        · skip
          refine lv_aload_n hx hb (dk kX1_bottomAt_ok 11 rfl) rfl (lv_at hl 0 rfl) ?_
          refine gf hx hb hts (fun w h => List.mem_cons_of_mem _ (acX1 w h)) hown hK hP hk0 f0 rfl 1 (by decide) (hts _ (List.mem_cons_of_mem _ (ac0 _ (List.mem_of_getElem? (i := 23) rfl)))) (fun _ h => h) rfl (dk kX1_bottomAt_ok 12 rfl) ?_
          refine lv_iload_n hx hb (dk kX1_bottomAt_ok 13 rfl) rfl (lv_at hl 2 rfl) ?_
          refine ald (j := i) hx hb hK hP hk2 f2 rfl (by omega) (by decide) (dk kX1_bottomAt_ok 14 rfl) ?_
          refine lv_iconst (v := -1) hx hb (dk kX1_bottomAt_ok 15 rfl) rfl ?_
          refine lv_icmp_ne (tgt := 30) hx hb (dk kX1_bottomAt_ok 16 rfl) (by decide) (fun h3 => ?_) (fun h3 => ?_)
          · skip
            refine lv_iinc (v := nI (i + 1)) (lv' := [(2, .int (nI (i + 1))), (0, .ref (ad k)), (1, .int q)]) hx hb (dk kX1_bottomAt_ok 19 rfl) hl (k := 2) rfl (n_inc _) (by decide) rfl (fun ls hl => ?_)
            refine lv_goto (tgt := 2) hx hb (dk kX1_bottomAt_ok 20 rfl) (by decide) ?_
            exact ih2 (i + 1) (by omega) (by rw [hr, show 16 - i = (16 - (i + 1)) + 1 by omega]; simp [fst, tpq, h1, h2, h3]) (by omega) ls (lv_sub hl [1, 2, 0] rfl)
          · skip
            refine lv_iload_n hx hb (dk kX1_bottomAt_ok 17 rfl) rfl (lv_at hl 2 rfl) ?_
            exact hret _ _ _ (by first | (rw [hr, show 16 - i = (16 - (i + 1)) + 1 by omega]; simp [fst, tpq, h1, h2, h3]; done) | (rw [hr, show 16 - i = 0 by omega]; rfl)) (dk kX1_bottomAt_ok 18 rfl)
  exact L2 _ 0 (by first | rfl | omega) (by first | rfl | omega) (Nat.lt_succ_self _) ls (lv_sub hl [1, 2, 0] rfl)
set_option maxRecDepth 100000 in
set_option maxHeartbeats 4000000 in
theorem tX1_placeOf (l : Launch) (D : va_G) (cI cQ cL : ClassId) (ad : Nat → Nat) (N : Nat) (F : Nat → va_E) (k : Nat) (hk : k + 3 < N) (c b v : Nat → Int32) (hM : matAt cI ad F k c b v) (x : Int32) (w : Nat) (hxw : x = nI w) (hw : w < 16) : MR l yX1_placeOf (Cond.code yX1_placeOf cX1_placeOf 5 (some .int) :: AW) ({ frames := 1, cells := 0, slots := 0, locals := 21 } : Room) D cI cQ cL ad N F [.ref (ad k), .int x] (.int (pls c b w)) := by
  refine mr_i (ty := .int) (by decide +kernel) rfl rfl rfl rfl (Nat.le_of_ble_eq_true rfl) (fun p e s m below meth cd Q ls hx hb hml hown hts hP hK hNW hret hl => ?_)
  have hown : s.vm.findClass RX1 = some m.cls := hown
  subst hxw
  obtain ⟨f0, f1, f2, f3⟩ := id hM
  have hk0 : k < N := by omega
  have hk1 : k + 1 < N := by omega
  have hk2 : k + 2 < N := by omega
  have hk3 : k + 3 < N := hk
  have hl : lv_has ls 5 [(0, .ref (ad k)), (1, .int (nI w))] := hl
  refine lv_aload_n hx hb (dk kX1_placeOf_ok 0 rfl) rfl (lv_at hl 0 rfl) ?_
  refine lv_iload_n hx hb (dk kX1_placeOf_ok 1 rfl) rfl (lv_at hl 1 rfl) ?_
  refine cvR (As := [.int (nI w)]) (rest := []) ⟨hx, hb, hml, hown, hts⟩ (tX1_isPotted l D cI cQ cL ad N F k hk c b v hM (nI w) w rfl (by omega)) (cwV9 1 hts mcX1_isPotted (ac2 _ (List.mem_of_getElem? (i := 0) rfl)) miX1_isPotted meX1_isPotted mini_RX1 rfl rfl hdX1_isPotted ⟨Nat.le_of_ble_eq_true rfl, Nat.le_of_ble_eq_true rfl⟩) hK hP hNW hk0 f0 rfl rfl hl.1 rfl (Nat.le_of_ble_eq_true rfl) (by decide) (dk kX1_placeOf_ok 2 rfl) ?_
  refine b_if_eq (tgt := 10) hx hb (dk kX1_placeOf_ok 3 rfl) (by decide) (fun h1 => ?_) (fun h1 => ?_)
  · skip
    refine lv_iconst (v := nI 0) hx hb (dk kX1_placeOf_ok 6 rfl) rfl ?_
    refine lv_istore_n (lv' := [(2, .int (nI 0)), (0, .ref (ad k)), (1, .int (nI w))]) hx hb (dk kX1_placeOf_ok 7 rfl) rfl hl (by decide) rfl (fun ls hl => ?_)
    refine lv_aload_n hx hb (dk kX1_placeOf_ok 8 rfl) rfl (lv_at hl 1 rfl) ?_
    refine gf hx hb hts (fun w h => List.mem_cons_of_mem _ (acX1 w h)) hown hK hP hk0 f0 rfl 1 (by decide) (hts _ (List.mem_cons_of_mem _ (ac0 _ (List.mem_of_getElem? (i := 23) rfl)))) (fun _ h => h) rfl (dk kX1_placeOf_ok 9 rfl) ?_
    refine lv_iload_n hx hb (dk kX1_placeOf_ok 10 rfl) rfl (lv_at hl 2 rfl) ?_
    refine ald (j := w) hx hb hK hP hk2 f2 rfl (by omega) (by decide) (dk kX1_placeOf_ok 11 rfl) ?_
    refine lv_istore_n (lv' := [(3, .int (b w)), (2, .int (nI 0)), (0, .ref (ad k)), (1, .int (nI w))]) hx hb (dk kX1_placeOf_ok 12 rfl) rfl hl (by decide) rfl (fun ls hl => ?_)
    refine lv_iconst (v := nI 0) hx hb (dk kX1_placeOf_ok 13 rfl) rfl ?_
    refine lv_istore (lv' := [(4, .int (nI 0)), (3, .int (b w)), (2, .int (nI 0)), (0, .ref (ad k)), (1, .int (nI w))]) hx hb (dk kX1_placeOf_ok 14 rfl) hl (by decide) rfl (fun ls hl => ?_)
    have L22 : ∀ (fu : Nat) (i a : Nat) (x : Int32), i ≤ 16 → a ≤ i → plc b 16 (b w) = a + plc b (16 - i) x → 16 - i < fu → ∀ ls : Array Slot, lv_has ls 5 [(0, .ref (ad k)), (1, .int (nI w)), (2, .int (nI a)), (3, .int x), (4, .int (nI i))] → W p l e ({ frames := 1, cells := 0, slots := 0, locals := 21 } : Room) s m ([.ref (ad k), .int (nI w)] : List Value).toArray below meth cd s.heap [] 0 0 Q (F0 m 22 ls []) := by
      intro fu
      induction fu with
      | zero => intros; omega
      | succ fu ih22 =>
        intro i a x hi ha hr hm22 ls hl
        refine lv_iload hx hb (dk kX1_placeOf_ok 15 rfl) (lv_at hl 4 rfl) ?_
        refine lv_bipush (v := nI 16) hx hb (dk kX1_placeOf_ok 16 rfl) rfl ?_
        refine n_icmp_ge (tgt := 52) hx hb (by omega) (by decide) (dk kX1_placeOf_ok 17 rfl) (by decide) (fun h2 => ?_) (fun h2 => ?_)
        · skip
          refine lv_iload_n hx hb (dk kX1_placeOf_ok 29 rfl) rfl (lv_at hl 2 rfl) ?_
          exact hret _ _ _ (by first | (rw [pls, if_neg (by simpa [pot] using h1), hr, show 16 - i = (16 - (i + 1)) + 1 by omega]; simp [plc, h1, h2]; done) | (rw [pls, if_neg (by simpa [pot] using h1), hr, show 16 - i = 0 by omega]; rfl) | (rw [pls, if_pos (by simpa [pot] using h1)])) (dk kX1_placeOf_ok 30 rfl)
        · skip
          refine lv_iload_n hx hb (dk kX1_placeOf_ok 18 rfl) rfl (lv_at hl 3 rfl) ?_
          refine csPN (As := [.int x]) (rest := []) ⟨hx, hb, hml, hown, hts⟩ (tX5_isWink l x) (cwN9 1 hts mcX5_isWink (nm7 hNW) mini_RX5 rfl rfl hdX5_isWink ⟨Nat.le_of_ble_eq_true rfl, Nat.le_of_ble_eq_true rfl⟩) (hts _ (List.mem_cons_of_mem _ msX5_isWink)) rfl hl.1 rfl (Nat.le_of_ble_eq_true rfl) (by decide) (dk kX1_placeOf_ok 19 rfl) ?_
          refine b_if_eq (tgt := 52) hx hb (dk kX1_placeOf_ok 20 rfl) (by decide) (fun h3 => ?_) (fun h3 => ?_)
          · skip
            refine lv_iload_n hx hb (dk kX1_placeOf_ok 29 rfl) rfl (lv_at hl 2 rfl) ?_
            exact hret _ _ _ (by first | (rw [pls, if_neg (by simpa [pot] using h1), hr, show 16 - i = (16 - (i + 1)) + 1 by omega]; simp [plc, h1, h2, h3]; done) | (rw [pls, if_neg (by simpa [pot] using h1), hr, show 16 - i = 0 by omega]; rfl) | (rw [pls, if_pos (by simpa [pot] using h1)])) (dk kX1_placeOf_ok 30 rfl)
          · skip
            refine lv_iinc (v := nI (a + 1)) (lv' := [(2, .int (nI (a + 1))), (0, .ref (ad k)), (1, .int (nI w)), (3, .int x), (4, .int (nI i))]) hx hb (dk kX1_placeOf_ok 21 rfl) hl (k := 2) rfl (n_inc _) (by decide) rfl (fun ls hl => ?_)
            refine lv_aload_n hx hb (dk kX1_placeOf_ok 22 rfl) rfl (lv_at hl 1 rfl) ?_
            refine gf hx hb hts (fun w h => List.mem_cons_of_mem _ (acX1 w h)) hown hK hP hk0 f0 rfl 1 (by decide) (hts _ (List.mem_cons_of_mem _ (ac0 _ (List.mem_of_getElem? (i := 23) rfl)))) (fun _ h => h) rfl (dk kX1_placeOf_ok 23 rfl) ?_
            refine lv_iload_n hx hb (dk kX1_placeOf_ok 24 rfl) rfl (lv_at hl 3 rfl) ?_
            refine ald (j := (ix x)) hx hb hK hP hk2 f2 (wk_eq h3) (wk_lt h3) (by decide) (dk kX1_placeOf_ok 25 rfl) ?_
            refine lv_istore_n (lv' := [(3, .int (b (ix x))), (2, .int (nI (a + 1))), (0, .ref (ad k)), (1, .int (nI w)), (4, .int (nI i))]) hx hb (dk kX1_placeOf_ok 26 rfl) rfl hl (by decide) rfl (fun ls hl => ?_)
            refine lv_iinc (v := nI (i + 1)) (lv' := [(4, .int (nI (i + 1))), (3, .int (b (ix x))), (2, .int (nI (a + 1))), (0, .ref (ad k)), (1, .int (nI w))]) hx hb (dk kX1_placeOf_ok 27 rfl) hl (k := 4) rfl (n_inc _) (by decide) rfl (fun ls hl => ?_)
            refine lv_goto (tgt := 22) hx hb (dk kX1_placeOf_ok 28 rfl) (by decide) ?_
            exact ih22 (i + 1) (a + 1) (b (ix x)) (by omega) (by omega) (by rw [hr, show 16 - i = (16 - (i + 1)) + 1 by omega]; simp only [plc, h1, h2, h3, if_true]; omega) (by omega) ls (lv_sub hl [3, 4, 2, 1, 0] rfl)
    exact L22 _ 0 0 (b w) (by first | omega | (rw [Nat.zero_add])) (by first | omega | (rw [Nat.zero_add])) (by first | omega | (rw [Nat.zero_add])) (Nat.lt_succ_self _) ls (lv_sub hl [3, 4, 2, 1, 0] rfl)
  · skip
    refine lv_iconst (v := -1) hx hb (dk kX1_placeOf_ok 4 rfl) rfl ?_
    exact hret _ _ _ (by first | (rw [pls, if_neg (by simpa [pot] using h1), hr, show 16 - i = (16 - (i + 1)) + 1 by omega]; simp [plc, h1]; done) | (rw [pls, if_neg (by simpa [pot] using h1), hr, show 16 - i = 0 by omega]; rfl) | (rw [pls, if_pos (by simpa [pot] using h1)])) (dk kX1_placeOf_ok 5 rfl)
set_option maxRecDepth 100000 in
set_option maxHeartbeats 4000000 in
theorem tX1_lowestOfUpper (l : Launch) (D : va_G) (cI cQ cL : ClassId) (ad : Nat → Nat) (N : Nat) (F : Nat → va_E) (k : Nat) (hk : k + 3 < N) (c b v : Nat → Int32) (hM : matAt cI ad F k c b v) (q x : Int32) (n : Nat) (hxn : x = nI n) (hn1 : 1 ≤ n) (hn : n < 2 ^ 31) : MR l yX1_lowestOfUpper (Cond.code yX1_lowestOfUpper cX1_lowestOfUpper 5 (some .int) :: AW) ({ frames := 1, cells := 0, slots := 0, locals := 22 } : Room) D cI cQ cL ad N F [.ref (ad k), .int q, .int x] (.int (low c b v q n)) := by
  refine mr_i (ty := .int) (by decide +kernel) rfl rfl rfl rfl (Nat.le_of_ble_eq_true rfl) (fun p e s m below meth cd Q ls hx hb hml hown hts hP hK hNW hret hl => ?_)
  have hown : s.vm.findClass RX1 = some m.cls := hown
  subst hxn
  obtain ⟨f0, f1, f2, f3⟩ := id hM
  have hk0 : k < N := by omega
  have hk1 : k + 1 < N := by omega
  have hk2 : k + 2 < N := by omega
  have hk3 : k + 3 < N := hk
  have hl : lv_has ls 5 [(0, .ref (ad k)), (1, .int q), (2, .int (nI n))] := hl
  refine lv_aload_n hx hb (dk kX1_lowestOfUpper_ok 0 rfl) rfl (lv_at hl 0 rfl) ?_
  refine lv_iload_n hx hb (dk kX1_lowestOfUpper_ok 1 rfl) rfl (lv_at hl 1 rfl) ?_
  refine cvR (As := [.int q]) (rest := []) ⟨hx, hb, hml, hown, hts⟩ (tX1_topAt l D cI cQ cL ad N F k hk c b v hM q) (cwV9 1 hts mcX1_topAt (ac1 _ (List.mem_of_getElem? (i := 20) rfl)) miX1_topAt meX1_topAt mini_RX1 rfl rfl hdX1_topAt ⟨Nat.le_of_ble_eq_true rfl, Nat.le_of_ble_eq_true rfl⟩) hK hP hNW hk0 f0 rfl rfl hl.1 rfl (Nat.le_of_ble_eq_true rfl) (by decide) (dk kX1_lowestOfUpper_ok 2 rfl) ?_
  refine lv_istore_n (lv' := [(3, .int (top c v q)), (0, .ref (ad k)), (1, .int q), (2, .int (nI n))]) hx hb (dk kX1_lowestOfUpper_ok 3 rfl) rfl hl (by decide) rfl (fun ls hl => ?_)
  refine lv_iconst (v := nI 1) hx hb (dk kX1_lowestOfUpper_ok 4 rfl) rfl ?_
  refine lv_istore (lv' := [(4, .int (nI 1)), (3, .int (top c v q)), (0, .ref (ad k)), (1, .int q), (2, .int (nI n))]) hx hb (dk kX1_lowestOfUpper_ok 5 rfl) hl (by decide) rfl (fun ls hl => ?_)
  have L9 : ∀ (fu : Nat) (i : Nat) (x : Int32), 1 ≤ i ∧ i ≤ n → low c b v q n = lou b (n - i) x → n - i < fu → ∀ ls : Array Slot, lv_has ls 5 [(0, .ref (ad k)), (1, .int q), (2, .int (nI n)), (3, .int x), (4, .int (nI i))] → W p l e ({ frames := 1, cells := 0, slots := 0, locals := 22 } : Room) s m ([.ref (ad k), .int q, .int (nI n)] : List Value).toArray below meth cd s.heap [] 0 0 Q (F0 m 9 ls []) := by
    intro fu
    induction fu with
    | zero => intros; omega
    | succ fu ih9 =>
      intro i x hi hr hm9 ls hl
      refine lv_iload hx hb (dk kX1_lowestOfUpper_ok 6 rfl) (lv_at hl 4 rfl) ?_
      refine lv_iload_n hx hb (dk kX1_lowestOfUpper_ok 7 rfl) rfl (lv_at hl 2 rfl) ?_
      refine n_icmp_ge (tgt := 35) hx hb (by omega) (by omega) (dk kX1_lowestOfUpper_ok 8 rfl) (by decide) (fun h1 => ?_) (fun h1 => ?_)
      · skip
        refine lv_iload_n hx hb (dk kX1_lowestOfUpper_ok 19 rfl) rfl (lv_at hl 3 rfl) ?_
        exact hret _ _ _ (by first | (rw [hr, show n - i = (n - (i + 1)) + 1 by omega]; simp [lou, h1]; done) | (rw [hr, show n - i = 0 by omega]; rfl)) (dk kX1_lowestOfUpper_ok 20 rfl)
      · skip
        refine lv_iload_n hx hb (dk kX1_lowestOfUpper_ok 9 rfl) rfl (lv_at hl 3 rfl) ?_
        refine csPN (As := [.int x]) (rest := []) ⟨hx, hb, hml, hown, hts⟩ (tX5_isWink l x) (cwN9 1 hts mcX5_isWink (nm7 hNW) mini_RX5 rfl rfl hdX5_isWink ⟨Nat.le_of_ble_eq_true rfl, Nat.le_of_ble_eq_true rfl⟩) (hts _ (List.mem_cons_of_mem _ msX5_isWink)) rfl hl.1 rfl (Nat.le_of_ble_eq_true rfl) (by decide) (dk kX1_lowestOfUpper_ok 10 rfl) ?_
        refine b_if_eq (tgt := 35) hx hb (dk kX1_lowestOfUpper_ok 11 rfl) (by decide) (fun h2 => ?_) (fun h2 => ?_)
        · skip
          refine lv_iload_n hx hb (dk kX1_lowestOfUpper_ok 19 rfl) rfl (lv_at hl 3 rfl) ?_
          exact hret _ _ _ (by first | (rw [hr, show n - i = (n - (i + 1)) + 1 by omega]; simp [lou, h1, h2]; done) | (rw [hr, show n - i = 0 by omega]; rfl)) (dk kX1_lowestOfUpper_ok 20 rfl)
        · skip
          refine lv_aload_n hx hb (dk kX1_lowestOfUpper_ok 12 rfl) rfl (lv_at hl 0 rfl) ?_
          refine gf hx hb hts (fun w h => List.mem_cons_of_mem _ (acX1 w h)) hown hK hP hk0 f0 rfl 1 (by decide) (hts _ (List.mem_cons_of_mem _ (ac0 _ (List.mem_of_getElem? (i := 23) rfl)))) (fun _ h => h) rfl (dk kX1_lowestOfUpper_ok 13 rfl) ?_
          refine lv_iload_n hx hb (dk kX1_lowestOfUpper_ok 14 rfl) rfl (lv_at hl 3 rfl) ?_
          refine ald (j := (ix x)) hx hb hK hP hk2 f2 (wk_eq h2) (wk_lt h2) (by decide) (dk kX1_lowestOfUpper_ok 15 rfl) ?_
          refine lv_istore_n (lv' := [(3, .int (b (ix x))), (0, .ref (ad k)), (1, .int q), (2, .int (nI n)), (4, .int (nI i))]) hx hb (dk kX1_lowestOfUpper_ok 16 rfl) rfl hl (by decide) rfl (fun ls hl => ?_)
          refine lv_iinc (v := nI (i + 1)) (lv' := [(4, .int (nI (i + 1))), (3, .int (b (ix x))), (0, .ref (ad k)), (1, .int q), (2, .int (nI n))]) hx hb (dk kX1_lowestOfUpper_ok 17 rfl) hl (k := 4) rfl (n_inc _) (by decide) rfl (fun ls hl => ?_)
          refine lv_goto (tgt := 9) hx hb (dk kX1_lowestOfUpper_ok 18 rfl) (by decide) ?_
          exact ih9 (i + 1) (b (ix x)) (by omega) (by rw [hr, show n - i = (n - (i + 1)) + 1 by omega]; simp [lou, h1, h2]) (by omega) ls (lv_sub hl [2, 3, 4, 1, 0] rfl)
  exact L9 _ 1 (top c v q) (by first | omega | rfl) (by first | omega | rfl) (Nat.lt_succ_self _) ls (lv_sub hl [2, 3, 4, 1, 0] rfl)
set_option maxRecDepth 100000 in
set_option maxHeartbeats 4000000 in
theorem tX1_heightAt (l : Launch) (D : va_G) (cI cQ cL : ClassId) (ad : Nat → Nat) (N : Nat) (F : Nat → va_E) (k : Nat) (hk : k + 3 < N) (c b v : Nat → Int32) (hM : matAt cI ad F k c b v) (q : Int32) : MR l yX1_heightAt (Cond.code yX1_heightAt cX1_heightAt 4 (some .int) :: AW) ({ frames := 0, cells := 0, slots := 0, locals := 0 } : Room) D cI cQ cL ad N F [.ref (ad k), .int q] (.int (nI (hgt c q))) := by
  refine mr_i (ty := .int) (by decide +kernel) rfl rfl rfl rfl (Nat.le_of_ble_eq_true rfl) (fun p e s m below meth cd Q ls hx hb hml hown hts hP hK hNW hret hl => ?_)
  have hown : s.vm.findClass RX1 = some m.cls := hown
  obtain ⟨f0, f1, f2, f3⟩ := id hM
  have hk0 : k < N := by omega
  have hk1 : k + 1 < N := by omega
  have hk2 : k + 2 < N := by omega
  have hk3 : k + 3 < N := hk
  have hl : lv_has ls 4 [(0, .ref (ad k)), (1, .int q)] := hl
  refine lv_iconst (v := nI 0) hx hb (dk kX1_heightAt_ok 0 rfl) rfl ?_
  refine lv_istore_n (lv' := [(2, .int (nI 0)), (0, .ref (ad k)), (1, .int q)]) hx hb (dk kX1_heightAt_ok 1 rfl) rfl hl (by decide) rfl (fun ls hl => ?_)
  refine lv_iconst (v := nI 0) hx hb (dk kX1_heightAt_ok 2 rfl) rfl ?_
  refine lv_istore_n (lv' := [(3, .int (nI 0)), (2, .int (nI 0)), (0, .ref (ad k)), (1, .int q)]) hx hb (dk kX1_heightAt_ok 3 rfl) rfl hl (by decide) rfl (fun ls hl => ?_)
  have L4 : ∀ (fu : Nat) (i : Nat) (x2 : Int32), x2 = nI (cnt (fun i => decide (c i = q)) i) → i ≤ 16 → 16 - i < fu → ∀ ls : Array Slot, lv_has ls 4 [(0, .ref (ad k)), (1, .int q), (2, .int x2), (3, .int (nI i))] → W p l e ({ frames := 0, cells := 0, slots := 0, locals := 0 } : Room) s m ([.ref (ad k), .int q] : List Value).toArray below meth cd s.heap [] 0 0 Q (F0 m 4 ls []) := by
    intro fu
    induction fu with
    | zero => intros; omega
    | succ fu ih4 =>
      intro i x2 ex2 hi hm4 ls hl
      subst ex2
      refine lv_iload_n hx hb (dk kX1_heightAt_ok 4 rfl) rfl (lv_at hl 3 rfl) ?_
      refine lv_bipush (v := nI 16) hx hb (dk kX1_heightAt_ok 5 rfl) rfl ?_
      refine n_icmp_ge (tgt := 29) hx hb (by omega) (by decide) (dk kX1_heightAt_ok 6 rfl) (by decide) (fun h1 => ?_) (fun h1 => ?_)
      · skip
        refine lv_iload_n hx hb (dk kX1_heightAt_ok 16 rfl) rfl (lv_at hl 2 rfl) ?_
        exact hret _ _ _ (by rw [show i = 16 by omega] <;> rfl) (dk kX1_heightAt_ok 17 rfl)
      · skip
        refine lv_aload_n hx hb (dk kX1_heightAt_ok 7 rfl) rfl (lv_at hl 0 rfl) ?_
        refine gf hx hb hts (fun w h => List.mem_cons_of_mem _ (acX1 w h)) hown hK hP hk0 f0 rfl 0 (by decide) (hts _ (List.mem_cons_of_mem _ (ac0 _ (List.mem_of_getElem? (i := 22) rfl)))) (fun _ h => h) rfl (dk kX1_heightAt_ok 8 rfl) ?_
        refine lv_iload_n hx hb (dk kX1_heightAt_ok 9 rfl) rfl (lv_at hl 3 rfl) ?_
        refine ald (j := i) hx hb hK hP hk1 f1 rfl (by omega) (by decide) (dk kX1_heightAt_ok 10 rfl) ?_
        refine lv_iload_n hx hb (dk kX1_heightAt_ok 11 rfl) rfl (lv_at hl 1 rfl) ?_
        refine lv_icmp_ne (tgt := 23) hx hb (dk kX1_heightAt_ok 12 rfl) (by decide) (fun h2 => ?_) (fun h2 => ?_)
        · skip
          refine lv_iinc (v := nI (i + 1)) (lv' := [(3, .int (nI (i + 1))), (0, .ref (ad k)), (1, .int q), (2, .int (nI (cnt (fun i => decide (c i = q)) i)))]) hx hb (dk kX1_heightAt_ok 14 rfl) hl (k := 3) rfl (n_inc _) (by decide) rfl (fun ls hl => ?_)
          refine lv_goto (tgt := 4) hx hb (dk kX1_heightAt_ok 15 rfl) (by decide) ?_
          exact ih4 (i + 1) _ (by simp [cnt, h1, h2]) (by omega) (by omega) ls (lv_sub hl [1, 2, 3, 0] rfl)
        · skip
          refine lv_iinc (v := nI ((cnt (fun i => decide (c i = q)) i) + 1)) (lv' := [(2, .int (nI ((cnt (fun i => decide (c i = q)) i) + 1))), (0, .ref (ad k)), (1, .int q), (3, .int (nI i))]) hx hb (dk kX1_heightAt_ok 13 rfl) hl (k := 2) rfl (n_inc _) (by decide) rfl (fun ls hl => ?_)
          refine lv_iinc (v := nI (i + 1)) (lv' := [(3, .int (nI (i + 1))), (2, .int (nI ((cnt (fun i => decide (c i = q)) i) + 1))), (0, .ref (ad k)), (1, .int q)]) hx hb (dk kX1_heightAt_ok 14 rfl) hl (k := 3) rfl (n_inc _) (by decide) rfl (fun ls hl => ?_)
          refine lv_goto (tgt := 4) hx hb (dk kX1_heightAt_ok 15 rfl) (by decide) ?_
          exact ih4 (i + 1) _ (by simp [cnt, h1, h2]) (by omega) (by omega) ls (lv_sub hl [2, 3, 1, 0] rfl)
  exact L4 _ 0 _ (by first | rfl | omega) (by first | rfl | omega) (Nat.lt_succ_self _) ls (lv_sub hl [2, 3, 1, 0] rfl)
set_option maxRecDepth 100000 in
set_option maxHeartbeats 4000000 in
theorem tX1_coloursAt (l : Launch) (D : va_G) (cI cQ cL : ClassId) (ad : Nat → Nat) (N : Nat) (F : Nat → va_E) (k : Nat) (hk : k + 3 < N) (c b v : Nat → Int32) (hM : matAt cI ad F k c b v) (q : Int32) : MR l yX1_coloursAt (Cond.code yX1_coloursAt cX1_coloursAt 4 (some .int) :: AW) ({ frames := 1, cells := 0, slots := 0, locals := 20 } : Room) D cI cQ cL ad N F [.ref (ad k), .int q] (.int (msk (fun i => decide (c i = q)) 16)) := by
  refine mr_i (ty := .int) (by decide +kernel) rfl rfl rfl rfl (Nat.le_of_ble_eq_true rfl) (fun p e s m below meth cd Q ls hx hb hml hown hts hP hK hNW hret hl => ?_)
  have hown : s.vm.findClass RX1 = some m.cls := hown
  obtain ⟨f0, f1, f2, f3⟩ := id hM
  have hk0 : k < N := by omega
  have hk1 : k + 1 < N := by omega
  have hk2 : k + 2 < N := by omega
  have hk3 : k + 3 < N := hk
  have hl : lv_has ls 4 [(0, .ref (ad k)), (1, .int q)] := hl
  refine lv_iconst (v := nI 0) hx hb (dk kX1_coloursAt_ok 0 rfl) rfl ?_
  refine lv_istore_n (lv' := [(2, .int (nI 0)), (0, .ref (ad k)), (1, .int q)]) hx hb (dk kX1_coloursAt_ok 1 rfl) rfl hl (by decide) rfl (fun ls hl => ?_)
  refine lv_iconst (v := nI 0) hx hb (dk kX1_coloursAt_ok 2 rfl) rfl ?_
  refine lv_istore_n (lv' := [(3, .int (nI 0)), (2, .int (nI 0)), (0, .ref (ad k)), (1, .int q)]) hx hb (dk kX1_coloursAt_ok 3 rfl) rfl hl (by decide) rfl (fun ls hl => ?_)
  have L4 : ∀ (fu : Nat) (i : Nat) (x2 : Int32), x2 = msk (fun i => decide (c i = q)) i → i ≤ 16 → 16 - i < fu → ∀ ls : Array Slot, lv_has ls 4 [(0, .ref (ad k)), (1, .int q), (2, .int x2), (3, .int (nI i))] → W p l e ({ frames := 1, cells := 0, slots := 0, locals := 20 } : Room) s m ([.ref (ad k), .int q] : List Value).toArray below meth cd s.heap [] 0 0 Q (F0 m 4 ls []) := by
    intro fu
    induction fu with
    | zero => intros; omega
    | succ fu ih4 =>
      intro i x2 ex2 hi hm4 ls hl
      subst ex2
      refine lv_iload_n hx hb (dk kX1_coloursAt_ok 4 rfl) rfl (lv_at hl 3 rfl) ?_
      refine lv_bipush (v := nI 16) hx hb (dk kX1_coloursAt_ok 5 rfl) rfl ?_
      refine n_icmp_ge (tgt := 35) hx hb (by omega) (by decide) (dk kX1_coloursAt_ok 6 rfl) (by decide) (fun h1 => ?_) (fun h1 => ?_)
      · skip
        refine lv_iload_n hx hb (dk kX1_coloursAt_ok 22 rfl) rfl (lv_at hl 2 rfl) ?_
        exact hret _ _ _ (by rw [show i = 16 by omega] <;> rfl) (dk kX1_coloursAt_ok 23 rfl)
      · skip
        refine lv_aload_n hx hb (dk kX1_coloursAt_ok 7 rfl) rfl (lv_at hl 0 rfl) ?_
        refine gf hx hb hts (fun w h => List.mem_cons_of_mem _ (acX1 w h)) hown hK hP hk0 f0 rfl 0 (by decide) (hts _ (List.mem_cons_of_mem _ (ac0 _ (List.mem_of_getElem? (i := 22) rfl)))) (fun _ h => h) rfl (dk kX1_coloursAt_ok 8 rfl) ?_
        refine lv_iload_n hx hb (dk kX1_coloursAt_ok 9 rfl) rfl (lv_at hl 3 rfl) ?_
        refine ald (j := i) hx hb hK hP hk1 f1 rfl (by omega) (by decide) (dk kX1_coloursAt_ok 10 rfl) ?_
        refine lv_iload_n hx hb (dk kX1_coloursAt_ok 11 rfl) rfl (lv_at hl 1 rfl) ?_
        refine lv_icmp_ne (tgt := 29) hx hb (dk kX1_coloursAt_ok 12 rfl) (by decide) (fun h2 => ?_) (fun h2 => ?_)
        · skip
          refine lv_iinc (v := nI (i + 1)) (lv' := [(3, .int (nI (i + 1))), (0, .ref (ad k)), (1, .int q), (2, .int (msk (fun i => decide (c i = q)) i))]) hx hb (dk kX1_coloursAt_ok 20 rfl) hl (k := 3) rfl (n_inc _) (by decide) rfl (fun ls hl => ?_)
          refine lv_goto (tgt := 4) hx hb (dk kX1_coloursAt_ok 21 rfl) (by decide) ?_
          exact ih4 (i + 1) _ (by simp [msk, h1, h2]) (by omega) (by omega) ls (lv_sub hl [1, 2, 3, 0] rfl)
        · skip
          refine lv_iload_n hx hb (dk kX1_coloursAt_ok 13 rfl) rfl (lv_at hl 2 rfl) ?_
          refine lv_iconst (v := nI 1) hx hb (dk kX1_coloursAt_ok 14 rfl) rfl ?_
          refine lv_iload_n hx hb (dk kX1_coloursAt_ok 15 rfl) rfl (lv_at hl 3 rfl) ?_
          refine csPN (As := [.int (nI i)]) (rest := [.int (nI 1), .int (msk (fun i => decide (c i = q)) i)]) ⟨hx, hb, hml, hown, hts⟩ (tX5_colourOf l (nI i) i rfl (by omega)) (cwN9 1 hts mcX5_colourOf (nm1 hNW) mini_RX5 rfl rfl hdX5_colourOf ⟨Nat.le_of_ble_eq_true rfl, Nat.le_of_ble_eq_true rfl⟩) (hts _ (List.mem_cons_of_mem _ msX5_colourOf)) rfl hl.1 rfl (Nat.le_of_ble_eq_true rfl) (by decide) (dk kX1_coloursAt_ok 16 rfl) ?_
          refine lv_ishl hx hb (dk kX1_coloursAt_ok 17 rfl) ?_
          refine lv_ior hx hb (dk kX1_coloursAt_ok 18 rfl) ?_
          refine lv_istore_n (lv' := [(2, .int ((msk (fun i => decide (c i = q)) i) ||| ((nI 1) <<< ((nI (i / 4)) &&& 31)))), (0, .ref (ad k)), (1, .int q), (3, .int (nI i))]) hx hb (dk kX1_coloursAt_ok 19 rfl) rfl hl (by decide) rfl (fun ls hl => ?_)
          refine lv_iinc (v := nI (i + 1)) (lv' := [(3, .int (nI (i + 1))), (2, .int ((msk (fun i => decide (c i = q)) i) ||| ((nI 1) <<< ((nI (i / 4)) &&& 31)))), (0, .ref (ad k)), (1, .int q)]) hx hb (dk kX1_coloursAt_ok 20 rfl) hl (k := 3) rfl (n_inc _) (by decide) rfl (fun ls hl => ?_)
          refine lv_goto (tgt := 4) hx hb (dk kX1_coloursAt_ok 21 rfl) (by decide) ?_
          exact ih4 (i + 1) _ (by simp [msk, h1, h2]) (by omega) (by omega) ls (lv_sub hl [2, 3, 1, 0] rfl)
  exact L4 _ 0 _ (by first | rfl | omega) (by first | rfl | omega) (Nat.lt_succ_self _) ls (lv_sub hl [2, 3, 1, 0] rfl)
set_option maxRecDepth 100000 in
set_option maxHeartbeats 4000000 in
theorem tX1_isBottom (l : Launch) (D : va_G) (cI cQ cL : ClassId) (ad : Nat → Nat) (N : Nat) (F : Nat → va_E) (k : Nat) (hk : k + 3 < N) (c b v : Nat → Int32) (hM : matAt cI ad F k c b v) (x : Int32) (w : Nat) (hxw : x = nI w) (hw : w < 16) : MR l yX1_isBottom (Cond.code yX1_isBottom cX1_isBottom 2 (some .boolean) :: AW) ({ frames := 0, cells := 0, slots := 0, locals := 0 } : Room) D cI cQ cL ad N F [.ref (ad k), .int x] (.int (bI (bot c b w))) := by
  refine mr_i (ty := .boolean) (by decide +kernel) rfl rfl rfl (bI_nar _) (Nat.le_of_ble_eq_true rfl) (fun p e s m below meth cd Q ls hx hb hml hown hts hP hK hNW hret hl => ?_)
  have hown : s.vm.findClass RX1 = some m.cls := hown
  subst hxw
  obtain ⟨f0, f1, f2, f3⟩ := id hM
  have hk0 : k < N := by omega
  have hk1 : k + 1 < N := by omega
  have hk2 : k + 2 < N := by omega
  have hk3 : k + 3 < N := hk
  have hl : lv_has ls 2 [(0, .ref (ad k)), (1, .int (nI w))] := hl
  refine lv_aload_n hx hb (dk kX1_isBottom_ok 0 rfl) rfl (lv_at hl 0 rfl) ?_
  refine gf hx hb hts (fun w h => List.mem_cons_of_mem _ (acX1 w h)) hown hK hP hk0 f0 rfl 0 (by decide) (hts _ (List.mem_cons_of_mem _ (ac0 _ (List.mem_of_getElem? (i := 22) rfl)))) (fun _ h => h) rfl (dk kX1_isBottom_ok 1 rfl) ?_
  refine lv_iload_n hx hb (dk kX1_isBottom_ok 2 rfl) rfl (lv_at hl 1 rfl) ?_
  refine ald (j := w) hx hb hK hP hk1 f1 rfl (by omega) (by decide) (dk kX1_isBottom_ok 3 rfl) ?_
  refine lv_iconst (v := -1) hx hb (dk kX1_isBottom_ok 4 rfl) rfl ?_
  refine lv_icmp_eq (tgt := 24) hx hb (dk kX1_isBottom_ok 5 rfl) (by decide) (fun h1 => ?_) (fun h1 => ?_)
  · skip
    refine lv_iconst (v := nI 0) hx hb (dk kX1_isBottom_ok 14 rfl) rfl ?_
    exact hret _ _ _ (by simp [bot, h1, bI]) (dk kX1_isBottom_ok 15 rfl)
  · skip
    refine lv_aload_n hx hb (dk kX1_isBottom_ok 6 rfl) rfl (lv_at hl 0 rfl) ?_
    refine gf hx hb hts (fun w h => List.mem_cons_of_mem _ (acX1 w h)) hown hK hP hk0 f0 rfl 1 (by decide) (hts _ (List.mem_cons_of_mem _ (ac0 _ (List.mem_of_getElem? (i := 23) rfl)))) (fun _ h => h) rfl (dk kX1_isBottom_ok 7 rfl) ?_
    refine lv_iload_n hx hb (dk kX1_isBottom_ok 8 rfl) rfl (lv_at hl 1 rfl) ?_
    refine ald (j := w) hx hb hK hP hk2 f2 rfl (by omega) (by decide) (dk kX1_isBottom_ok 9 rfl) ?_
    refine lv_iconst (v := -1) hx hb (dk kX1_isBottom_ok 10 rfl) rfl ?_
    refine lv_icmp_ne (tgt := 24) hx hb (dk kX1_isBottom_ok 11 rfl) (by decide) (fun h2 => ?_) (fun h2 => ?_)
    · skip
      refine lv_iconst (v := nI 0) hx hb (dk kX1_isBottom_ok 14 rfl) rfl ?_
      exact hret _ _ _ (by simp [bot, h1, h2, bI]) (dk kX1_isBottom_ok 15 rfl)
    · skip
      refine lv_iconst (v := nI 1) hx hb (dk kX1_isBottom_ok 12 rfl) rfl ?_
      refine lv_goto (tgt := 25) hx hb (dk kX1_isBottom_ok 13 rfl) (by decide) ?_
      exact hret _ _ _ (by simp [bot, h1, h2, bI]) (dk kX1_isBottom_ok 15 rfl)
set_option maxRecDepth 100000 in
set_option maxHeartbeats 4000000 in
theorem tX1_piles (l : Launch) (D : va_G) (cI cQ cL : ClassId) (ad : Nat → Nat) (N : Nat) (F : Nat → va_E) (k : Nat) (hk : k + 3 < N) (c b v : Nat → Int32) (hM : matAt cI ad F k c b v) : MR l yX1_piles (Cond.code yX1_piles cX1_piles 3 (some .int) :: AW) ({ frames := 1, cells := 0, slots := 0, locals := 21 } : Room) D cI cQ cL ad N F [.ref (ad k)] (.int (nI (cnt (bot c b) 16))) := by
  refine mr_i (ty := .int) (by decide +kernel) rfl rfl rfl rfl (Nat.le_of_ble_eq_true rfl) (fun p e s m below meth cd Q ls hx hb hml hown hts hP hK hNW hret hl => ?_)
  have hown : s.vm.findClass RX1 = some m.cls := hown
  obtain ⟨f0, f1, f2, f3⟩ := id hM
  have hk0 : k < N := by omega
  have hk1 : k + 1 < N := by omega
  have hk2 : k + 2 < N := by omega
  have hk3 : k + 3 < N := hk
  have hl : lv_has ls 3 [(0, .ref (ad k))] := hl
  refine lv_iconst (v := nI 0) hx hb (dk kX1_piles_ok 0 rfl) rfl ?_
  refine lv_istore_n (lv' := [(1, .int (nI 0)), (0, .ref (ad k))]) hx hb (dk kX1_piles_ok 1 rfl) rfl hl (by decide) rfl (fun ls hl => ?_)
  refine lv_iconst (v := nI 0) hx hb (dk kX1_piles_ok 2 rfl) rfl ?_
  refine lv_istore_n (lv' := [(2, .int (nI 0)), (1, .int (nI 0)), (0, .ref (ad k))]) hx hb (dk kX1_piles_ok 3 rfl) rfl hl (by decide) rfl (fun ls hl => ?_)
  have L4 : ∀ (fu : Nat) (i : Nat) (x1 : Int32), x1 = nI (cnt (bot c b) i) → i ≤ 16 → 16 - i < fu → ∀ ls : Array Slot, lv_has ls 3 [(0, .ref (ad k)), (1, .int x1), (2, .int (nI i))] → W p l e ({ frames := 1, cells := 0, slots := 0, locals := 21 } : Room) s m ([.ref (ad k)] : List Value).toArray below meth cd s.heap [] 0 0 Q (F0 m 4 ls []) := by
    intro fu
    induction fu with
    | zero => intros; omega
    | succ fu ih4 =>
      intro i x1 ex1 hi hm4 ls hl
      subst ex1
      refine lv_iload_n hx hb (dk kX1_piles_ok 4 rfl) rfl (lv_at hl 2 rfl) ?_
      refine lv_bipush (v := nI 16) hx hb (dk kX1_piles_ok 5 rfl) rfl ?_
      refine n_icmp_ge (tgt := 27) hx hb (by omega) (by decide) (dk kX1_piles_ok 6 rfl) (by decide) (fun h1 => ?_) (fun h1 => ?_)
      · skip
        refine lv_iload_n hx hb (dk kX1_piles_ok 14 rfl) rfl (lv_at hl 1 rfl) ?_
        exact hret _ _ _ (by rw [show i = 16 by omega] <;> rfl) (dk kX1_piles_ok 15 rfl)
      · skip
        refine lv_aload_n hx hb (dk kX1_piles_ok 7 rfl) rfl (lv_at hl 0 rfl) ?_
        refine lv_iload_n hx hb (dk kX1_piles_ok 8 rfl) rfl (lv_at hl 2 rfl) ?_
        refine cvR (As := [.int (nI i)]) (rest := []) ⟨hx, hb, hml, hown, hts⟩ (tX1_isBottom l D cI cQ cL ad N F k hk c b v hM (nI i) i rfl (by omega)) (cwV9 1 hts mcX1_isBottom (ac2 _ (List.mem_of_getElem? (i := 4) rfl)) miX1_isBottom meX1_isBottom mini_RX1 rfl rfl hdX1_isBottom ⟨Nat.le_of_ble_eq_true rfl, Nat.le_of_ble_eq_true rfl⟩) hK hP hNW hk0 f0 rfl rfl hl.1 rfl (Nat.le_of_ble_eq_true rfl) (by decide) (dk kX1_piles_ok 9 rfl) ?_
        refine b_if_eq (tgt := 21) hx hb (dk kX1_piles_ok 10 rfl) (by decide) (fun h2 => ?_) (fun h2 => ?_)
        · skip
          refine lv_iinc (v := nI (i + 1)) (lv' := [(2, .int (nI (i + 1))), (0, .ref (ad k)), (1, .int (nI (cnt (bot c b) i)))]) hx hb (dk kX1_piles_ok 12 rfl) hl (k := 2) rfl (n_inc _) (by decide) rfl (fun ls hl => ?_)
          refine lv_goto (tgt := 4) hx hb (dk kX1_piles_ok 13 rfl) (by decide) ?_
          exact ih4 (i + 1) _ (by simp [cnt, h1, h2]) (by omega) (by omega) ls (lv_sub hl [1, 2, 0] rfl)
        · skip
          refine lv_iinc (v := nI ((cnt (bot c b) i) + 1)) (lv' := [(1, .int (nI ((cnt (bot c b) i) + 1))), (0, .ref (ad k)), (2, .int (nI i))]) hx hb (dk kX1_piles_ok 11 rfl) hl (k := 1) rfl (n_inc _) (by decide) rfl (fun ls hl => ?_)
          refine lv_iinc (v := nI (i + 1)) (lv' := [(2, .int (nI (i + 1))), (1, .int (nI ((cnt (bot c b) i) + 1))), (0, .ref (ad k))]) hx hb (dk kX1_piles_ok 12 rfl) hl (k := 2) rfl (n_inc _) (by decide) rfl (fun ls hl => ?_)
          refine lv_goto (tgt := 4) hx hb (dk kX1_piles_ok 13 rfl) (by decide) ?_
          exact ih4 (i + 1) _ (by simp [cnt, h1, h2]) (by omega) (by omega) ls (lv_sub hl [2, 1, 0] rfl)
  exact L4 _ 0 _ (by first | rfl | omega) (by first | rfl | omega) (Nat.lt_succ_self _) ls (lv_sub hl [2, 1, 0] rfl)
set_option maxRecDepth 100000 in
set_option maxHeartbeats 4000000 in
theorem tX1_highest (l : Launch) (D : va_G) (cI cQ cL : ClassId) (ad : Nat → Nat) (N : Nat) (F : Nat → va_E) (k : Nat) (hk : k + 3 < N) (c b v : Nat → Int32) (hM : matAt cI ad F k c b v) : MR l yX1_highest (Cond.code yX1_highest cX1_highest 3 (some .int) :: AW) ({ frames := 1, cells := 0, slots := 0, locals := 23 } : Room) D cI cQ cL ad N F [.ref (ad k)] (.int (mxi (bot c b) (fun i => nI (hgt c (c i))) 16)) := by
  refine mr_i (ty := .int) (by decide +kernel) rfl rfl rfl rfl (Nat.le_of_ble_eq_true rfl) (fun p e s m below meth cd Q ls hx hb hml hown hts hP hK hNW hret hl => ?_)
  have hown : s.vm.findClass RX1 = some m.cls := hown
  obtain ⟨f0, f1, f2, f3⟩ := id hM
  have hk0 : k < N := by omega
  have hk1 : k + 1 < N := by omega
  have hk2 : k + 2 < N := by omega
  have hk3 : k + 3 < N := hk
  have hl : lv_has ls 3 [(0, .ref (ad k))] := hl
  refine lv_iconst (v := nI 0) hx hb (dk kX1_highest_ok 0 rfl) rfl ?_
  refine lv_istore_n (lv' := [(1, .int (nI 0)), (0, .ref (ad k))]) hx hb (dk kX1_highest_ok 1 rfl) rfl hl (by decide) rfl (fun ls hl => ?_)
  refine lv_iconst (v := nI 0) hx hb (dk kX1_highest_ok 2 rfl) rfl ?_
  refine lv_istore_n (lv' := [(2, .int (nI 0)), (1, .int (nI 0)), (0, .ref (ad k))]) hx hb (dk kX1_highest_ok 3 rfl) rfl hl (by decide) rfl (fun ls hl => ?_)
  have L4 : ∀ (fu : Nat) (i : Nat) (x1 : Int32), x1 = mxi (bot c b) (fun i => nI (hgt c (c i))) i → i ≤ 16 → 16 - i < fu → ∀ ls : Array Slot, lv_has ls 3 [(0, .ref (ad k)), (1, .int x1), (2, .int (nI i))] → W p l e ({ frames := 1, cells := 0, slots := 0, locals := 23 } : Room) s m ([.ref (ad k)] : List Value).toArray below meth cd s.heap [] 0 0 Q (F0 m 4 ls []) := by
    intro fu
    induction fu with
    | zero => intros; omega
    | succ fu ih4 =>
      intro i x1 ex1 hi hm4 ls hl
      subst ex1
      refine lv_iload_n hx hb (dk kX1_highest_ok 4 rfl) rfl (lv_at hl 2 rfl) ?_
      refine lv_bipush (v := nI 16) hx hb (dk kX1_highest_ok 5 rfl) rfl ?_
      refine n_icmp_ge (tgt := 39) hx hb (by omega) (by decide) (dk kX1_highest_ok 6 rfl) (by decide) (fun h1 => ?_) (fun h1 => ?_)
      · skip
        refine lv_iload_n hx hb (dk kX1_highest_ok 22 rfl) rfl (lv_at hl 1 rfl) ?_
        exact hret _ _ _ (by rw [show i = 16 by omega] <;> rfl) (dk kX1_highest_ok 23 rfl)
      · skip
        refine lv_aload_n hx hb (dk kX1_highest_ok 7 rfl) rfl (lv_at hl 0 rfl) ?_
        refine lv_iload_n hx hb (dk kX1_highest_ok 8 rfl) rfl (lv_at hl 2 rfl) ?_
        refine cvR (As := [.int (nI i)]) (rest := []) ⟨hx, hb, hml, hown, hts⟩ (tX1_isBottom l D cI cQ cL ad N F k hk c b v hM (nI i) i rfl (by omega)) (cwV9 1 hts mcX1_isBottom (ac2 _ (List.mem_of_getElem? (i := 4) rfl)) miX1_isBottom meX1_isBottom mini_RX1 rfl rfl hdX1_isBottom ⟨Nat.le_of_ble_eq_true rfl, Nat.le_of_ble_eq_true rfl⟩) hK hP hNW hk0 f0 rfl rfl hl.1 rfl (Nat.le_of_ble_eq_true rfl) (by decide) (dk kX1_highest_ok 9 rfl) ?_
        refine b_if_eq (tgt := 33) hx hb (dk kX1_highest_ok 10 rfl) (by decide) (fun h2 => ?_) (fun h2 => ?_)
        · skip
          refine lv_iinc (v := nI (i + 1)) (lv' := [(2, .int (nI (i + 1))), (0, .ref (ad k)), (1, .int (mxi (bot c b) (fun i => nI (hgt c (c i))) i))]) hx hb (dk kX1_highest_ok 20 rfl) hl (k := 2) rfl (n_inc _) (by decide) rfl (fun ls hl => ?_)
          refine lv_goto (tgt := 4) hx hb (dk kX1_highest_ok 21 rfl) (by decide) ?_
          exact ih4 (i + 1) _ (by simp [mxi, h1, h2]) (by omega) (by omega) ls (lv_sub hl [1, 2, 0] rfl)
        · skip
          refine lv_iload_n hx hb (dk kX1_highest_ok 11 rfl) rfl (lv_at hl 1 rfl) ?_
          refine lv_aload_n hx hb (dk kX1_highest_ok 12 rfl) rfl (lv_at hl 0 rfl) ?_
          refine lv_aload_n hx hb (dk kX1_highest_ok 13 rfl) rfl (lv_at hl 0 rfl) ?_
          refine gf hx hb hts (fun w h => List.mem_cons_of_mem _ (acX1 w h)) hown hK hP hk0 f0 rfl 0 (by decide) (hts _ (List.mem_cons_of_mem _ (ac0 _ (List.mem_of_getElem? (i := 22) rfl)))) (fun _ h => h) rfl (dk kX1_highest_ok 14 rfl) ?_
          refine lv_iload_n hx hb (dk kX1_highest_ok 15 rfl) rfl (lv_at hl 2 rfl) ?_
          refine ald (j := i) hx hb hK hP hk1 f1 rfl (by omega) (by decide) (dk kX1_highest_ok 16 rfl) ?_
          refine cvR (As := [.int (c i)]) (rest := [.int (mxi (bot c b) (fun i => nI (hgt c (c i))) i)]) ⟨hx, hb, hml, hown, hts⟩ (tX1_heightAt l D cI cQ cL ad N F k hk c b v hM (c i)) (cwV9 1 hts mcX1_heightAt (ac2 _ (List.mem_of_getElem? (i := 12) rfl)) miX1_heightAt meX1_heightAt mini_RX1 rfl rfl hdX1_heightAt ⟨Nat.le_of_ble_eq_true rfl, Nat.le_of_ble_eq_true rfl⟩) hK hP hNW hk0 f0 rfl rfl hl.1 rfl (Nat.le_of_ble_eq_true rfl) (by decide) (dk kX1_highest_ok 17 rfl) ?_
          refine va_mmax hx hb (by rw [hml, hl.1]) hown (hts _ (List.mem_cons_of_mem _ (ac2 _ (List.mem_of_getElem? (i := 8) rfl)))) (hts _ (List.mem_cons_of_mem _ (ac2 _ (List.mem_of_getElem? (i := 9) rfl)))) (hts _ (List.mem_cons_of_mem _ (ac2 _ (List.mem_of_getElem? (i := 10) rfl)))) (hts _ (List.mem_cons_of_mem _ (ac2 _ (List.mem_of_getElem? (i := 11) rfl)))) (Nat.le_of_ble_eq_true rfl) (Nat.le_of_ble_eq_true rfl) (Nat.le_of_ble_eq_true rfl) (Nat.le_of_ble_eq_true rfl) (dk kX1_highest_ok 18 rfl) ?_
          refine lv_istore_n (lv' := [(1, .int (imax (mxi (bot c b) (fun i => nI (hgt c (c i))) i) (nI (hgt c (c i))))), (0, .ref (ad k)), (2, .int (nI i))]) hx hb (dk kX1_highest_ok 19 rfl) rfl hl (by decide) rfl (fun ls hl => ?_)
          refine lv_iinc (v := nI (i + 1)) (lv' := [(2, .int (nI (i + 1))), (1, .int (imax (mxi (bot c b) (fun i => nI (hgt c (c i))) i) (nI (hgt c (c i))))), (0, .ref (ad k))]) hx hb (dk kX1_highest_ok 20 rfl) hl (k := 2) rfl (n_inc _) (by decide) rfl (fun ls hl => ?_)
          refine lv_goto (tgt := 4) hx hb (dk kX1_highest_ok 21 rfl) (by decide) ?_
          exact ih4 (i + 1) _ (by simp [mxi, h1, h2]) (by omega) (by omega) ls (lv_sub hl [2, 1, 0] rfl)
  exact L4 _ 0 _ (by first | rfl | omega) (by first | rfl | omega) (Nat.lt_succ_self _) ls (lv_sub hl [2, 1, 0] rfl)
set_option maxRecDepth 100000 in
set_option maxHeartbeats 4000000 in
theorem tX1_coveredByPiles (l : Launch) (D : va_G) (cI cQ cL : ClassId) (ad : Nat → Nat) (N : Nat) (F : Nat → va_E) (k : Nat) (hk : k + 3 < N) (c b v : Nat → Int32) (hM : matAt cI ad F k c b v) : MR l yX1_coveredByPiles (Cond.code yX1_coveredByPiles cX1_coveredByPiles 3 (some .int) :: AW) ({ frames := 1, cells := 0, slots := 0, locals := 23 } : Room) D cI cQ cL ad N F [.ref (ad k)] (.int (nI (sm (fun i => if bot c b i = true then hgt c (c i) - 1 else 0) 16))) := by
  refine mr_i (ty := .int) (by decide +kernel) rfl rfl rfl rfl (Nat.le_of_ble_eq_true rfl) (fun p e s m below meth cd Q ls hx hb hml hown hts hP hK hNW hret hl => ?_)
  have hown : s.vm.findClass RX1 = some m.cls := hown
  obtain ⟨f0, f1, f2, f3⟩ := id hM
  have hk0 : k < N := by omega
  have hk1 : k + 1 < N := by omega
  have hk2 : k + 2 < N := by omega
  have hk3 : k + 3 < N := hk
  have hl : lv_has ls 3 [(0, .ref (ad k))] := hl
  refine lv_iconst (v := nI 0) hx hb (dk kX1_coveredByPiles_ok 0 rfl) rfl ?_
  refine lv_istore_n (lv' := [(1, .int (nI 0)), (0, .ref (ad k))]) hx hb (dk kX1_coveredByPiles_ok 1 rfl) rfl hl (by decide) rfl (fun ls hl => ?_)
  refine lv_iconst (v := nI 0) hx hb (dk kX1_coveredByPiles_ok 2 rfl) rfl ?_
  refine lv_istore_n (lv' := [(2, .int (nI 0)), (1, .int (nI 0)), (0, .ref (ad k))]) hx hb (dk kX1_coveredByPiles_ok 3 rfl) rfl hl (by decide) rfl (fun ls hl => ?_)
  have L4 : ∀ (fu : Nat) (i : Nat) (x1 : Int32), x1 = nI (sm (fun i => if bot c b i = true then hgt c (c i) - 1 else 0) i) → i ≤ 16 → 16 - i < fu → ∀ ls : Array Slot, lv_has ls 3 [(0, .ref (ad k)), (1, .int x1), (2, .int (nI i))] → W p l e ({ frames := 1, cells := 0, slots := 0, locals := 23 } : Room) s m ([.ref (ad k)] : List Value).toArray below meth cd s.heap [] 0 0 Q (F0 m 4 ls []) := by
    intro fu
    induction fu with
    | zero => intros; omega
    | succ fu ih4 =>
      intro i x1 ex1 hi hm4 ls hl
      subst ex1
      refine lv_iload_n hx hb (dk kX1_coveredByPiles_ok 4 rfl) rfl (lv_at hl 2 rfl) ?_
      refine lv_bipush (v := nI 16) hx hb (dk kX1_coveredByPiles_ok 5 rfl) rfl ?_
      refine n_icmp_ge (tgt := 39) hx hb (by omega) (by decide) (dk kX1_coveredByPiles_ok 6 rfl) (by decide) (fun h1 => ?_) (fun h1 => ?_)
      · skip
        refine lv_iload_n hx hb (dk kX1_coveredByPiles_ok 24 rfl) rfl (lv_at hl 1 rfl) ?_
        exact hret _ _ _ (by rw [show i = 16 by omega] <;> rfl) (dk kX1_coveredByPiles_ok 25 rfl)
      · skip
        refine lv_aload_n hx hb (dk kX1_coveredByPiles_ok 7 rfl) rfl (lv_at hl 0 rfl) ?_
        refine lv_iload_n hx hb (dk kX1_coveredByPiles_ok 8 rfl) rfl (lv_at hl 2 rfl) ?_
        refine cvR (As := [.int (nI i)]) (rest := []) ⟨hx, hb, hml, hown, hts⟩ (tX1_isBottom l D cI cQ cL ad N F k hk c b v hM (nI i) i rfl (by omega)) (cwV9 1 hts mcX1_isBottom (ac2 _ (List.mem_of_getElem? (i := 4) rfl)) miX1_isBottom meX1_isBottom mini_RX1 rfl rfl hdX1_isBottom ⟨Nat.le_of_ble_eq_true rfl, Nat.le_of_ble_eq_true rfl⟩) hK hP hNW hk0 f0 rfl rfl hl.1 rfl (Nat.le_of_ble_eq_true rfl) (by decide) (dk kX1_coveredByPiles_ok 9 rfl) ?_
        refine b_if_eq (tgt := 33) hx hb (dk kX1_coveredByPiles_ok 10 rfl) (by decide) (fun h2 => ?_) (fun h2 => ?_)
        · skip
          refine lv_iinc (v := nI (i + 1)) (lv' := [(2, .int (nI (i + 1))), (0, .ref (ad k)), (1, .int (nI (sm (fun i => if bot c b i = true then hgt c (c i) - 1 else 0) i)))]) hx hb (dk kX1_coveredByPiles_ok 22 rfl) hl (k := 2) rfl (n_inc _) (by decide) rfl (fun ls hl => ?_)
          refine lv_goto (tgt := 4) hx hb (dk kX1_coveredByPiles_ok 23 rfl) (by decide) ?_
          exact ih4 (i + 1) _ (by simp [sm, h1, h2]) (by omega) (by omega) ls (lv_sub hl [1, 2, 0] rfl)
        · skip
          refine lv_iload_n hx hb (dk kX1_coveredByPiles_ok 11 rfl) rfl (lv_at hl 1 rfl) ?_
          refine lv_aload_n hx hb (dk kX1_coveredByPiles_ok 12 rfl) rfl (lv_at hl 0 rfl) ?_
          refine lv_aload_n hx hb (dk kX1_coveredByPiles_ok 13 rfl) rfl (lv_at hl 0 rfl) ?_
          refine gf hx hb hts (fun w h => List.mem_cons_of_mem _ (acX1 w h)) hown hK hP hk0 f0 rfl 0 (by decide) (hts _ (List.mem_cons_of_mem _ (ac0 _ (List.mem_of_getElem? (i := 22) rfl)))) (fun _ h => h) rfl (dk kX1_coveredByPiles_ok 14 rfl) ?_
          refine lv_iload_n hx hb (dk kX1_coveredByPiles_ok 15 rfl) rfl (lv_at hl 2 rfl) ?_
          refine ald (j := i) hx hb hK hP hk1 f1 rfl (by omega) (by decide) (dk kX1_coveredByPiles_ok 16 rfl) ?_
          refine cvR (As := [.int (c i)]) (rest := [.int (nI (sm (fun i => if bot c b i = true then hgt c (c i) - 1 else 0) i))]) ⟨hx, hb, hml, hown, hts⟩ (tX1_heightAt l D cI cQ cL ad N F k hk c b v hM (c i)) (cwV9 1 hts mcX1_heightAt (ac2 _ (List.mem_of_getElem? (i := 12) rfl)) miX1_heightAt meX1_heightAt mini_RX1 rfl rfl hdX1_heightAt ⟨Nat.le_of_ble_eq_true rfl, Nat.le_of_ble_eq_true rfl⟩) hK hP hNW hk0 f0 rfl rfl hl.1 rfl (Nat.le_of_ble_eq_true rfl) (by decide) (dk kX1_coveredByPiles_ok 17 rfl) ?_
          refine lv_iconst (v := nI 1) hx hb (dk kX1_coveredByPiles_ok 18 rfl) rfl ?_
          refine n_isub hx hb (by exact cnt_pos (i := i) (by omega) (by simp)) (dk kX1_coveredByPiles_ok 19 rfl) ?_
          refine n_iadd hx hb (dk kX1_coveredByPiles_ok 20 rfl) ?_
          refine lv_istore_n (lv' := [(1, .int (nI ((sm (fun i => if bot c b i = true then hgt c (c i) - 1 else 0) i) + ((hgt c (c i)) - 1)))), (0, .ref (ad k)), (2, .int (nI i))]) hx hb (dk kX1_coveredByPiles_ok 21 rfl) rfl hl (by decide) rfl (fun ls hl => ?_)
          refine lv_iinc (v := nI (i + 1)) (lv' := [(2, .int (nI (i + 1))), (1, .int (nI ((sm (fun i => if bot c b i = true then hgt c (c i) - 1 else 0) i) + ((hgt c (c i)) - 1)))), (0, .ref (ad k))]) hx hb (dk kX1_coveredByPiles_ok 22 rfl) hl (k := 2) rfl (n_inc _) (by decide) rfl (fun ls hl => ?_)
          refine lv_goto (tgt := 4) hx hb (dk kX1_coveredByPiles_ok 23 rfl) (by decide) ?_
          exact ih4 (i + 1) _ (by simp [sm, h1, h2]) (by omega) (by omega) ls (lv_sub hl [2, 1, 0] rfl)
  exact L4 _ 0 _ (by first | rfl | omega) (by first | rfl | omega) (Nat.lt_succ_self _) ls (lv_sub hl [2, 1, 0] rfl)
set_option maxRecDepth 100000 in
set_option maxHeartbeats 4000000 in
theorem tX1_coveredOf (l : Launch) (D : va_G) (cI cQ cL : ClassId) (ad : Nat → Nat) (N : Nat) (F : Nat → va_E) (k : Nat) (hk : k + 3 < N) (c b v : Nat → Int32) (hM : matAt cI ad F k c b v) (x : Int32) (w : Nat) (hxw : x = nI w) (hw : w < 4) : MR l yX1_coveredOf (Cond.code yX1_coveredOf cX1_coveredOf 4 (some .int) :: AW) ({ frames := 1, cells := 0, slots := 0, locals := 21 } : Room) D cI cQ cL ad N F [.ref (ad k), .int x] (.int (nI (covc v w))) := by
  refine mr_i (ty := .int) (by decide +kernel) rfl rfl rfl rfl (Nat.le_of_ble_eq_true rfl) (fun p e s m below meth cd Q ls hx hb hml hown hts hP hK hNW hret hl => ?_)
  have hown : s.vm.findClass RX1 = some m.cls := hown
  subst hxw
  obtain ⟨f0, f1, f2, f3⟩ := id hM
  have hk0 : k < N := by omega
  have hk1 : k + 1 < N := by omega
  have hk2 : k + 2 < N := by omega
  have hk3 : k + 3 < N := hk
  have hl : lv_has ls 4 [(0, .ref (ad k)), (1, .int (nI w))] := hl
  refine lv_iconst (v := nI 0) hx hb (dk kX1_coveredOf_ok 0 rfl) rfl ?_
  refine lv_istore_n (lv' := [(2, .int (nI 0)), (0, .ref (ad k)), (1, .int (nI w))]) hx hb (dk kX1_coveredOf_ok 1 rfl) rfl hl (by decide) rfl (fun ls hl => ?_)
  refine lv_iconst (v := nI 0) hx hb (dk kX1_coveredOf_ok 2 rfl) rfl ?_
  refine lv_istore_n (lv' := [(3, .int (nI 0)), (2, .int (nI 0)), (0, .ref (ad k)), (1, .int (nI w))]) hx hb (dk kX1_coveredOf_ok 3 rfl) rfl hl (by decide) rfl (fun ls hl => ?_)
  have L4 : ∀ (fu : Nat) (i : Nat) (x2 : Int32), x2 = nI (cnt (fun i => cov v (4 * w + i)) i) → i ≤ 4 → 4 - i < fu → ∀ ls : Array Slot, lv_has ls 4 [(0, .ref (ad k)), (1, .int (nI w)), (2, .int x2), (3, .int (nI i))] → W p l e ({ frames := 1, cells := 0, slots := 0, locals := 21 } : Room) s m ([.ref (ad k), .int (nI w)] : List Value).toArray below meth cd s.heap [] 0 0 Q (F0 m 4 ls []) := by
    intro fu
    induction fu with
    | zero => intros; omega
    | succ fu ih4 =>
      intro i x2 ex2 hi hm4 ls hl
      subst ex2
      refine lv_iload_n hx hb (dk kX1_coveredOf_ok 4 rfl) rfl (lv_at hl 3 rfl) ?_
      refine lv_iconst (v := nI 4) hx hb (dk kX1_coveredOf_ok 5 rfl) rfl ?_
      refine n_icmp_ge (tgt := 30) hx hb (by omega) (by decide) (dk kX1_coveredOf_ok 6 rfl) (by decide) (fun h1 => ?_) (fun h1 => ?_)
      · skip
        refine lv_iload_n hx hb (dk kX1_coveredOf_ok 18 rfl) rfl (lv_at hl 2 rfl) ?_
        exact hret _ _ _ (by rw [show i = 4 by omega] <;> rfl) (dk kX1_coveredOf_ok 19 rfl)
      · skip
        refine lv_aload_n hx hb (dk kX1_coveredOf_ok 7 rfl) rfl (lv_at hl 0 rfl) ?_
        refine lv_iconst (v := nI 4) hx hb (dk kX1_coveredOf_ok 8 rfl) rfl ?_
        refine lv_iload_n hx hb (dk kX1_coveredOf_ok 9 rfl) rfl (lv_at hl 1 rfl) ?_
        refine n_imul hx hb (dk kX1_coveredOf_ok 10 rfl) ?_
        refine lv_iload_n hx hb (dk kX1_coveredOf_ok 11 rfl) rfl (lv_at hl 3 rfl) ?_
        refine n_iadd hx hb (dk kX1_coveredOf_ok 12 rfl) ?_
        refine cvR (As := [.int (nI ((4 * w) + i))]) (rest := []) ⟨hx, hb, hml, hown, hts⟩ (tX1_isCovered l D cI cQ cL ad N F k hk c b v hM (nI ((4 * w) + i)) ((4 * w) + i) rfl (by omega)) (cwV9 1 hts mcX1_isCovered (ac2 _ (List.mem_of_getElem? (i := 16) rfl)) miX1_isCovered meX1_isCovered mini_RX1 rfl rfl hdX1_isCovered ⟨Nat.le_of_ble_eq_true rfl, Nat.le_of_ble_eq_true rfl⟩) hK hP hNW hk0 f0 rfl rfl hl.1 rfl (Nat.le_of_ble_eq_true rfl) (by decide) (dk kX1_coveredOf_ok 13 rfl) ?_
        refine b_if_eq (tgt := 24) hx hb (dk kX1_coveredOf_ok 14 rfl) (by decide) (fun h2 => ?_) (fun h2 => ?_)
        · skip
          refine lv_iinc (v := nI (i + 1)) (lv' := [(3, .int (nI (i + 1))), (0, .ref (ad k)), (1, .int (nI w)), (2, .int (nI (cnt (fun i => cov v (4 * w + i)) i)))]) hx hb (dk kX1_coveredOf_ok 16 rfl) hl (k := 3) rfl (n_inc _) (by decide) rfl (fun ls hl => ?_)
          refine lv_goto (tgt := 4) hx hb (dk kX1_coveredOf_ok 17 rfl) (by decide) ?_
          exact ih4 (i + 1) _ (by simp [cnt, h1, h2]) (by omega) (by omega) ls (lv_sub hl [1, 2, 3, 0] rfl)
        · skip
          refine lv_iinc (v := nI ((cnt (fun i => cov v (4 * w + i)) i) + 1)) (lv' := [(2, .int (nI ((cnt (fun i => cov v (4 * w + i)) i) + 1))), (0, .ref (ad k)), (1, .int (nI w)), (3, .int (nI i))]) hx hb (dk kX1_coveredOf_ok 15 rfl) hl (k := 2) rfl (n_inc _) (by decide) rfl (fun ls hl => ?_)
          refine lv_iinc (v := nI (i + 1)) (lv' := [(3, .int (nI (i + 1))), (2, .int (nI ((cnt (fun i => cov v (4 * w + i)) i) + 1))), (0, .ref (ad k)), (1, .int (nI w))]) hx hb (dk kX1_coveredOf_ok 16 rfl) hl (k := 3) rfl (n_inc _) (by decide) rfl (fun ls hl => ?_)
          refine lv_goto (tgt := 4) hx hb (dk kX1_coveredOf_ok 17 rfl) (by decide) ?_
          exact ih4 (i + 1) _ (by simp [cnt, h1, h2]) (by omega) (by omega) ls (lv_sub hl [2, 3, 1, 0] rfl)
  exact L4 _ 0 _ (by first | rfl | omega) (by first | rfl | omega) (Nat.lt_succ_self _) ls (lv_sub hl [2, 3, 1, 0] rfl)
set_option maxRecDepth 100000 in
set_option maxHeartbeats 4000000 in
theorem tX1_coveredOfTeam (l : Launch) (D : va_G) (cI cQ cL : ClassId) (ad : Nat → Nat) (N : Nat) (F : Nat → va_E) (k : Nat) (hk : k + 3 < N) (c b v : Nat → Int32) (hM : matAt cI ad F k c b v) (x : Int32) (w : Nat) (hxw : x = nI w) (hw : w < 2) : MR l yX1_coveredOfTeam (Cond.code yX1_coveredOfTeam cX1_coveredOfTeam 2 (some .int) :: AW) ({ frames := 2, cells := 0, slots := 0, locals := 44 } : Room) D cI cQ cL ad N F [.ref (ad k), .int x] (.int (nI (covc v w + covc v (w + 2)))) := by
  refine mr_i (ty := .int) (by decide +kernel) rfl rfl rfl rfl (Nat.le_of_ble_eq_true rfl) (fun p e s m below meth cd Q ls hx hb hml hown hts hP hK hNW hret hl => ?_)
  have hown : s.vm.findClass RX1 = some m.cls := hown
  subst hxw
  obtain ⟨f0, f1, f2, f3⟩ := id hM
  have hk0 : k < N := by omega
  have hk1 : k + 1 < N := by omega
  have hk2 : k + 2 < N := by omega
  have hk3 : k + 3 < N := hk
  have hl : lv_has ls 2 [(0, .ref (ad k)), (1, .int (nI w))] := hl
  refine lv_aload_n hx hb (dk kX1_coveredOfTeam_ok 0 rfl) rfl (lv_at hl 0 rfl) ?_
  refine lv_iload_n hx hb (dk kX1_coveredOfTeam_ok 1 rfl) rfl (lv_at hl 1 rfl) ?_
  refine cvR (As := [.int (nI w)]) (rest := []) ⟨hx, hb, hml, hown, hts⟩ (tX1_coveredOf l D cI cQ cL ad N F k hk c b v hM (nI w) w rfl (by omega)) (cwV9 1 hts mcX1_coveredOf (ac2 _ (List.mem_of_getElem? (i := 20) rfl)) miX1_coveredOf meX1_coveredOf mini_RX1 rfl rfl hdX1_coveredOf ⟨Nat.le_of_ble_eq_true rfl, Nat.le_of_ble_eq_true rfl⟩) hK hP hNW hk0 f0 rfl rfl hl.1 rfl (Nat.le_of_ble_eq_true rfl) (by decide) (dk kX1_coveredOfTeam_ok 2 rfl) ?_
  refine lv_aload_n hx hb (dk kX1_coveredOfTeam_ok 3 rfl) rfl (lv_at hl 0 rfl) ?_
  refine lv_iload_n hx hb (dk kX1_coveredOfTeam_ok 4 rfl) rfl (lv_at hl 1 rfl) ?_
  refine lv_iconst (v := nI 2) hx hb (dk kX1_coveredOfTeam_ok 5 rfl) rfl ?_
  refine n_iadd hx hb (dk kX1_coveredOfTeam_ok 6 rfl) ?_
  refine cvR (As := [.int (nI (w + 2))]) (rest := [.int (nI (covc v w))]) ⟨hx, hb, hml, hown, hts⟩ (tX1_coveredOf l D cI cQ cL ad N F k hk c b v hM (nI (w + 2)) (w + 2) rfl (by omega)) (cwV9 1 hts mcX1_coveredOf (ac2 _ (List.mem_of_getElem? (i := 20) rfl)) miX1_coveredOf meX1_coveredOf mini_RX1 rfl rfl hdX1_coveredOf ⟨Nat.le_of_ble_eq_true rfl, Nat.le_of_ble_eq_true rfl⟩) hK hP hNW hk0 f0 rfl rfl hl.1 rfl (Nat.le_of_ble_eq_true rfl) (by decide) (dk kX1_coveredOfTeam_ok 7 rfl) ?_
  refine n_iadd hx hb (dk kX1_coveredOfTeam_ok 8 rfl) ?_
  exact hret _ _ _ (by rfl) (dk kX1_coveredOfTeam_ok 9 rfl)
set_option maxRecDepth 100000 in
set_option maxHeartbeats 4000000 in
theorem tX1_coveredByWinks (l : Launch) (D : va_G) (cI cQ cL : ClassId) (ad : Nat → Nat) (N : Nat) (F : Nat → va_E) (k : Nat) (hk : k + 3 < N) (c b v : Nat → Int32) (hM : matAt cI ad F k c b v) : MR l yX1_coveredByWinks (Cond.code yX1_coveredByWinks cX1_coveredByWinks 1 (some .int) :: AW) ({ frames := 3, cells := 0, slots := 0, locals := 65 } : Room) D cI cQ cL ad N F [.ref (ad k)] (.int (nI ((covc v 0 + covc v (0 + 2)) + (covc v 1 + covc v (1 + 2))))) := by
  refine mr_i (ty := .int) (by decide +kernel) rfl rfl rfl rfl (Nat.le_of_ble_eq_true rfl) (fun p e s m below meth cd Q ls hx hb hml hown hts hP hK hNW hret hl => ?_)
  have hown : s.vm.findClass RX1 = some m.cls := hown
  obtain ⟨f0, f1, f2, f3⟩ := id hM
  have hk0 : k < N := by omega
  have hk1 : k + 1 < N := by omega
  have hk2 : k + 2 < N := by omega
  have hk3 : k + 3 < N := hk
  have hl : lv_has ls 1 [(0, .ref (ad k))] := hl
  refine lv_aload_n hx hb (dk kX1_coveredByWinks_ok 0 rfl) rfl (lv_at hl 0 rfl) ?_
  refine lv_iconst (v := nI 0) hx hb (dk kX1_coveredByWinks_ok 1 rfl) rfl ?_
  refine cvR (As := [.int (nI 0)]) (rest := []) ⟨hx, hb, hml, hown, hts⟩ (tX1_coveredOfTeam l D cI cQ cL ad N F k hk c b v hM (nI 0) 0 rfl (by omega)) (cwV9 1 hts mcX1_coveredOfTeam (ac3 _ (List.mem_of_getElem? (i := 0) rfl)) miX1_coveredOfTeam meX1_coveredOfTeam mini_RX1 rfl rfl hdX1_coveredOfTeam ⟨Nat.le_of_ble_eq_true rfl, Nat.le_of_ble_eq_true rfl⟩) hK hP hNW hk0 f0 rfl rfl hl.1 rfl (Nat.le_of_ble_eq_true rfl) (by decide) (dk kX1_coveredByWinks_ok 2 rfl) ?_
  refine lv_aload_n hx hb (dk kX1_coveredByWinks_ok 3 rfl) rfl (lv_at hl 0 rfl) ?_
  refine lv_iconst (v := nI 1) hx hb (dk kX1_coveredByWinks_ok 4 rfl) rfl ?_
  refine cvR (As := [.int (nI 1)]) (rest := [.int (nI (covc v 0 + covc v (0 + 2)))]) ⟨hx, hb, hml, hown, hts⟩ (tX1_coveredOfTeam l D cI cQ cL ad N F k hk c b v hM (nI 1) 1 rfl (by omega)) (cwV9 1 hts mcX1_coveredOfTeam (ac3 _ (List.mem_of_getElem? (i := 0) rfl)) miX1_coveredOfTeam meX1_coveredOfTeam mini_RX1 rfl rfl hdX1_coveredOfTeam ⟨Nat.le_of_ble_eq_true rfl, Nat.le_of_ble_eq_true rfl⟩) hK hP hNW hk0 f0 rfl rfl hl.1 rfl (Nat.le_of_ble_eq_true rfl) (by decide) (dk kX1_coveredByWinks_ok 5 rfl) ?_
  refine n_iadd hx hb (dk kX1_coveredByWinks_ok 6 rfl) ?_
  exact hret _ _ _ (by rfl) (dk kX1_coveredByWinks_ok 7 rfl)
set_option maxRecDepth 100000 in
set_option maxHeartbeats 4000000 in
theorem tX1_pottedOf (l : Launch) (D : va_G) (cI cQ cL : ClassId) (ad : Nat → Nat) (N : Nat) (F : Nat → va_E) (k : Nat) (hk : k + 3 < N) (c b v : Nat → Int32) (hM : matAt cI ad F k c b v) (x : Int32) (w : Nat) (hxw : x = nI w) (hw : w < 4) : MR l yX1_pottedOf (Cond.code yX1_pottedOf cX1_pottedOf 4 (some .int) :: AW) ({ frames := 0, cells := 0, slots := 0, locals := 0 } : Room) D cI cQ cL ad N F [.ref (ad k), .int x] (.int (nI (potc c w))) := by
  refine mr_i (ty := .int) (by decide +kernel) rfl rfl rfl rfl (Nat.le_of_ble_eq_true rfl) (fun p e s m below meth cd Q ls hx hb hml hown hts hP hK hNW hret hl => ?_)
  have hown : s.vm.findClass RX1 = some m.cls := hown
  subst hxw
  obtain ⟨f0, f1, f2, f3⟩ := id hM
  have hk0 : k < N := by omega
  have hk1 : k + 1 < N := by omega
  have hk2 : k + 2 < N := by omega
  have hk3 : k + 3 < N := hk
  have hl : lv_has ls 4 [(0, .ref (ad k)), (1, .int (nI w))] := hl
  refine lv_iconst (v := nI 0) hx hb (dk kX1_pottedOf_ok 0 rfl) rfl ?_
  refine lv_istore_n (lv' := [(2, .int (nI 0)), (0, .ref (ad k)), (1, .int (nI w))]) hx hb (dk kX1_pottedOf_ok 1 rfl) rfl hl (by decide) rfl (fun ls hl => ?_)
  refine lv_iconst (v := nI 0) hx hb (dk kX1_pottedOf_ok 2 rfl) rfl ?_
  refine lv_istore_n (lv' := [(3, .int (nI 0)), (2, .int (nI 0)), (0, .ref (ad k)), (1, .int (nI w))]) hx hb (dk kX1_pottedOf_ok 3 rfl) rfl hl (by decide) rfl (fun ls hl => ?_)
  have L4 : ∀ (fu : Nat) (i : Nat) (x2 : Int32), x2 = nI (cnt (fun i => decide (c (4 * w + i) = -1)) i) → i ≤ 4 → 4 - i < fu → ∀ ls : Array Slot, lv_has ls 4 [(0, .ref (ad k)), (1, .int (nI w)), (2, .int x2), (3, .int (nI i))] → W p l e ({ frames := 0, cells := 0, slots := 0, locals := 0 } : Room) s m ([.ref (ad k), .int (nI w)] : List Value).toArray below meth cd s.heap [] 0 0 Q (F0 m 4 ls []) := by
    intro fu
    induction fu with
    | zero => intros; omega
    | succ fu ih4 =>
      intro i x2 ex2 hi hm4 ls hl
      subst ex2
      refine lv_iload_n hx hb (dk kX1_pottedOf_ok 4 rfl) rfl (lv_at hl 3 rfl) ?_
      refine lv_iconst (v := nI 4) hx hb (dk kX1_pottedOf_ok 5 rfl) rfl ?_
      refine n_icmp_ge (tgt := 32) hx hb (by omega) (by decide) (dk kX1_pottedOf_ok 6 rfl) (by decide) (fun h1 => ?_) (fun h1 => ?_)
      · skip
        refine lv_iload_n hx hb (dk kX1_pottedOf_ok 20 rfl) rfl (lv_at hl 2 rfl) ?_
        exact hret _ _ _ (by rw [show i = 4 by omega] <;> rfl) (dk kX1_pottedOf_ok 21 rfl)
      · skip
        refine lv_aload_n hx hb (dk kX1_pottedOf_ok 7 rfl) rfl (lv_at hl 0 rfl) ?_
        refine gf hx hb hts (fun w h => List.mem_cons_of_mem _ (acX1 w h)) hown hK hP hk0 f0 rfl 0 (by decide) (hts _ (List.mem_cons_of_mem _ (ac0 _ (List.mem_of_getElem? (i := 22) rfl)))) (fun _ h => h) rfl (dk kX1_pottedOf_ok 8 rfl) ?_
        refine lv_iconst (v := nI 4) hx hb (dk kX1_pottedOf_ok 9 rfl) rfl ?_
        refine lv_iload_n hx hb (dk kX1_pottedOf_ok 10 rfl) rfl (lv_at hl 1 rfl) ?_
        refine n_imul hx hb (dk kX1_pottedOf_ok 11 rfl) ?_
        refine lv_iload_n hx hb (dk kX1_pottedOf_ok 12 rfl) rfl (lv_at hl 3 rfl) ?_
        refine n_iadd hx hb (dk kX1_pottedOf_ok 13 rfl) ?_
        refine ald (j := ((4 * w) + i)) hx hb hK hP hk1 f1 rfl (by omega) (by decide) (dk kX1_pottedOf_ok 14 rfl) ?_
        refine lv_iconst (v := -1) hx hb (dk kX1_pottedOf_ok 15 rfl) rfl ?_
        refine lv_icmp_ne (tgt := 26) hx hb (dk kX1_pottedOf_ok 16 rfl) (by decide) (fun h2 => ?_) (fun h2 => ?_)
        · skip
          refine lv_iinc (v := nI (i + 1)) (lv' := [(3, .int (nI (i + 1))), (0, .ref (ad k)), (1, .int (nI w)), (2, .int (nI (cnt (fun i => decide (c (4 * w + i) = -1)) i)))]) hx hb (dk kX1_pottedOf_ok 18 rfl) hl (k := 3) rfl (n_inc _) (by decide) rfl (fun ls hl => ?_)
          refine lv_goto (tgt := 4) hx hb (dk kX1_pottedOf_ok 19 rfl) (by decide) ?_
          exact ih4 (i + 1) _ (by simp [cnt, h1, h2]) (by omega) (by omega) ls (lv_sub hl [1, 2, 3, 0] rfl)
        · skip
          refine lv_iinc (v := nI ((cnt (fun i => decide (c (4 * w + i) = -1)) i) + 1)) (lv' := [(2, .int (nI ((cnt (fun i => decide (c (4 * w + i) = -1)) i) + 1))), (0, .ref (ad k)), (1, .int (nI w)), (3, .int (nI i))]) hx hb (dk kX1_pottedOf_ok 17 rfl) hl (k := 2) rfl (n_inc _) (by decide) rfl (fun ls hl => ?_)
          refine lv_iinc (v := nI (i + 1)) (lv' := [(3, .int (nI (i + 1))), (2, .int (nI ((cnt (fun i => decide (c (4 * w + i) = -1)) i) + 1))), (0, .ref (ad k)), (1, .int (nI w))]) hx hb (dk kX1_pottedOf_ok 18 rfl) hl (k := 3) rfl (n_inc _) (by decide) rfl (fun ls hl => ?_)
          refine lv_goto (tgt := 4) hx hb (dk kX1_pottedOf_ok 19 rfl) (by decide) ?_
          exact ih4 (i + 1) _ (by simp [cnt, h1, h2]) (by omega) (by omega) ls (lv_sub hl [2, 3, 1, 0] rfl)
  exact L4 _ 0 _ (by first | rfl | omega) (by first | rfl | omega) (Nat.lt_succ_self _) ls (lv_sub hl [2, 3, 1, 0] rfl)
set_option maxRecDepth 100000 in
set_option maxHeartbeats 4000000 in
theorem tX1_potted (l : Launch) (D : va_G) (cI cQ cL : ClassId) (ad : Nat → Nat) (N : Nat) (F : Nat → va_E) (k : Nat) (hk : k + 3 < N) (c b v : Nat → Int32) (hM : matAt cI ad F k c b v) : MR l yX1_potted (Cond.code yX1_potted cX1_potted 3 (some .int) :: AW) ({ frames := 1, cells := 0, slots := 0, locals := 23 } : Room) D cI cQ cL ad N F [.ref (ad k)] (.int (nI (potn c))) := by
  refine mr_i (ty := .int) (by decide +kernel) rfl rfl rfl rfl (Nat.le_of_ble_eq_true rfl) (fun p e s m below meth cd Q ls hx hb hml hown hts hP hK hNW hret hl => ?_)
  have hown : s.vm.findClass RX1 = some m.cls := hown
  obtain ⟨f0, f1, f2, f3⟩ := id hM
  have hk0 : k < N := by omega
  have hk1 : k + 1 < N := by omega
  have hk2 : k + 2 < N := by omega
  have hk3 : k + 3 < N := hk
  have hl : lv_has ls 3 [(0, .ref (ad k))] := hl
  refine lv_iconst (v := nI 0) hx hb (dk kX1_potted_ok 0 rfl) rfl ?_
  refine lv_istore_n (lv' := [(1, .int (nI 0)), (0, .ref (ad k))]) hx hb (dk kX1_potted_ok 1 rfl) rfl hl (by decide) rfl (fun ls hl => ?_)
  refine lv_iconst (v := nI 0) hx hb (dk kX1_potted_ok 2 rfl) rfl ?_
  refine lv_istore_n (lv' := [(2, .int (nI 0)), (1, .int (nI 0)), (0, .ref (ad k))]) hx hb (dk kX1_potted_ok 3 rfl) rfl hl (by decide) rfl (fun ls hl => ?_)
  have L4 : ∀ (fu : Nat) (i : Nat) (x1 : Int32), x1 = nI (sm (potc c) i) → i ≤ 4 → 4 - i < fu → ∀ ls : Array Slot, lv_has ls 3 [(0, .ref (ad k)), (1, .int x1), (2, .int (nI i))] → W p l e ({ frames := 1, cells := 0, slots := 0, locals := 23 } : Room) s m ([.ref (ad k)] : List Value).toArray below meth cd s.heap [] 0 0 Q (F0 m 4 ls []) := by
    intro fu
    induction fu with
    | zero => intros; omega
    | succ fu ih4 =>
      intro i x1 ex1 hi hm4 ls hl
      subst ex1
      refine lv_iload_n hx hb (dk kX1_potted_ok 4 rfl) rfl (lv_at hl 2 rfl) ?_
      refine lv_iconst (v := nI 4) hx hb (dk kX1_potted_ok 5 rfl) rfl ?_
      refine n_icmp_ge (tgt := 23) hx hb (by omega) (by decide) (dk kX1_potted_ok 6 rfl) (by decide) (fun h1 => ?_) (fun h1 => ?_)
      · skip
        refine lv_iload_n hx hb (dk kX1_potted_ok 15 rfl) rfl (lv_at hl 1 rfl) ?_
        exact hret _ _ _ (by rw [show i = 4 by omega] <;> rfl) (dk kX1_potted_ok 16 rfl)
      · skip
        refine lv_iload_n hx hb (dk kX1_potted_ok 7 rfl) rfl (lv_at hl 1 rfl) ?_
        refine lv_aload_n hx hb (dk kX1_potted_ok 8 rfl) rfl (lv_at hl 0 rfl) ?_
        refine lv_iload_n hx hb (dk kX1_potted_ok 9 rfl) rfl (lv_at hl 2 rfl) ?_
        refine cvR (As := [.int (nI i)]) (rest := [.int (nI (sm (potc c) i))]) ⟨hx, hb, hml, hown, hts⟩ (tX1_pottedOf l D cI cQ cL ad N F k hk c b v hM (nI i) i rfl (by omega)) (cwV9 1 hts mcX1_pottedOf (ac3 _ (List.mem_of_getElem? (i := 4) rfl)) miX1_pottedOf meX1_pottedOf mini_RX1 rfl rfl hdX1_pottedOf ⟨Nat.le_of_ble_eq_true rfl, Nat.le_of_ble_eq_true rfl⟩) hK hP hNW hk0 f0 rfl rfl hl.1 rfl (Nat.le_of_ble_eq_true rfl) (by decide) (dk kX1_potted_ok 10 rfl) ?_
        refine n_iadd hx hb (dk kX1_potted_ok 11 rfl) ?_
        refine lv_istore_n (lv' := [(1, .int (nI ((sm (potc c) i) + (potc c i)))), (0, .ref (ad k)), (2, .int (nI i))]) hx hb (dk kX1_potted_ok 12 rfl) rfl hl (by decide) rfl (fun ls hl => ?_)
        refine lv_iinc (v := nI (i + 1)) (lv' := [(2, .int (nI (i + 1))), (1, .int (nI ((sm (potc c) i) + (potc c i)))), (0, .ref (ad k))]) hx hb (dk kX1_potted_ok 13 rfl) hl (k := 2) rfl (n_inc _) (by decide) rfl (fun ls hl => ?_)
        refine lv_goto (tgt := 4) hx hb (dk kX1_potted_ok 14 rfl) (by decide) ?_
        exact ih4 (i + 1) _ (by rfl) (by omega) (by omega) ls (lv_sub hl [2, 1, 0] rfl)
  exact L4 _ 0 _ (by first | rfl | omega) (by first | rfl | omega) (Nat.lt_succ_self _) ls (lv_sub hl [2, 1, 0] rfl)
set_option maxRecDepth 100000 in
set_option maxHeartbeats 4000000 in
theorem tX1_isAllPotted (l : Launch) (D : va_G) (cI cQ cL : ClassId) (ad : Nat → Nat) (N : Nat) (F : Nat → va_E) (k : Nat) (hk : k + 3 < N) (c b v : Nat → Int32) (hM : matAt cI ad F k c b v) (x : Int32) (w : Nat) (hxw : x = nI w) (hw : w < 4) : MR l yX1_isAllPotted (Cond.code yX1_isAllPotted cX1_isAllPotted 2 (some .boolean) :: AW) ({ frames := 1, cells := 0, slots := 0, locals := 23 } : Room) D cI cQ cL ad N F [.ref (ad k), .int x] (.int (bI (decide (potc c w = 4)))) := by
  refine mr_i (ty := .boolean) (by decide +kernel) rfl rfl rfl (bI_nar _) (Nat.le_of_ble_eq_true rfl) (fun p e s m below meth cd Q ls hx hb hml hown hts hP hK hNW hret hl => ?_)
  have hown : s.vm.findClass RX1 = some m.cls := hown
  subst hxw
  obtain ⟨f0, f1, f2, f3⟩ := id hM
  have hk0 : k < N := by omega
  have hk1 : k + 1 < N := by omega
  have hk2 : k + 2 < N := by omega
  have hk3 : k + 3 < N := hk
  have hl : lv_has ls 2 [(0, .ref (ad k)), (1, .int (nI w))] := hl
  refine lv_aload_n hx hb (dk kX1_isAllPotted_ok 0 rfl) rfl (lv_at hl 0 rfl) ?_
  refine lv_iload_n hx hb (dk kX1_isAllPotted_ok 1 rfl) rfl (lv_at hl 1 rfl) ?_
  refine cvR (As := [.int (nI w)]) (rest := []) ⟨hx, hb, hml, hown, hts⟩ (tX1_pottedOf l D cI cQ cL ad N F k hk c b v hM (nI w) w rfl (by omega)) (cwV9 1 hts mcX1_pottedOf (ac3 _ (List.mem_of_getElem? (i := 4) rfl)) miX1_pottedOf meX1_pottedOf mini_RX1 rfl rfl hdX1_pottedOf ⟨Nat.le_of_ble_eq_true rfl, Nat.le_of_ble_eq_true rfl⟩) hK hP hNW hk0 f0 rfl rfl hl.1 rfl (Nat.le_of_ble_eq_true rfl) (by decide) (dk kX1_isAllPotted_ok 2 rfl) ?_
  refine lv_iconst (v := nI 4) hx hb (dk kX1_isAllPotted_ok 3 rfl) rfl ?_
  refine n_icmp_ne (tgt := 13) hx hb (by have := potc_le c w; omega) (by decide) (dk kX1_isAllPotted_ok 4 rfl) (by decide) (fun h1 => ?_) (fun h1 => ?_)
  · skip
    refine lv_iconst (v := nI 0) hx hb (dk kX1_isAllPotted_ok 7 rfl) rfl ?_
    exact hret _ _ _ (by simp only [(eq_false h1), decide_true, decide_false]; rfl) (dk kX1_isAllPotted_ok 8 rfl)
  · skip
    refine lv_iconst (v := nI 1) hx hb (dk kX1_isAllPotted_ok 5 rfl) rfl ?_
    refine lv_goto (tgt := 14) hx hb (dk kX1_isAllPotted_ok 6 rfl) (by decide) ?_
    exact hret _ _ _ (by simp only [(eq_true h1), decide_true, decide_false]; rfl) (dk kX1_isAllPotted_ok 8 rfl)
set_option maxRecDepth 100000 in
set_option maxHeartbeats 4000000 in
theorem tX1_isOver (l : Launch) (D : va_G) (cI cQ cL : ClassId) (ad : Nat → Nat) (N : Nat) (F : Nat → va_E) (k : Nat) (hk : k + 3 < N) (c b v : Nat → Int32) (hM : matAt cI ad F k c b v) : MR l yX1_isOver (Cond.code yX1_isOver cX1_isOver 2 (some .boolean) :: AW) ({ frames := 2, cells := 0, slots := 0, locals := 44 } : Room) D cI cQ cL ad N F [.ref (ad k)] (.int (bI (over c))) := by
  refine mr_i (ty := .boolean) (by decide +kernel) rfl rfl rfl (bI_nar _) (Nat.le_of_ble_eq_true rfl) (fun p e s m below meth cd Q ls hx hb hml hown hts hP hK hNW hret hl => ?_)
  have hown : s.vm.findClass RX1 = some m.cls := hown
  obtain ⟨f0, f1, f2, f3⟩ := id hM
  have hk0 : k < N := by omega
  have hk1 : k + 1 < N := by omega
  have hk2 : k + 2 < N := by omega
  have hk3 : k + 3 < N := hk
  have hl : lv_has ls 2 [(0, .ref (ad k))] := hl
  refine lv_iconst (v := nI 0) hx hb (dk kX1_isOver_ok 0 rfl) rfl ?_
  refine lv_istore_n (lv' := [(1, .int (nI 0)), (0, .ref (ad k))]) hx hb (dk kX1_isOver_ok 1 rfl) rfl hl (by decide) rfl (fun ls hl => ?_)
  have L2 : ∀ (fu : Nat) (i : Nat), i ≤ 4 → over c = anyl (fun k => decide (potc c k = 4)) (4 - i) i → 4 - i < fu → ∀ ls : Array Slot, lv_has ls 2 [(0, .ref (ad k)), (1, .int (nI i))] → W p l e ({ frames := 2, cells := 0, slots := 0, locals := 44 } : Room) s m ([.ref (ad k)] : List Value).toArray below meth cd s.heap [] 0 0 Q (F0 m 2 ls []) := by
    intro fu
    induction fu with
    | zero => intros; omega
    | succ fu ih2 =>
      intro i hi hr hm2 ls hl
      refine lv_iload_n hx hb (dk kX1_isOver_ok 2 rfl) rfl (lv_at hl 1 rfl) ?_
      refine lv_iconst (v := nI 4) hx hb (dk kX1_isOver_ok 3 rfl) rfl ?_
      refine n_icmp_ge (tgt := 23) hx hb (by omega) (by decide) (dk kX1_isOver_ok 4 rfl) (by decide) (fun h1 => ?_) (fun h1 => ?_)
      · skip
        refine lv_iconst (v := nI 0) hx hb (dk kX1_isOver_ok 13 rfl) rfl ?_
        exact hret _ _ _ (by first | (rw [hr, show 4 - i = (4 - (i + 1)) + 1 by omega]; simp only [anyl, (eq_true h1), (eq_false (Nat.not_lt.mpr h1)), decide_true, decide_false, not_true_eq_false, not_false_eq_true, and_true, true_and, and_false, false_and, or_true, true_or, or_false, false_or, and_self, or_self, if_true, if_false, Bool.false_eq_true, reduceIte]; rfl) | (rw [hr, show 4 - i = 0 by omega]; rfl)) (dk kX1_isOver_ok 14 rfl)
      · skip
        refine lv_aload_n hx hb (dk kX1_isOver_ok 5 rfl) rfl (lv_at hl 0 rfl) ?_
        refine lv_iload_n hx hb (dk kX1_isOver_ok 6 rfl) rfl (lv_at hl 1 rfl) ?_
        refine cvR (As := [.int (nI i)]) (rest := []) ⟨hx, hb, hml, hown, hts⟩ (tX1_isAllPotted l D cI cQ cL ad N F k hk c b v hM (nI i) i rfl (by omega)) (cwV9 1 hts mcX1_isAllPotted (ac3 _ (List.mem_of_getElem? (i := 8) rfl)) miX1_isAllPotted meX1_isAllPotted mini_RX1 rfl rfl hdX1_isAllPotted ⟨Nat.le_of_ble_eq_true rfl, Nat.le_of_ble_eq_true rfl⟩) hK hP hNW hk0 f0 rfl rfl hl.1 rfl (Nat.le_of_ble_eq_true rfl) (by decide) (dk kX1_isOver_ok 7 rfl) ?_
        refine b_if_eq (tgt := 17) hx hb (dk kX1_isOver_ok 8 rfl) (by decide) (fun h2 => ?_) (fun h2 => ?_)
        · replace h2 := of_decide_eq_false h2
          refine lv_iinc (v := nI (i + 1)) (lv' := [(1, .int (nI (i + 1))), (0, .ref (ad k))]) hx hb (dk kX1_isOver_ok 11 rfl) hl (k := 1) rfl (n_inc _) (by decide) rfl (fun ls hl => ?_)
          refine lv_goto (tgt := 2) hx hb (dk kX1_isOver_ok 12 rfl) (by decide) ?_
          exact ih2 (i + 1) (by omega) (by rw [hr, show 4 - i = (4 - (i + 1)) + 1 by omega]; simp only [anyl, (eq_true h1), (eq_false (Nat.not_le.mpr h1)), (eq_false h2), decide_true, decide_false, not_true_eq_false, not_false_eq_true, and_true, true_and, and_false, false_and, or_true, true_or, or_false, false_or, and_self, or_self, if_true, if_false, Bool.false_eq_true, reduceIte]) (by omega) ls (lv_sub hl [1, 0] rfl)
        · replace h2 := of_decide_eq_true h2
          refine lv_iconst (v := nI 1) hx hb (dk kX1_isOver_ok 9 rfl) rfl ?_
          exact hret _ _ _ (by first | (rw [hr, show 4 - i = (4 - (i + 1)) + 1 by omega]; simp only [anyl, (eq_true h1), (eq_false (Nat.not_le.mpr h1)), (eq_true h2), decide_true, decide_false, not_true_eq_false, not_false_eq_true, and_true, true_and, and_false, false_and, or_true, true_or, or_false, false_or, and_self, or_self, if_true, if_false, Bool.false_eq_true, reduceIte]; rfl) | (rw [hr, show 4 - i = 0 by omega]; rfl)) (dk kX1_isOver_ok 10 rfl)
  exact L2 _ 0 (by first | rfl | omega) (by first | rfl | omega) (Nat.lt_succ_self _) ls (lv_sub hl [1, 0] rfl)
set_option maxRecDepth 100000 in
set_option maxHeartbeats 4000000 in
theorem tX1_pointsOf (l : Launch) (D : va_G) (cI cQ cL : ClassId) (ad : Nat → Nat) (N : Nat) (F : Nat → va_E) (k : Nat) (hk : k + 3 < N) (c b v : Nat → Int32) (hM : matAt cI ad F k c b v) (x : Int32) (w : Nat) (hxw : x = nI w) (hw : w < 4) : MR l yX1_pointsOf (Cond.code yX1_pointsOf cX1_pointsOf 6 (some .int) :: AW) ({ frames := 2, cells := 0, slots := 0, locals := 41 } : Room) D cI cQ cL ad N F [.ref (ad k), .int x] (.int (nI (ptc c v w))) := by
  refine mr_i (ty := .int) (by decide +kernel) rfl rfl rfl rfl (Nat.le_of_ble_eq_true rfl) (fun p e s m below meth cd Q ls hx hb hml hown hts hP hK hNW hret hl => ?_)
  have hown : s.vm.findClass RX1 = some m.cls := hown
  subst hxw
  obtain ⟨f0, f1, f2, f3⟩ := id hM
  have hk0 : k < N := by omega
  have hk1 : k + 1 < N := by omega
  have hk2 : k + 2 < N := by omega
  have hk3 : k + 3 < N := hk
  have hl : lv_has ls 6 [(0, .ref (ad k)), (1, .int (nI w))] := hl
  refine lv_iload_n hx hb (dk kX1_pointsOf_ok 0 rfl) rfl (lv_at hl 1 rfl) ?_
  refine csPN (As := [.int (nI w)]) (rest := []) ⟨hx, hb, hml, hown, hts⟩ (tX5_baseOf l (nI w) w rfl (by omega)) (cwN9 1 hts mcX5_baseOf (nm2 hNW) mini_RX5 rfl rfl hdX5_baseOf ⟨Nat.le_of_ble_eq_true rfl, Nat.le_of_ble_eq_true rfl⟩) (hts _ (List.mem_cons_of_mem _ msX5_baseOf)) rfl hl.1 rfl (Nat.le_of_ble_eq_true rfl) (by decide) (dk kX1_pointsOf_ok 1 rfl) ?_
  refine lv_istore_n (lv' := [(2, .int (nI (bs w))), (0, .ref (ad k)), (1, .int (nI w))]) hx hb (dk kX1_pointsOf_ok 2 rfl) rfl hl (by decide) rfl (fun ls hl => ?_)
  refine lv_iconst (v := nI 0) hx hb (dk kX1_pointsOf_ok 3 rfl) rfl ?_
  refine lv_istore_n (lv' := [(3, .int (nI 0)), (2, .int (nI (bs w))), (0, .ref (ad k)), (1, .int (nI w))]) hx hb (dk kX1_pointsOf_ok 4 rfl) rfl hl (by decide) rfl (fun ls hl => ?_)
  refine lv_iconst (v := nI 0) hx hb (dk kX1_pointsOf_ok 5 rfl) rfl ?_
  refine lv_istore (lv' := [(4, .int (nI 0)), (3, .int (nI 0)), (2, .int (nI (bs w))), (0, .ref (ad k)), (1, .int (nI w))]) hx hb (dk kX1_pointsOf_ok 6 rfl) hl (by decide) rfl (fun ls hl => ?_)
  have L10 : ∀ (fu : Nat) (i : Nat) (x3 : Int32), x3 = nI (sm (ptw c v w) i) → i ≤ 4 → 4 - i < fu → ∀ ls : Array Slot, lv_has ls 6 [(0, .ref (ad k)), (1, .int (nI w)), (2, .int (nI (bs w))), (3, .int x3), (4, .int (nI i))] → W p l e ({ frames := 2, cells := 0, slots := 0, locals := 41 } : Room) s m ([.ref (ad k), .int (nI w)] : List Value).toArray below meth cd s.heap [] 0 0 Q (F0 m 10 ls []) := by
    intro fu
    induction fu with
    | zero => intros; omega
    | succ fu ih10 =>
      intro i x3 ex3 hi hm10 ls hl
      subst ex3
      refine lv_iload hx hb (dk kX1_pointsOf_ok 7 rfl) (lv_at hl 4 rfl) ?_
      refine lv_iconst (v := nI 4) hx hb (dk kX1_pointsOf_ok 8 rfl) rfl ?_
      refine n_icmp_ge (tgt := 68) hx hb (by omega) (by decide) (dk kX1_pointsOf_ok 9 rfl) (by decide) (fun h1 => ?_) (fun h1 => ?_)
      · skip
        refine lv_iload_n hx hb (dk kX1_pointsOf_ok 35 rfl) rfl (lv_at hl 3 rfl) ?_
        exact hret _ _ _ (by rw [show i = 4 by omega] <;> rfl) (dk kX1_pointsOf_ok 36 rfl)
      · skip
        refine lv_iconst (v := nI 4) hx hb (dk kX1_pointsOf_ok 10 rfl) rfl ?_
        refine lv_iload_n hx hb (dk kX1_pointsOf_ok 11 rfl) rfl (lv_at hl 1 rfl) ?_
        refine n_imul hx hb (dk kX1_pointsOf_ok 12 rfl) ?_
        refine lv_iload hx hb (dk kX1_pointsOf_ok 13 rfl) (lv_at hl 4 rfl) ?_
        refine n_iadd hx hb (dk kX1_pointsOf_ok 14 rfl) ?_
        refine lv_istore (lv' := [(5, .int (nI ((4 * w) + i))), (0, .ref (ad k)), (1, .int (nI w)), (2, .int (nI (bs w))), (3, .int (nI (sm (ptw c v w) i))), (4, .int (nI i))]) hx hb (dk kX1_pointsOf_ok 15 rfl) hl (by decide) rfl (fun ls hl => ?_)
        refine lv_aload_n hx hb (dk kX1_pointsOf_ok 16 rfl) rfl (lv_at hl 1 rfl) ?_
        refine lv_iload hx hb (dk kX1_pointsOf_ok 17 rfl) (lv_at hl 0 rfl) ?_
        refine cvR (As := [.int (nI ((4 * w) + i))]) (rest := []) ⟨hx, hb, hml, hown, hts⟩ (tX1_isPotted l D cI cQ cL ad N F k hk c b v hM (nI ((4 * w) + i)) ((4 * w) + i) rfl (by omega)) (cwV9 1 hts mcX1_isPotted (ac2 _ (List.mem_of_getElem? (i := 0) rfl)) miX1_isPotted meX1_isPotted mini_RX1 rfl rfl hdX1_isPotted ⟨Nat.le_of_ble_eq_true rfl, Nat.le_of_ble_eq_true rfl⟩) hK hP hNW hk0 f0 rfl rfl hl.1 rfl (Nat.le_of_ble_eq_true rfl) (by decide) (dk kX1_pointsOf_ok 18 rfl) ?_
        refine b_if_eq (tgt := 39) hx hb (dk kX1_pointsOf_ok 19 rfl) (by decide) (fun h2 => ?_) (fun h2 => ?_)
        · skip
          refine lv_aload_n hx hb (dk kX1_pointsOf_ok 22 rfl) rfl (lv_at hl 1 rfl) ?_
          refine lv_iload hx hb (dk kX1_pointsOf_ok 23 rfl) (lv_at hl 0 rfl) ?_
          refine cvR (As := [.int (nI ((4 * w) + i))]) (rest := []) ⟨hx, hb, hml, hown, hts⟩ (tX1_isCovered l D cI cQ cL ad N F k hk c b v hM (nI ((4 * w) + i)) ((4 * w) + i) rfl (by omega)) (cwV9 1 hts mcX1_isCovered (ac2 _ (List.mem_of_getElem? (i := 16) rfl)) miX1_isCovered meX1_isCovered mini_RX1 rfl rfl hdX1_isCovered ⟨Nat.le_of_ble_eq_true rfl, Nat.le_of_ble_eq_true rfl⟩) hK hP hNW hk0 f0 rfl rfl hl.1 rfl (Nat.le_of_ble_eq_true rfl) (by decide) (dk kX1_pointsOf_ok 24 rfl) ?_
          refine b_if_ne (tgt := 62) hx hb (dk kX1_pointsOf_ok 25 rfl) (by decide) (fun h3 => ?_) (fun h3 => ?_)
          · skip
            refine lv_iinc (v := nI (i + 1)) (lv' := [(4, .int (nI (i + 1))), (5, .int (nI ((4 * w) + i))), (0, .ref (ad k)), (1, .int (nI w)), (2, .int (nI (bs w))), (3, .int (nI (sm (ptw c v w) i)))]) hx hb (dk kX1_pointsOf_ok 33 rfl) hl (k := 5) rfl (n_inc _) (by decide) rfl (fun ls hl => ?_)
            refine lv_goto (tgt := 10) hx hb (dk kX1_pointsOf_ok 34 rfl) (by decide) ?_
            exact ih10 (i + 1) _ (by simp only [pot, decide_eq_true_eq, decide_eq_false_iff_not] at h1 h2 h3; simp only [sm, ptw]; (repeat' split) <;> first | rfl | contradiction | (simp_all; done)) (by omega) (by omega) ls (lv_sub hl [2, 3, 4, 5, 0] rfl)
          · skip
            refine lv_aload_n hx hb (dk kX1_pointsOf_ok 26 rfl) rfl (lv_at hl 1 rfl) ?_
            refine gf hx hb hts (fun w h => List.mem_cons_of_mem _ (acX1 w h)) hown hK hP hk0 f0 rfl 0 (by decide) (hts _ (List.mem_cons_of_mem _ (ac0 _ (List.mem_of_getElem? (i := 22) rfl)))) (fun _ h => h) rfl (dk kX1_pointsOf_ok 27 rfl) ?_
            refine lv_iload hx hb (dk kX1_pointsOf_ok 28 rfl) (lv_at hl 0 rfl) ?_
            refine ald (j := ((4 * w) + i)) hx hb hK hP hk1 f1 rfl (by omega) (by decide) (dk kX1_pointsOf_ok 29 rfl) ?_
            refine lv_iload_n hx hb (dk kX1_pointsOf_ok 30 rfl) rfl (lv_at hl 3 rfl) ?_
            refine lv_icmp_eq (tgt := 62) hx hb (dk kX1_pointsOf_ok 31 rfl) (by decide) (fun h4 => ?_) (fun h4 => ?_)
            · skip
              refine lv_iinc (v := nI (i + 1)) (lv' := [(4, .int (nI (i + 1))), (5, .int (nI ((4 * w) + i))), (0, .ref (ad k)), (1, .int (nI w)), (2, .int (nI (bs w))), (3, .int (nI (sm (ptw c v w) i)))]) hx hb (dk kX1_pointsOf_ok 33 rfl) hl (k := 5) rfl (n_inc _) (by decide) rfl (fun ls hl => ?_)
              refine lv_goto (tgt := 10) hx hb (dk kX1_pointsOf_ok 34 rfl) (by decide) ?_
              exact ih10 (i + 1) _ (by simp only [pot, decide_eq_true_eq, decide_eq_false_iff_not] at h1 h2 h3 h4; simp only [sm, ptw]; (repeat' split) <;> first | rfl | contradiction | (simp_all; done)) (by omega) (by omega) ls (lv_sub hl [2, 3, 4, 5, 0] rfl)
            · skip
              refine lv_iinc (v := nI ((sm (ptw c v w) i) + 1)) (lv' := [(3, .int (nI ((sm (ptw c v w) i) + 1))), (5, .int (nI ((4 * w) + i))), (0, .ref (ad k)), (1, .int (nI w)), (2, .int (nI (bs w))), (4, .int (nI i))]) hx hb (dk kX1_pointsOf_ok 32 rfl) hl (k := 4) rfl (n_inc _) (by decide) rfl (fun ls hl => ?_)
              refine lv_iinc (v := nI (i + 1)) (lv' := [(4, .int (nI (i + 1))), (3, .int (nI ((sm (ptw c v w) i) + 1))), (5, .int (nI ((4 * w) + i))), (0, .ref (ad k)), (1, .int (nI w)), (2, .int (nI (bs w)))]) hx hb (dk kX1_pointsOf_ok 33 rfl) hl (k := 5) rfl (n_inc _) (by decide) rfl (fun ls hl => ?_)
              refine lv_goto (tgt := 10) hx hb (dk kX1_pointsOf_ok 34 rfl) (by decide) ?_
              exact ih10 (i + 1) _ (by simp only [pot, decide_eq_true_eq, decide_eq_false_iff_not] at h1 h2 h3 h4; simp only [sm, ptw]; (repeat' split) <;> first | rfl | contradiction | (simp_all; done)) (by omega) (by omega) ls (lv_sub hl [3, 4, 5, 1, 0] rfl)
        · skip
          refine lv_iinc (v := nI ((sm (ptw c v w) i) + 3)) (lv' := [(3, .int (nI ((sm (ptw c v w) i) + 3))), (5, .int (nI ((4 * w) + i))), (0, .ref (ad k)), (1, .int (nI w)), (2, .int (nI (bs w))), (4, .int (nI i))]) hx hb (dk kX1_pointsOf_ok 20 rfl) hl (k := 4) rfl (by rw [show Int32.ofInt 3 = nI 3 from rfl, nI_add]) (by decide) rfl (fun ls hl => ?_)
          refine lv_goto (tgt := 62) hx hb (dk kX1_pointsOf_ok 21 rfl) (by decide) ?_
          refine lv_iinc (v := nI (i + 1)) (lv' := [(4, .int (nI (i + 1))), (3, .int (nI ((sm (ptw c v w) i) + 3))), (5, .int (nI ((4 * w) + i))), (0, .ref (ad k)), (1, .int (nI w)), (2, .int (nI (bs w)))]) hx hb (dk kX1_pointsOf_ok 33 rfl) hl (k := 5) rfl (n_inc _) (by decide) rfl (fun ls hl => ?_)
          refine lv_goto (tgt := 10) hx hb (dk kX1_pointsOf_ok 34 rfl) (by decide) ?_
          exact ih10 (i + 1) _ (by simp only [pot, decide_eq_true_eq, decide_eq_false_iff_not] at h1 h2; simp only [sm, ptw]; (repeat' split) <;> first | rfl | contradiction | (simp_all; done)) (by omega) (by omega) ls (lv_sub hl [3, 4, 5, 1, 0] rfl)
  exact L10 _ 0 _ (by first | rfl | omega) (by first | rfl | omega) (Nat.lt_succ_self _) ls (lv_sub hl [3, 4, 2, 1, 0] rfl)
set_option maxRecDepth 100000 in
set_option maxHeartbeats 4000000 in
theorem tX1_pointsOfTeam (l : Launch) (D : va_G) (cI cQ cL : ClassId) (ad : Nat → Nat) (N : Nat) (F : Nat → va_E) (k : Nat) (hk : k + 3 < N) (c b v : Nat → Int32) (hM : matAt cI ad F k c b v) (x : Int32) (w : Nat) (hxw : x = nI w) (hw : w < 2) : MR l yX1_pointsOfTeam (Cond.code yX1_pointsOfTeam cX1_pointsOfTeam 2 (some .int) :: AW) ({ frames := 3, cells := 0, slots := 0, locals := 66 } : Room) D cI cQ cL ad N F [.ref (ad k), .int x] (.int (nI (ptt c v w))) := by
  refine mr_i (ty := .int) (by decide +kernel) rfl rfl rfl rfl (Nat.le_of_ble_eq_true rfl) (fun p e s m below meth cd Q ls hx hb hml hown hts hP hK hNW hret hl => ?_)
  have hown : s.vm.findClass RX1 = some m.cls := hown
  subst hxw
  obtain ⟨f0, f1, f2, f3⟩ := id hM
  have hk0 : k < N := by omega
  have hk1 : k + 1 < N := by omega
  have hk2 : k + 2 < N := by omega
  have hk3 : k + 3 < N := hk
  have hl : lv_has ls 2 [(0, .ref (ad k)), (1, .int (nI w))] := hl
  refine lv_aload_n hx hb (dk kX1_pointsOfTeam_ok 0 rfl) rfl (lv_at hl 0 rfl) ?_
  refine lv_iload_n hx hb (dk kX1_pointsOfTeam_ok 1 rfl) rfl (lv_at hl 1 rfl) ?_
  refine cvR (As := [.int (nI w)]) (rest := []) ⟨hx, hb, hml, hown, hts⟩ (tX1_pointsOf l D cI cQ cL ad N F k hk c b v hM (nI w) w rfl (by omega)) (cwV9 1 hts mcX1_pointsOf (ac3 _ (List.mem_of_getElem? (i := 12) rfl)) miX1_pointsOf meX1_pointsOf mini_RX1 rfl rfl hdX1_pointsOf ⟨Nat.le_of_ble_eq_true rfl, Nat.le_of_ble_eq_true rfl⟩) hK hP hNW hk0 f0 rfl rfl hl.1 rfl (Nat.le_of_ble_eq_true rfl) (by decide) (dk kX1_pointsOfTeam_ok 2 rfl) ?_
  refine lv_aload_n hx hb (dk kX1_pointsOfTeam_ok 3 rfl) rfl (lv_at hl 0 rfl) ?_
  refine lv_iload_n hx hb (dk kX1_pointsOfTeam_ok 4 rfl) rfl (lv_at hl 1 rfl) ?_
  refine lv_iconst (v := nI 2) hx hb (dk kX1_pointsOfTeam_ok 5 rfl) rfl ?_
  refine n_iadd hx hb (dk kX1_pointsOfTeam_ok 6 rfl) ?_
  refine cvR (As := [.int (nI (w + 2))]) (rest := [.int (nI (ptc c v w))]) ⟨hx, hb, hml, hown, hts⟩ (tX1_pointsOf l D cI cQ cL ad N F k hk c b v hM (nI (w + 2)) (w + 2) rfl (by omega)) (cwV9 1 hts mcX1_pointsOf (ac3 _ (List.mem_of_getElem? (i := 12) rfl)) miX1_pointsOf meX1_pointsOf mini_RX1 rfl rfl hdX1_pointsOf ⟨Nat.le_of_ble_eq_true rfl, Nat.le_of_ble_eq_true rfl⟩) hK hP hNW hk0 f0 rfl rfl hl.1 rfl (Nat.le_of_ble_eq_true rfl) (by decide) (dk kX1_pointsOfTeam_ok 7 rfl) ?_
  refine n_iadd hx hb (dk kX1_pointsOfTeam_ok 8 rfl) ?_
  exact hret _ _ _ (by rfl) (dk kX1_pointsOfTeam_ok 9 rfl)
set_option maxRecDepth 100000 in
set_option maxHeartbeats 4000000 in
theorem tX1_leadOf (l : Launch) (D : va_G) (cI cQ cL : ClassId) (ad : Nat → Nat) (N : Nat) (F : Nat → va_E) (k : Nat) (hk : k + 3 < N) (c b v : Nat → Int32) (hM : matAt cI ad F k c b v) (x : Int32) (w : Nat) (hxw : x = nI w) (hw : w < 2) : MR l yX1_leadOf (Cond.code yX1_leadOf cX1_leadOf 2 (some .int) :: AW) ({ frames := 4, cells := 0, slots := 0, locals := 87 } : Room) D cI cQ cL ad N F [.ref (ad k), .int x] (.int (nI (ptt c v w) - nI (ptt c v (1 - w)))) := by
  refine mr_i (ty := .int) (by decide +kernel) rfl rfl rfl rfl (Nat.le_of_ble_eq_true rfl) (fun p e s m below meth cd Q ls hx hb hml hown hts hP hK hNW hret hl => ?_)
  have hown : s.vm.findClass RX1 = some m.cls := hown
  subst hxw
  obtain ⟨f0, f1, f2, f3⟩ := id hM
  have hk0 : k < N := by omega
  have hk1 : k + 1 < N := by omega
  have hk2 : k + 2 < N := by omega
  have hk3 : k + 3 < N := hk
  have hl : lv_has ls 2 [(0, .ref (ad k)), (1, .int (nI w))] := hl
  refine lv_aload_n hx hb (dk kX1_leadOf_ok 0 rfl) rfl (lv_at hl 0 rfl) ?_
  refine lv_iload_n hx hb (dk kX1_leadOf_ok 1 rfl) rfl (lv_at hl 1 rfl) ?_
  refine cvR (As := [.int (nI w)]) (rest := []) ⟨hx, hb, hml, hown, hts⟩ (tX1_pointsOfTeam l D cI cQ cL ad N F k hk c b v hM (nI w) w rfl (by omega)) (cwV9 1 hts mcX1_pointsOfTeam (ac3 _ (List.mem_of_getElem? (i := 16) rfl)) miX1_pointsOfTeam meX1_pointsOfTeam mini_RX1 rfl rfl hdX1_pointsOfTeam ⟨Nat.le_of_ble_eq_true rfl, Nat.le_of_ble_eq_true rfl⟩) hK hP hNW hk0 f0 rfl rfl hl.1 rfl (Nat.le_of_ble_eq_true rfl) (by decide) (dk kX1_leadOf_ok 2 rfl) ?_
  refine lv_aload_n hx hb (dk kX1_leadOf_ok 3 rfl) rfl (lv_at hl 0 rfl) ?_
  refine lv_iconst (v := nI 1) hx hb (dk kX1_leadOf_ok 4 rfl) rfl ?_
  refine lv_iload_n hx hb (dk kX1_leadOf_ok 5 rfl) rfl (lv_at hl 1 rfl) ?_
  refine n_isub hx hb (by omega) (dk kX1_leadOf_ok 6 rfl) ?_
  refine cvR (As := [.int (nI (1 - w))]) (rest := [.int (nI (ptt c v w))]) ⟨hx, hb, hml, hown, hts⟩ (tX1_pointsOfTeam l D cI cQ cL ad N F k hk c b v hM (nI (1 - w)) (1 - w) rfl (by omega)) (cwV9 1 hts mcX1_pointsOfTeam (ac3 _ (List.mem_of_getElem? (i := 16) rfl)) miX1_pointsOfTeam meX1_pointsOfTeam mini_RX1 rfl rfl hdX1_pointsOfTeam ⟨Nat.le_of_ble_eq_true rfl, Nat.le_of_ble_eq_true rfl⟩) hK hP hNW hk0 f0 rfl rfl hl.1 rfl (Nat.le_of_ble_eq_true rfl) (by decide) (dk kX1_leadOf_ok 7 rfl) ?_
  refine lv_isub hx hb (dk kX1_leadOf_ok 8 rfl) ?_
  exact hret _ _ _ (by rfl) (dk kX1_leadOf_ok 9 rfl)
set_option maxRecDepth 100000 in
set_option maxHeartbeats 4000000 in
theorem tX1_liesBelow (l : Launch) (D : va_G) (cI cQ cL : ClassId) (ad : Nat → Nat) (N : Nat) (F : Nat → va_E) (k : Nat) (hk : k + 3 < N) (c b v : Nat → Int32) (hM : matAt cI ad F k c b v) (x : Int32) (w : Nat) (hxw : x = nI w) (hw : w < 16) (y : Int32) (g : Nat) (hyg : y = nI g) (hg : g < 2 ^ 31) : MR l yX1_liesBelow (Cond.code yX1_liesBelow cX1_liesBelow 5 (some .boolean) :: AW) ({ frames := 1, cells := 0, slots := 0, locals := 20 } : Room) D cI cQ cL ad N F [.ref (ad k), .int x, .int y] (.int (bI (lbl v g 16 (v w)))) := by
  refine mr_i (ty := .boolean) (by decide +kernel) rfl rfl rfl (bI_nar _) (Nat.le_of_ble_eq_true rfl) (fun p e s m below meth cd Q ls hx hb hml hown hts hP hK hNW hret hl => ?_)
  have hown : s.vm.findClass RX1 = some m.cls := hown
  subst hxw
  subst hyg
  obtain ⟨f0, f1, f2, f3⟩ := id hM
  have hk0 : k < N := by omega
  have hk1 : k + 1 < N := by omega
  have hk2 : k + 2 < N := by omega
  have hk3 : k + 3 < N := hk
  have hl : lv_has ls 5 [(0, .ref (ad k)), (1, .int (nI w)), (2, .int (nI g))] := hl
  refine lv_aload_n hx hb (dk kX1_liesBelow_ok 0 rfl) rfl (lv_at hl 0 rfl) ?_
  refine gf hx hb hts (fun w h => List.mem_cons_of_mem _ (acX1 w h)) hown hK hP hk0 f0 rfl 2 (by decide) (hts _ (List.mem_cons_of_mem _ (ac1 _ (List.mem_of_getElem? (i := 0) rfl)))) (fun _ h => h) rfl (dk kX1_liesBelow_ok 1 rfl) ?_
  refine lv_iload_n hx hb (dk kX1_liesBelow_ok 2 rfl) rfl (lv_at hl 1 rfl) ?_
  refine ald (j := w) hx hb hK hP hk3 f3 rfl (by omega) (by decide) (dk kX1_liesBelow_ok 3 rfl) ?_
  refine lv_istore_n (lv' := [(3, .int (v w)), (0, .ref (ad k)), (1, .int (nI w)), (2, .int (nI g))]) hx hb (dk kX1_liesBelow_ok 4 rfl) rfl hl (by decide) rfl (fun ls hl => ?_)
  refine lv_iconst (v := nI 0) hx hb (dk kX1_liesBelow_ok 5 rfl) rfl ?_
  refine lv_istore (lv' := [(4, .int (nI 0)), (3, .int (v w)), (0, .ref (ad k)), (1, .int (nI w)), (2, .int (nI g))]) hx hb (dk kX1_liesBelow_ok 6 rfl) hl (by decide) rfl (fun ls hl => ?_)
  have L10 : ∀ (fu : Nat) (i : Nat) (x : Int32), i ≤ 16 → lbl v g 16 (v w) = lbl v g (16 - i) x → 16 - i < fu → ∀ ls : Array Slot, lv_has ls 5 [(0, .ref (ad k)), (1, .int (nI w)), (2, .int (nI g)), (3, .int x), (4, .int (nI i))] → W p l e ({ frames := 1, cells := 0, slots := 0, locals := 20 } : Room) s m ([.ref (ad k), .int (nI w), .int (nI g)] : List Value).toArray below meth cd s.heap [] 0 0 Q (F0 m 10 ls []) := by
    intro fu
    induction fu with
    | zero => intros; omega
    | succ fu ih10 =>
      intro i x hi hr hm10 ls hl
      refine lv_iload hx hb (dk kX1_liesBelow_ok 7 rfl) (lv_at hl 4 rfl) ?_
      refine lv_bipush (v := nI 16) hx hb (dk kX1_liesBelow_ok 8 rfl) rfl ?_
      refine n_icmp_ge (tgt := 47) hx hb (by first | omega | (have := wk_lt h2; omega)) (by decide) (dk kX1_liesBelow_ok 9 rfl) (by decide) (fun h1 => ?_) (fun h1 => ?_)
      · skip
        refine lv_iconst (v := nI 0) hx hb (dk kX1_liesBelow_ok 26 rfl) rfl ?_
        exact hret _ _ _ (by first | (rw [hr, show 16 - i = (16 - (i + 1)) + 1 by omega]; simp [lbl, bI, h1]; done) | (rw [hr, show 16 - i = 0 by omega]; rfl)) (dk kX1_liesBelow_ok 27 rfl)
      · skip
        refine lv_iload_n hx hb (dk kX1_liesBelow_ok 10 rfl) rfl (lv_at hl 3 rfl) ?_
        refine csPN (As := [.int x]) (rest := []) ⟨hx, hb, hml, hown, hts⟩ (tX5_isWink l x) (cwN9 1 hts mcX5_isWink (nm7 hNW) mini_RX5 rfl rfl hdX5_isWink ⟨Nat.le_of_ble_eq_true rfl, Nat.le_of_ble_eq_true rfl⟩) (hts _ (List.mem_cons_of_mem _ msX5_isWink)) rfl hl.1 rfl (Nat.le_of_ble_eq_true rfl) (by decide) (dk kX1_liesBelow_ok 11 rfl) ?_
        refine b_if_eq (tgt := 47) hx hb (dk kX1_liesBelow_ok 12 rfl) (by decide) (fun h2 => ?_) (fun h2 => ?_)
        · skip
          refine lv_iconst (v := nI 0) hx hb (dk kX1_liesBelow_ok 26 rfl) rfl ?_
          exact hret _ _ _ (by first | (rw [hr, show 16 - i = (16 - (i + 1)) + 1 by omega]; simp [lbl, bI, h1, h2]; done) | (rw [hr, show 16 - i = 0 by omega]; rfl)) (dk kX1_liesBelow_ok 27 rfl)
        · skip
          refine lv_iload_n hx hb (dk kX1_liesBelow_ok 13 rfl) rfl (lv_at hl 3 rfl) ?_
          refine csPN (As := [.int x]) (rest := []) ⟨hx, hb, hml, hown, hts⟩ (tX5_colourOf l x (ix x) (wk_eq h2) (by have := wk_lt h2; omega)) (cwN9 1 hts mcX5_colourOf (nm1 hNW) mini_RX5 rfl rfl hdX5_colourOf ⟨Nat.le_of_ble_eq_true rfl, Nat.le_of_ble_eq_true rfl⟩) (hts _ (List.mem_cons_of_mem _ msX5_colourOf)) rfl hl.1 rfl (Nat.le_of_ble_eq_true rfl) (by decide) (dk kX1_liesBelow_ok 14 rfl) ?_
          refine lv_iload_n hx hb (dk kX1_liesBelow_ok 15 rfl) rfl (lv_at hl 2 rfl) ?_
          refine n_icmp_ne (tgt := 34) hx hb (by first | omega | (have := wk_lt h2; omega)) (by first | omega | (have := wk_lt h2; omega)) (dk kX1_liesBelow_ok 16 rfl) (by decide) (fun h3 => ?_) (fun h3 => ?_)
          · skip
            refine lv_aload_n hx hb (dk kX1_liesBelow_ok 19 rfl) rfl (lv_at hl 0 rfl) ?_
            refine gf hx hb hts (fun w h => List.mem_cons_of_mem _ (acX1 w h)) hown hK hP hk0 f0 rfl 2 (by decide) (hts _ (List.mem_cons_of_mem _ (ac1 _ (List.mem_of_getElem? (i := 0) rfl)))) (fun _ h => h) rfl (dk kX1_liesBelow_ok 20 rfl) ?_
            refine lv_iload_n hx hb (dk kX1_liesBelow_ok 21 rfl) rfl (lv_at hl 3 rfl) ?_
            refine ald (j := (ix x)) hx hb hK hP hk3 f3 (wk_eq h2) (wk_lt h2) (by decide) (dk kX1_liesBelow_ok 22 rfl) ?_
            refine lv_istore_n (lv' := [(3, .int (v (ix x))), (0, .ref (ad k)), (1, .int (nI w)), (2, .int (nI g)), (4, .int (nI i))]) hx hb (dk kX1_liesBelow_ok 23 rfl) rfl hl (by decide) rfl (fun ls hl => ?_)
            refine lv_iinc (v := nI (i + 1)) (lv' := [(4, .int (nI (i + 1))), (3, .int (v (ix x))), (0, .ref (ad k)), (1, .int (nI w)), (2, .int (nI g))]) hx hb (dk kX1_liesBelow_ok 24 rfl) hl (k := 4) rfl (n_inc _) (by decide) rfl (fun ls hl => ?_)
            refine lv_goto (tgt := 10) hx hb (dk kX1_liesBelow_ok 25 rfl) (by decide) ?_
            exact ih10 (i + 1) (v (ix x)) (by omega) (by rw [hr, show 16 - i = (16 - (i + 1)) + 1 by omega]; simp [lbl, h1, h2, h3]) (by omega) ls (lv_sub hl [2, 3, 4, 1, 0] rfl)
          · skip
            refine lv_iconst (v := nI 1) hx hb (dk kX1_liesBelow_ok 17 rfl) rfl ?_
            exact hret _ _ _ (by first | (rw [hr, show 16 - i = (16 - (i + 1)) + 1 by omega]; simp [lbl, bI, h1, h2, h3]; done) | (rw [hr, show 16 - i = 0 by omega]; rfl)) (dk kX1_liesBelow_ok 18 rfl)
  exact L10 _ 0 (v w) (by first | omega | rfl) (by first | omega | rfl) (Nat.lt_succ_self _) ls (lv_sub hl [2, 3, 4, 1, 0] rfl)
set_option maxRecDepth 100000 in
set_option maxHeartbeats 4000000 in
theorem tX1_othersBelow (l : Launch) (D : va_G) (cI cQ cL : ClassId) (ad : Nat → Nat) (N : Nat) (F : Nat → va_E) (k : Nat) (hk : k + 3 < N) (c b v : Nat → Int32) (hM : matAt cI ad F k c b v) (x : Int32) (w : Nat) (hxw : x = nI w) (hw : w < 4) : MR l yX1_othersBelow (Cond.code yX1_othersBelow cX1_othersBelow 4 (some .int) :: AW) ({ frames := 2, cells := 0, slots := 0, locals := 44 } : Room) D cI cQ cL ad N F [.ref (ad k), .int x] (.int (nI (cnt (oth v w) 16))) := by
  refine mr_i (ty := .int) (by decide +kernel) rfl rfl rfl rfl (Nat.le_of_ble_eq_true rfl) (fun p e s m below meth cd Q ls hx hb hml hown hts hP hK hNW hret hl => ?_)
  have hown : s.vm.findClass RX1 = some m.cls := hown
  subst hxw
  obtain ⟨f0, f1, f2, f3⟩ := id hM
  have hk0 : k < N := by omega
  have hk1 : k + 1 < N := by omega
  have hk2 : k + 2 < N := by omega
  have hk3 : k + 3 < N := hk
  have hl : lv_has ls 4 [(0, .ref (ad k)), (1, .int (nI w))] := hl
  refine lv_iconst (v := nI 0) hx hb (dk kX1_othersBelow_ok 0 rfl) rfl ?_
  refine lv_istore_n (lv' := [(2, .int (nI 0)), (0, .ref (ad k)), (1, .int (nI w))]) hx hb (dk kX1_othersBelow_ok 1 rfl) rfl hl (by decide) rfl (fun ls hl => ?_)
  refine lv_iconst (v := nI 0) hx hb (dk kX1_othersBelow_ok 2 rfl) rfl ?_
  refine lv_istore_n (lv' := [(3, .int (nI 0)), (2, .int (nI 0)), (0, .ref (ad k)), (1, .int (nI w))]) hx hb (dk kX1_othersBelow_ok 3 rfl) rfl hl (by decide) rfl (fun ls hl => ?_)
  have L4 : ∀ (fu : Nat) (i : Nat) (x2 : Int32), x2 = nI (cnt (oth v w) i) → i ≤ 16 → 16 - i < fu → ∀ ls : Array Slot, lv_has ls 4 [(0, .ref (ad k)), (1, .int (nI w)), (2, .int x2), (3, .int (nI i))] → W p l e ({ frames := 2, cells := 0, slots := 0, locals := 44 } : Room) s m ([.ref (ad k), .int (nI w)] : List Value).toArray below meth cd s.heap [] 0 0 Q (F0 m 4 ls []) := by
    intro fu
    induction fu with
    | zero => intros; omega
    | succ fu ih4 =>
      intro i x2 ex2 hi hm4 ls hl
      subst ex2
      refine lv_iload_n hx hb (dk kX1_othersBelow_ok 4 rfl) rfl (lv_at hl 3 rfl) ?_
      refine lv_bipush (v := nI 16) hx hb (dk kX1_othersBelow_ok 5 rfl) rfl ?_
      refine n_icmp_ge (tgt := 36) hx hb (by omega) (by decide) (dk kX1_othersBelow_ok 6 rfl) (by decide) (fun h1 => ?_) (fun h1 => ?_)
      · skip
        refine lv_iload_n hx hb (dk kX1_othersBelow_ok 19 rfl) rfl (lv_at hl 2 rfl) ?_
        exact hret _ _ _ (by rw [show i = 16 by omega] <;> rfl) (dk kX1_othersBelow_ok 20 rfl)
      · skip
        refine lv_iload_n hx hb (dk kX1_othersBelow_ok 7 rfl) rfl (lv_at hl 3 rfl) ?_
        refine csPN (As := [.int (nI i)]) (rest := []) ⟨hx, hb, hml, hown, hts⟩ (tX5_colourOf l (nI i) i rfl (by omega)) (cwN9 1 hts mcX5_colourOf (nm1 hNW) mini_RX5 rfl rfl hdX5_colourOf ⟨Nat.le_of_ble_eq_true rfl, Nat.le_of_ble_eq_true rfl⟩) (hts _ (List.mem_cons_of_mem _ msX5_colourOf)) rfl hl.1 rfl (Nat.le_of_ble_eq_true rfl) (by decide) (dk kX1_othersBelow_ok 8 rfl) ?_
        refine lv_iload_n hx hb (dk kX1_othersBelow_ok 9 rfl) rfl (lv_at hl 1 rfl) ?_
        refine n_icmp_eq (tgt := 30) hx hb (by omega) (by omega) (dk kX1_othersBelow_ok 10 rfl) (by decide) (fun h2 => ?_) (fun h2 => ?_)
        · skip
          refine lv_iinc (v := nI (i + 1)) (lv' := [(3, .int (nI (i + 1))), (0, .ref (ad k)), (1, .int (nI w)), (2, .int (nI (cnt (oth v w) i)))]) hx hb (dk kX1_othersBelow_ok 17 rfl) hl (k := 3) rfl (n_inc _) (by decide) rfl (fun ls hl => ?_)
          refine lv_goto (tgt := 4) hx hb (dk kX1_othersBelow_ok 18 rfl) (by decide) ?_
          exact ih4 (i + 1) _ (by simp [cnt, h1, h2, oth]) (by omega) (by omega) ls (lv_sub hl [1, 2, 3, 0] rfl)
        · skip
          refine lv_aload_n hx hb (dk kX1_othersBelow_ok 11 rfl) rfl (lv_at hl 0 rfl) ?_
          refine lv_iload_n hx hb (dk kX1_othersBelow_ok 12 rfl) rfl (lv_at hl 3 rfl) ?_
          refine lv_iload_n hx hb (dk kX1_othersBelow_ok 13 rfl) rfl (lv_at hl 1 rfl) ?_
          refine cvR (As := [.int (nI i), .int (nI w)]) (rest := []) ⟨hx, hb, hml, hown, hts⟩ (tX1_liesBelow l D cI cQ cL ad N F k hk c b v hM (nI i) i rfl (by omega) (nI w) w rfl (by omega)) (cwV9 2 hts mcX1_liesBelow (ac3 _ (List.mem_of_getElem? (i := 20) rfl)) miX1_liesBelow meX1_liesBelow mini_RX1 rfl rfl hdX1_liesBelow ⟨Nat.le_of_ble_eq_true rfl, Nat.le_of_ble_eq_true rfl⟩) hK hP hNW hk0 f0 rfl rfl hl.1 rfl (Nat.le_of_ble_eq_true rfl) (by decide) (dk kX1_othersBelow_ok 14 rfl) ?_
          refine b_if_eq (tgt := 30) hx hb (dk kX1_othersBelow_ok 15 rfl) (by decide) (fun h3 => ?_) (fun h3 => ?_)
          · skip
            refine lv_iinc (v := nI (i + 1)) (lv' := [(3, .int (nI (i + 1))), (0, .ref (ad k)), (1, .int (nI w)), (2, .int (nI (cnt (oth v w) i)))]) hx hb (dk kX1_othersBelow_ok 17 rfl) hl (k := 3) rfl (n_inc _) (by decide) rfl (fun ls hl => ?_)
            refine lv_goto (tgt := 4) hx hb (dk kX1_othersBelow_ok 18 rfl) (by decide) ?_
            exact ih4 (i + 1) _ (by simp [cnt, h1, h2, h3, oth]) (by omega) (by omega) ls (lv_sub hl [1, 2, 3, 0] rfl)
          · skip
            refine lv_iinc (v := nI ((cnt (oth v w) i) + 1)) (lv' := [(2, .int (nI ((cnt (oth v w) i) + 1))), (0, .ref (ad k)), (1, .int (nI w)), (3, .int (nI i))]) hx hb (dk kX1_othersBelow_ok 16 rfl) hl (k := 2) rfl (n_inc _) (by decide) rfl (fun ls hl => ?_)
            refine lv_iinc (v := nI (i + 1)) (lv' := [(3, .int (nI (i + 1))), (2, .int (nI ((cnt (oth v w) i) + 1))), (0, .ref (ad k)), (1, .int (nI w))]) hx hb (dk kX1_othersBelow_ok 17 rfl) hl (k := 3) rfl (n_inc _) (by decide) rfl (fun ls hl => ?_)
            refine lv_goto (tgt := 4) hx hb (dk kX1_othersBelow_ok 18 rfl) (by decide) ?_
            exact ih4 (i + 1) _ (by simp [cnt, h1, h2, h3, oth]) (by omega) (by omega) ls (lv_sub hl [2, 3, 1, 0] rfl)
  exact L4 _ 0 _ (by first | rfl | omega) (by first | rfl | omega) (Nat.lt_succ_self _) ls (lv_sub hl [2, 3, 1, 0] rfl)
end
section
/-- a method that writes, in a world: what it answers and leaves -/
def MX (l : Launch) (y : MethodName) (ws : List Cond) (rm : Room) (D : va_G) (cI cQ cL : ClassId) (ad : Nat → Nat) (N : Nat) (F : Nat → va_E) (args : List Value) (post : Option Value → (Nat → va_E) → Prop) (mc ms : Nat) : Prop :=
  ∀ sz : Nat, Met l y ws rm (va_Pc args (fun U => U.heap.size = sz ∧ iD ad N ∧ rW D cI cQ cL ad N F U)) (fun _ st o t => ∃ (v : Option Value) (F' : Nat → va_E), o = .returned v ∧ post v F' ∧ va_P D vwCl (iW ad N F') t.heap ∧ va_F (iA ad N sz) st t) mc ms (iA ad N sz)
/-- one answer, one world -/
def dp (r : Option Value) (G : Nat → va_E) : Option Value → (Nat → va_E) → Prop := fun v F' => v = r ∧ F' = G
theorem MX_blind {D : va_G} {cI cQ cL : ClassId} {ad : Nat → Nat} {N : Nat} {F : Nat → va_E} {args : List Value} {sz : Nat} : FrameBlind (va_Pc args (fun U => U.heap.size = sz ∧ iD ad N ∧ rW D cI cQ cL ad N F U)) :=
  fun a U g mk q => ⟨q.1, q.2.1, q.2.2.1, q.2.2.2.1, va_K.moved (u := U) (U := U.calling g mk a) (Vm.Alike.refl U.vm) q.2.2.2.2.1, NW.same rfl q.2.2.2.2.2⟩
section MXS
variable {l : Launch} {y : MethodName} {ws ws' : List Cond} {rm : Room} {cc : ByteArray} {maxL : Nat} {D : va_G} {cI cQ cL : ClassId} {ad : Nat → Nat} {N : Nat} {F : Nat → va_E} {args : List Value} {post : Option Value → (Nat → va_E) → Prop} {mc ms : Nat}
theorem mx_i {ty : FieldType} (hy : plainName y.cls = true) (hw : ws = Cond.code y cc maxL (some ty) :: ws') (hlen : (lg_sl args).length ≤ maxL)
    (body : ∀ (p : Program) (e : Env) (s : State) (m : MethodId) (below : List Frame) (meth : Method) (c : Code) (Q : State → Prop) (ls : Array Slot),
      p.tables.exec = Jvm.exec → c.code = cc → c.maxLocals = maxL → s.vm.findClass y.cls = some m.cls → (∀ w ∈ ws, w.before args.toArray s = true) → iD ad N → va_P D vwCl (iW ad N F) s.heap → va_K D vwCl (iT cI cQ cL) s → NW s → va_S (iA ad N s.heap.size) s.heap s.heap [] →
      (∀ (pc : Nat) (ls : Array Slot) (v : Int32) (H : Heap) (locs : List Loc) (F' : Nat → va_E) (k n : Nat), narrow ty (.int v) = .int v → post (some (.int v)) F' → va_P D vwCl (iW ad N F') H → va_S (iA ad N s.heap.size) s.heap H locs → k ≤ mc → n ≤ ms → decode cc pc = .ok (.ireturn, 1) → W p l e rm s m args.toArray below meth c H locs k n Q (F0 m pc ls [.int v])) →
      lv_has ls maxL (lv_args 0 args) → W p l e rm s m args.toArray below meth c s.heap [] 0 0 Q (F0 m 0 ls [])) : MX l y ws rm D cI cQ cL ad N F args post mc ms := by
  intro sz
  refine Met.ofW (cc := cc) (maxL := maxL) (ret := some ty) hy hw ?_
  intro p e s m args9 below meth c s₁ B hml hv
  obtain ⟨rfl, hsz, hDi, hP, hK, hNW⟩ := hv
  subst hsz
  have hl := lv_entry args (n := maxL) hlen
  rw [lg_entry_eq]
  exact body p e s m below meth c _ _ B.exec B.bytes hml (findClass_of_methodNamed B.named) (atoms_spec B.pre) hDi hP hK hNW va_S.rf (fun pc ls v H locs F' k n hn hp hP1 hS h1 h2 hd => by
    refine W.widen (k := mc) (n := ms) h1 h2 ?_
    exact W.zret B.exec B.bytes B.returns hn (fun t ht _ => ⟨_, F', rfl, hp, by rw [ht]; exact hP1, hS.F ht⟩) hS.2.2 hd B.notSynchronized) hl
theorem mx_v (hy : plainName y.cls = true) (hw : ws = Cond.code y cc maxL none :: ws') (hlen : (lg_sl args).length ≤ maxL)
    (body : ∀ (p : Program) (e : Env) (s : State) (m : MethodId) (below : List Frame) (meth : Method) (c : Code) (Q : State → Prop) (ls : Array Slot),
      p.tables.exec = Jvm.exec → c.code = cc → c.maxLocals = maxL → s.vm.findClass y.cls = some m.cls → (∀ w ∈ ws, w.before args.toArray s = true) → iD ad N → va_P D vwCl (iW ad N F) s.heap → va_K D vwCl (iT cI cQ cL) s → NW s → va_S (iA ad N s.heap.size) s.heap s.heap [] →
      (∀ (pc : Nat) (ls : Array Slot) (H : Heap) (locs : List Loc) (F' : Nat → va_E) (k n : Nat), post none F' → va_P D vwCl (iW ad N F') H → va_S (iA ad N s.heap.size) s.heap H locs → k ≤ mc → n ≤ ms → decode cc pc = .ok (.return_, 1) → W p l e rm s m args.toArray below meth c H locs k n Q (F0 m pc ls [])) →
      lv_has ls maxL (lv_args 0 args) → W p l e rm s m args.toArray below meth c s.heap [] 0 0 Q (F0 m 0 ls [])) : MX l y ws rm D cI cQ cL ad N F args post mc ms := by
  intro sz
  refine Met.ofW (cc := cc) (maxL := maxL) (ret := none) hy hw ?_
  intro p e s m args9 below meth c s₁ B hml hv
  obtain ⟨rfl, hsz, hDi, hP, hK, hNW⟩ := hv
  subst hsz
  have hl := lv_entry args (n := maxL) hlen
  rw [lg_entry_eq]
  exact body p e s m below meth c _ _ B.exec B.bytes hml (findClass_of_methodNamed B.named) (atoms_spec B.pre) hDi hP hK hNW va_S.rf (fun pc ls H locs F' k n hp hP1 hS h1 h2 hd => by
    refine W.widen (k := mc) (n := ms) h1 h2 ?_
    exact W.vret B.exec B.bytes B.returns (fun t ht _ => ⟨_, F', rfl, hp, by rw [ht]; exact hP1, hS.F ht⟩) hS.2.2 hd B.notSynchronized) hl
end MXS
section WROWS
variable {p : Program} {l : Launch} {e : Env} {R : Room} {s : State} {m : MethodId} {args : Array Value} {below : List Frame} {meth : Method} {c : Code} {H : Heap} {locs : List Loc} {cells slots : Nat} {Q : State → Prop}
variable {cc : ByteArray} {pc : Nat} {ls : Array Slot} {rest st0 : List Value} {D : va_G} {cI cQ cL : ClassId} {ad : Nat → Nat} {N : Nat} {F : Nat → va_E} {Ts : List Cond}
theorem iA_D (h : iD ad N) {F : Nat → va_E} {sz : Nat} : va_D (iA ad N sz) (iW ad N F) := iD_D h (fun k hk => Or.inl ⟨k, hk, rfl⟩)
theorem pf (F' : Nat → va_E) (hx : p.tables.exec = Jvm.exec) (hb : c.code = cc) {own ref C : String} {T : u_T} {n ci index : Nat} (hts : ∀ w ∈ Ts, w.before args s = true) (hin : ∀ w ∈ u_ws C T n, w ∈ Ts) (ty0 : Nat → FieldType) (hty : ∀ k, k < n → parseFieldDescriptor (T k).2.2.1 = some (ty0 k)) (hnm : ∀ a, a < n → ∀ b, b < n → a ≠ b → (T a).2.1 ≠ (T b).2.1) (hown : s.vm.findClass own = some m.cls) (hK : va_K D vwCl (iT cI cQ cL) s) (hDi : iD ad N) (hP : va_P D vwCl (iW ad N F) H) (hS : va_S (iA ad N s.heap.size) s.heap H locs) {k : Nat} (hk : k < N) {fs : List Value} (hF : F k = .inr (ci, fs)) (hc : vwCl[ci]? = some (C, T, n)) (j : Nat) (hj : j < n) (hlink : (Cond.fieldLink own index ref (T j).2.1 (T j).2.2.1).before args s = true) (hsame : ∀ x, s.fieldFound? (T j).1 (T j).2.1 (T j).2.2.1 = some x → s.fieldFound? ref (T j).2.1 (T j).2.2.1 = some x) (hfin : (T j).2.2.2 = false) {ty : FieldType} {v : Value} (hd : parseFieldDescriptor (T j).2.2.1 = some ty) (hn : narrow ty v = v) (hfit : fits ty v = true) (hl : j < fs.length) (hdg : decode cc pc = .ok (.putfield index, 3)) (hcan : va_up F k (.inr (ci, fs.set j v)) = F')
    (kk : ∀ (H1 : Heap) (locs1 : List Loc), va_P D vwCl (iW ad N F') H1 → va_S (iA ad N s.heap.size) s.heap H1 locs1 → W p l e R s m args below meth c H1 locs1 cells slots Q (F0 m (pc + 3) ls rest)) : W p l e R s m args below meth c H locs cells slots Q (F0 m pc ls (v :: .ref (ad k) :: rest)) :=
  va_put hx hb hts hin ty0 hty hnm hown hK hP (iA_D hDi) hS k (iW_at hk hF) hc j hj hlink hsame hfin hd hn hfit hl hdg (fun H1 locs1 hP1 hD1 hS1 => kk H1 locs1 (by rw [iW_set hk, hcan] at hP1; exact hP1) hS1)
theorem pfN (F' : Nat → va_E) (hx : p.tables.exec = Jvm.exec) (hb : c.code = cc) {own ref C host : String} {T : u_T} {n ci index : Nat} (hts : ∀ w ∈ Ts, w.before args s = true) (hin : ∀ w ∈ u_ws C T n, w ∈ Ts) (ty0 : Nat → FieldType) (hty : ∀ k, k < n → parseFieldDescriptor (T k).2.2.1 = some (ty0 k)) (hnm : ∀ a, a < n → ∀ b, b < n → a ≠ b → (T a).2.1 ≠ (T b).2.1) (hown : s.vm.findClass own = some m.cls) (hK : va_K D vwCl (iT cI cQ cL) s) (hDi : iD ad N) (hP : va_P D vwCl (iW ad N F) H) (hS : va_S (iA ad N s.heap.size) s.heap H locs) {k : Nat} (hk : k < N) {fs : List Value} (hF : F k = .inr (ci, fs)) (hc : vwCl[ci]? = some (C, T, n)) (j : Nat) (hj : j < n) (hlink : va_Nw (.fieldLinkNest own index ref (T j).2.1 (T j).2.2.1 host) s) (hsame : ∀ x, s.fieldFound? (T j).1 (T j).2.1 (T j).2.2.1 = some x → s.fieldFound? ref (T j).2.1 (T j).2.2.1 = some x) (hfin : (T j).2.2.2 = false) {ty : FieldType} {v : Value} (hd : parseFieldDescriptor (T j).2.2.1 = some ty) (hn : narrow ty v = v) (hfit : fits ty v = true) (hl : j < fs.length) (hdg : decode cc pc = .ok (.putfield index, 3)) (hcan : va_up F k (.inr (ci, fs.set j v)) = F')
    (kk : ∀ (H1 : Heap) (locs1 : List Loc), va_P D vwCl (iW ad N F') H1 → va_S (iA ad N s.heap.size) s.heap H1 locs1 → W p l e R s m args below meth c H1 locs1 cells slots Q (F0 m (pc + 3) ls rest)) : W p l e R s m args below meth c H locs cells slots Q (F0 m pc ls (v :: .ref (ad k) :: rest)) :=
  va_putN hx hb hts hin ty0 hty hnm hown hK hP (iA_D hDi) hS k (iW_at hk hF) hc j hj (va_Nw.use rfl hlink) hsame hfin hd hn hfit hl hdg (fun H1 locs1 hP1 hD1 hS1 => kk H1 locs1 (by rw [iW_set hk, hcan] at hP1; exact hP1) hS1)
theorem ast (F' : Nat → va_E) (hx : p.tables.exec = Jvm.exec) (hb : c.code = cc) (hK : va_K D vwCl (iT cI cQ cL) s) (hDi : iD ad N) (hP : va_P D vwCl (iW ad N F) H) (hS : va_S (iA ad N s.heap.size) s.heap H locs) {k n : Nat} {f : Nat → Int32} {x z : Int32} {j : Nat} (hk : k < N) (hF : F k = .inl (cI, n, .inl f)) (hxj : x = nI j) (hj : j < n) (hn : n < 2 ^ 31) (hdg : decode cc pc = .ok (.iastore, 1)) (hcan : va_up F k (.inl (cI, n, .inl (upd f j z))) = F')
    (kk : ∀ (H1 : Heap) (locs1 : List Loc), va_P D vwCl (iW ad N F') H1 → va_S (iA ad N s.heap.size) s.heap H1 locs1 → W p l e R s m args below meth c H1 locs1 cells slots Q (F0 m (pc + 1) ls rest)) : W p l e R s m args below meth c H locs cells slots Q (F0 m pc ls (.int z :: .int x :: .ref (ad k) :: rest)) := by
  subst hxj
  refine va_iast hx hb hK hP (iA_D hDi) hS k 0 (iW_at hk hF) rfl (vp_in_nI hj hn) hdg (fun H1 locs1 hP1 hD1 hS1 => kk H1 locs1 ?_ hS1)
  rw [nI_clamp (Nat.lt_trans hj hn), iW_set hk, hcan] at hP1
  exact hP1
theorem iA_up {H0 H : Heap} (hS : va_S (iA ad N H0.size) H0 H locs) : ∀ q, iA ad N H.size q → iA ad N H0.size q := fun q h => h.elim Or.inl (fun h => Or.inr (Nat.le_trans hS.1 h))
/-- behind a call that writes -/
theorem cW {post : Option Value → (Nat → va_E) → Prop} {mc ms : Nat} (hr : va_Run p l e R s m args below meth c H locs cells slots mc ms (F0 m pc ls st0) rest (fun st o t => ∃ (v : Option Value) (F' : Nat → va_E), o = .returned v ∧ post v F' ∧ va_P D vwCl (iW ad N F') t.heap ∧ va_F (iA ad N H.size) st t) (iA ad N H.size)) (hS : va_S (iA ad N s.heap.size) s.heap H locs)
    (kk : ∀ (v : Option Value) (F' : Nat → va_E) (H1 : Heap) (locs1 : List Loc), post v F' → va_P D vwCl (iW ad N F') H1 → va_S (iA ad N s.heap.size) s.heap H1 locs1 → W p l e R s m args below meth c H1 locs1 (cells + mc) (slots + ms) Q (F0 m (pc + 3) ls (v.toList ++ rest))) : W p l e R s m args below meth c H locs cells slots Q (F0 m pc ls st0) := by
  intro T hT X
  obtain ⟨v, st₀, t, T', L, h0, X', hL, e1, e2, ⟨v9, F', hv, hp, hb, hF⟩, st⟩ := hr T hT X
  cases hv
  obtain ⟨-, -, k3⟩ := vx_keep h0 e1 hS (fun q _ h => iA_up hS q h) (iA_up hS) hL hF
  obtain ⟨t2, a1, b1⟩ := kk v F' T'.heap (locs ++ L) hp (by rw [e1]; exact hb) k3 T' rfl X'
  exact ⟨t2, st t2 a1, b1⟩
theorem MX_pre {argl : List Value} {U : State} (hDi : iD ad N) (hK : va_K D vwCl (iT cI cQ cL) s) (hP : va_P D vwCl (iW ad N F) H) (hNW : NW s) (hU : U.heap = H) (hW : s.WarmedH U.vm) : va_Pc argl (fun U => U.heap.size = H.size ∧ iD ad N ∧ rW D cI cQ cL ad N F U) argl.toArray U :=
  ⟨rfl, by rw [hU], hDi, by rw [hU]; exact hP, va_K.moved hW.alike hK, hNW.warm hW⟩
theorem cvW {nL index na mc ms : Nat} {own C : String} {y : MethodName} {bytes : ByteArray} {maxL : Nat} {ret : Option FieldType} {ws : List Cond} {rm : Room} {As : List Value} {post : Option Value → (Nat → va_E) → Prop} {k ci n : Nat} {T : u_T} {fs : List Value}
    (S : CallFix p m c cc nL s args Ts own) (hM : MX l y ws rm D cI cQ cL ad N F (.ref (ad k) :: As) post mc ms) (cw : CallW R s args own C index y bytes maxL ret ws rm mc ms na) (hDi : iD ad N) (hK : va_K D vwCl (iT cI cQ cL) s) (hP : va_P D vwCl (iW ad N F) H) (hNW : NW s) (hS : va_S (iA ad N s.heap.size) s.heap H locs) (hk : k < N) (hF : F k = .inr (ci, fs)) (hc : vwCl[ci]? = some (C, T, n))
    (hn : As.length = na) (hsize : ls.size = nL) (hstack : st0 = As.reverse ++ .ref (ad k) :: rest) (hW : (rest.map fun v => v.category).sum ≤ 8) (hf : cells + mc ≤ R.cells ∧ slots + ms ≤ R.slots) (hdg : decode cc pc = .ok (.invokevirtual index, 3))
    (kk : ∀ (v : Option Value) (F' : Nat → va_E) (H1 : Heap) (locs1 : List Loc), post v F' → va_P D vwCl (iW ad N F') H1 → va_S (iA ad N s.heap.size) s.heap H1 locs1 → W p l e R s m args below meth c H1 locs1 (cells + mc) (slots + ms) Q (F0 m (pc + 3) ls (v.toList ++ rest))) : W p l e R s m args below meth c H locs cells slots Q (F0 m pc ls st0) :=
  cW (va_runV (g := F0 m pc ls st0) S (hM H.size) cw ⟨MX_blind, icond hK hP hk hF hc, fun U hU hW => MX_pre hDi hK hP hNW hU hW⟩ rfl hn hsize hstack (lv_room hW) hdg hf) hS kk
/-- .. with one answer and one world -/
theorem cvD {nL index na : Nat} {own C : String} {y : MethodName} {bytes : ByteArray} {maxL : Nat} {ret : Option FieldType} {ws : List Cond} {rm : Room} {As : List Value} {r : Value} {G : Nat → va_E} {k ci n : Nat} {T : u_T} {fs : List Value} (F' : Nat → va_E)
    (S : CallFix p m c cc nL s args Ts own) (hM : MX l y ws rm D cI cQ cL ad N F (.ref (ad k) :: As) (dp (some r) G) 0 0) (cw : CallW R s args own C index y bytes maxL ret ws rm 0 0 na) (hDi : iD ad N) (hK : va_K D vwCl (iT cI cQ cL) s) (hP : va_P D vwCl (iW ad N F) H) (hNW : NW s) (hS : va_S (iA ad N s.heap.size) s.heap H locs) (hk : k < N) (hF : F k = .inr (ci, fs)) (hc : vwCl[ci]? = some (C, T, n))
    (hn : As.length = na) (hsize : ls.size = nL) (hstack : st0 = As.reverse ++ .ref (ad k) :: rest) (hW : (rest.map fun v => v.category).sum ≤ 8) (hf : cells + 0 ≤ R.cells ∧ slots + 0 ≤ R.slots) (hdg : decode cc pc = .ok (.invokevirtual index, 3)) (hcan : G = F')
    (kk : ∀ (H1 : Heap) (locs1 : List Loc), va_P D vwCl (iW ad N F') H1 → va_S (iA ad N s.heap.size) s.heap H1 locs1 → W p l e R s m args below meth c H1 locs1 cells slots Q (F0 m (pc + 3) ls (r :: rest))) : W p l e R s m args below meth c H locs cells slots Q (F0 m pc ls st0) :=
  cvW S hM cw hDi hK hP hNW hS hk hF hc hn hsize hstack hW hf hdg (fun v G9 H1 locs1 hp hP1 hS1 => by
    obtain ⟨rfl, rfl⟩ := hp
    exact kk H1 locs1 (by rw [← hcan]; exact hP1) hS1)
theorem cvDv {nL index na : Nat} {own C : String} {y : MethodName} {bytes : ByteArray} {maxL : Nat} {ret : Option FieldType} {ws : List Cond} {rm : Room} {As : List Value} {G : Nat → va_E} {k ci n : Nat} {T : u_T} {fs : List Value} (F' : Nat → va_E)
    (S : CallFix p m c cc nL s args Ts own) (hM : MX l y ws rm D cI cQ cL ad N F (.ref (ad k) :: As) (dp none G) 0 0) (cw : CallW R s args own C index y bytes maxL ret ws rm 0 0 na) (hDi : iD ad N) (hK : va_K D vwCl (iT cI cQ cL) s) (hP : va_P D vwCl (iW ad N F) H) (hNW : NW s) (hS : va_S (iA ad N s.heap.size) s.heap H locs) (hk : k < N) (hF : F k = .inr (ci, fs)) (hc : vwCl[ci]? = some (C, T, n))
    (hn : As.length = na) (hsize : ls.size = nL) (hstack : st0 = As.reverse ++ .ref (ad k) :: rest) (hW : (rest.map fun v => v.category).sum ≤ 8) (hf : cells + 0 ≤ R.cells ∧ slots + 0 ≤ R.slots) (hdg : decode cc pc = .ok (.invokevirtual index, 3)) (hcan : G = F')
    (kk : ∀ (H1 : Heap) (locs1 : List Loc), va_P D vwCl (iW ad N F') H1 → va_S (iA ad N s.heap.size) s.heap H1 locs1 → W p l e R s m args below meth c H1 locs1 cells slots Q (F0 m (pc + 3) ls rest)) : W p l e R s m args below meth c H locs cells slots Q (F0 m pc ls st0) :=
  cvW S hM cw hDi hK hP hNW hS hk hF hc hn hsize hstack hW hf hdg (fun v G9 H1 locs1 hp hP1 hS1 => by
    obtain ⟨rfl, rfl⟩ := hp
    exact kk H1 locs1 (by rw [← hcan]; exact hP1) hS1)
end WROWS
/-- the mat at k with other contents -/
def mSet (cI : ClassId) (F : Nat → va_E) (k : Nat) (c b v : Nat → Int32) : Nat → va_E := fun j => if j = k + 1 then .inl (cI, 16, .inl c) else if j = k + 2 then .inl (cI, 16, .inl b) else if j = k + 3 then .inl (cI, 16, .inl v) else F j
theorem mSet_self {cI : ClassId} {ad : Nat → Nat} {F : Nat → va_E} {k : Nat} {c b v : Nat → Int32} (h : matAt cI ad F k c b v) : mSet cI F k c b v = F := by
  funext j
  obtain ⟨-, h1, h2, h3⟩ := h
  unfold mSet
  split
  · next e => rw [e, h1]
  · split
    · next e => rw [e, h2]
    · split
      · next e => rw [e, h3]
      · rfl
theorem mSet_at {cI : ClassId} {ad : Nat → Nat} {F : Nat → va_E} {k : Nat} {c b v c' b' v' : Nat → Int32} (h : matAt cI ad F k c b v) : matAt cI ad (mSet cI F k c' b' v') k c' b' v' := by
  obtain ⟨h0, -, -, -⟩ := h
  refine ⟨?_, ?_, ?_, ?_⟩
  · simp [mSet, h0]
  · simp [mSet]
  · simp [mSet]
  · simp [mSet]
theorem mSet_mSet {cI : ClassId} {F : Nat → va_E} {k : Nat} {c b v c' b' v' : Nat → Int32} : mSet cI (mSet cI F k c b v) k c' b' v' = mSet cI F k c' b' v' := by
  funext j
  simp only [mSet]
  repeat' split
  all_goals rfl
theorem mSet_out {cI : ClassId} {F : Nat → va_E} {k j : Nat} {c b v : Nat → Int32} (h : j < k + 1 ∨ k + 3 < j) : mSet cI F k c b v j = F j := by
  unfold mSet
  rw [if_neg (by omega), if_neg (by omega), if_neg (by omega)]
theorem mSet_c {cI : ClassId} {F : Nat → va_E} {k : Nat} {c b v c' : Nat → Int32} : va_up (mSet cI F k c b v) (k + 1) (.inl (cI, 16, .inl c')) = mSet cI F k c' b v := by
  funext j
  simp only [va_up, mSet]
  repeat' split
  all_goals first | rfl | omega
theorem mSet_b {cI : ClassId} {F : Nat → va_E} {k : Nat} {c b v b' : Nat → Int32} : va_up (mSet cI F k c b v) (k + 2) (.inl (cI, 16, .inl b')) = mSet cI F k c b' v := by
  funext j
  simp only [va_up, mSet]
  repeat' split
  all_goals first | rfl | omega
theorem mSet_v {cI : ClassId} {F : Nat → va_E} {k : Nat} {c b v v' : Nat → Int32} : va_up (mSet cI F k c b v) (k + 3) (.inl (cI, 16, .inl v')) = mSet cI F k c b v' := by
  funext j
  simp only [va_up, mSet]
  repeat' split
  all_goals first | rfl | omega
end
section
theorem nfw : nativeFrameWords "java/lang/System" "arraycopy" 5 = 7 := by decide +kernel
theorem cell_ext {cA : ClassId} {n : Nat} {f g : Nat → Int32} (h : ∀ j, j < n → f j = g j) : vp_cell cA (n, .inl f) = vp_cell cA (n, .inl g) := by
  show arrV cA n (fun j => .int (f j)) = arrV cA n (fun j => .int (g j))
  unfold arrV
  congr 1
  apply Array.ext
  · simp
  · intro i h1 h2
    simp only [Array.size_ofFn] at h1
    simp [h i h1]
theorem iW_ext {D : va_G} {cl : List vw_C} {ad : Nat → Nat} {N : Nat} {F F' : Nat → va_E} {H : Heap} (h : va_P D cl (iW ad N F) H) (e : ∀ k, k < N → F k = F' k ∨ ∃ (cA : ClassId) (n : Nat) (f g : Nat → Int32), F k = .inl (cA, n, .inl f) ∧ F' k = .inl (cA, n, .inl g) ∧ ∀ j, j < n → f j = g j) : va_P D cl (iW ad N F') H := by
  intro k q hq
  obtain ⟨hk, rfl⟩ := iW_inv hq
  have h1 := h k _ (iW_get hk)
  rcases e k hk with e1 | ⟨cA, n, f, g, e1, e2, e3⟩
  · rw [← e1]
    exact h1
  · rw [e2]
    rw [e1] at h1
    show H[ad k]? = some (vp_cell cA (n, .inl g))
    rw [← cell_ext e3]
    exact h1
section CPY
variable {p : Program} {l : Launch} {e : Env} {R : Room} {s : State} {m : MethodId} {args : Array Value} {below : List Frame} {meth : Method} {c : Code} {H : Heap} {locs : List Loc} {cells slots : Nat} {Q : State → Prop}
variable {cc : ByteArray} {pc : Nat} {ls : Array Slot} {rest st0 : List Value} {D : va_G} {cI cQ cL : ClassId} {ad : Nat → Nat} {N : Nat} {F : Nat → va_E} {Ts : List Cond}
/-- a whole row copied over another one -/
theorem cpy (F' : Nat → va_E) (hx : p.tables.exec = Jvm.exec) (hb : c.code = cc) (hml : c.maxLocals = ls.size) {own : String} {index : Nat} (hown : s.vm.findClass own = some m.cls) (hlink : (Cond.methodLink own index arraycopyName).before args s = true) (hnat : (Cond.native arraycopyName).before args s = true) (hstat : (Cond.static arraycopyName).before args s = true) (hini : (Cond.initialized "java/lang/System").before args s = true)
    (hK : va_K D vwCl (iT cI cQ cL) s) (hDi : iD ad N) (hP : va_P D vwCl (iW ad N F) H) (hS : va_S (iA ad N s.heap.size) s.heap H locs) {kS kD n : Nat} {f g : Nat → Int32} (hkS : kS < N) (hFS : F kS = .inl (cI, n, .inl f)) (hkD : kD < N) (hFD : F kD = .inl (cI, n, .inl g)) (hn : n < 2 ^ 31)
    (hframes : 1 ≤ R.frames) (hlocals : (rest.map fun v => v.category).sum + 18 ≤ R.locals) (hdg : decode cc pc = .ok (.invokestatic index, 3)) (hcan : va_up F kD (.inl (cI, n, .inl f)) = F')
    (kk : ∀ (H1 : Heap) (locs1 : List Loc), va_P D vwCl (iW ad N F') H1 → va_S (iA ad N s.heap.size) s.heap H1 locs1 → W p l e R s m args below meth c H1 locs1 cells slots Q (F0 m (pc + 3) ls rest)) : W p l e R s m args below meth c H locs cells slots Q (F0 m pc ls (.int (nI n) :: .int (nI 0) :: .ref (ad kD) :: .int (nI 0) :: .ref (ad kS) :: rest)) := by
  have z0 : (nI 0).toNatClampNeg = 0 := nI_clamp (by decide)
  have zn : (nI n).toNatClampNeg = n := nI_clamp hn
  refine va_copyi hx hb hml hown hlink hnat hstat hini hK hP (iA_D hDi) hS kS kD 0 0 (iW_at hkS hFS) (iW_at hkD hFD) (ty := .int) rfl rfl rfl (nI_pos (by decide)) (nI_pos (by decide)) (nI_pos hn) (by rw [z0, zn]; omega) (by rw [z0, zn]; omega) (fun _ _ => rfl) hframes (by rw [nfw]; exact hlocals) hdg (fun H1 locs1 hP1 hD1 hS1 => kk H1 locs1 ?_ hS1)
  rw [z0, zn, iW_set hkD] at hP1
  subst hcan
  refine iW_ext hP1 (fun k _ => ?_)
  by_cases e9 : k = kD
  · subst e9
    refine Or.inr ⟨cI, n, _, f, va_up_self _ _ _, va_up_self _ _ _, fun j hj => ?_⟩
    have := pk_cpy_in (f := f) (g := g) (sp := 0) (dp := 0) (n := n) (j := j) (Nat.zero_le _) (by omega)
    rw [this]
    congr 1
    omega
  · exact Or.inl (by rw [va_up_ne _ _ e9, va_up_ne _ _ e9])
end CPY
-- what the mat's writers do
def scl (v : Nat → Int32) (q : Int32) : Nat → (Nat → Int32) → Int32 → (Nat → Int32)
  | 0, c, _ => c
  | n + 1, c, x => if wk x = true then scl v q n (upd c (ix x) q) (v (ix x)) else c
def sep : Nat → (Nat → Int32) → (Nat → Int32) → Int32 → (Nat → Int32) × (Nat → Int32)
  | 0, b, v, _ => (b, v)
  | n + 1, b, v, x => if wk x = true then sep n (upd b (ix x) (-1)) (upd v (ix x) (-1)) (v (ix x)) else (b, v)
def cutv (b v : Nat → Int32) (w : Nat) : Nat → Int32 := if wk (b w) = true then upd v (ix (b w)) (-1) else v
def mov1 (c b v : Nat → Int32) (w : Nat) (q : Int32) : Nat → Int32 := if q = nI 84 then scl (cutv b v w) (-1) 16 c (nI w) else scl (cutv b v w) q 16 (scl (cutv b v w) (-1) 16 c (nI w)) (nI w)
def movt (c b v : Nat → Int32) (w : Nat) (q : Int32) : Int32 := top (scl (cutv b v w) (-1) 16 c (nI w)) (cutv b v w) q
def mov2 (c b v : Nat → Int32) (w : Nat) (q : Int32) : Nat → Int32 := if q = nI 84 then (sep 16 b (cutv b v w) (nI w)).1 else upd b w (movt c b v w q)
def mov3 (c b v : Nat → Int32) (w : Nat) (q : Int32) : Nat → Int32 := if q = nI 84 then (sep 16 b (cutv b v w) (nI w)).2 else if wk (movt c b v w q) = true then upd (cutv b v w) (ix (movt c b v w q)) (nI w) else cutv b v w
end
section
set_option maxRecDepth 100000 in
set_option maxHeartbeats 4000000 in
theorem tX1_setCells (l : Launch) (D : va_G) (cI cQ cL : ClassId) (ad : Nat → Nat) (N : Nat) (F : Nat → va_E) (k : Nat) (hk : k + 3 < N) (c b v : Nat → Int32) (hM : matAt cI ad F k c b v) (x : Int32) (w : Nat) (hxw : x = nI w) (hw : w < 16) (q : Int32) : MX l yX1_setCells (Cond.code yX1_setCells cX1_setCells 5 none :: AW) ({ frames := 1, cells := 0, slots := 0, locals := 20 } : Room) D cI cQ cL ad N F [.ref (ad k), .int x, .int q] (dp none (mSet cI F k (scl v q 16 c (nI w)) b v)) 0 0 := by
  refine mx_v (by decide +kernel) rfl (Nat.le_of_ble_eq_true rfl) (fun p e s m below meth cd Q ls hx hb hml hown hts hDi hP hK hNW hS hret hl => ?_)
  have hown : s.vm.findClass RX1 = some m.cls := hown
  subst hxw
  have hk0 : k < N := by omega
  have hk1 : k + 1 < N := by omega
  have hk2 : k + 2 < N := by omega
  have hk3 : k + 3 < N := hk
  have hP : va_P D vwCl (iW ad N (mSet cI F k c b v)) s.heap := by rw [mSet_self hM]; exact hP
  have hl : lv_has ls 5 [(0, .ref (ad k)), (1, .int (nI w)), (2, .int q)] := hl
  refine lv_iload_n hx hb (dk kX1_setCells_ok 0 rfl) rfl (lv_at hl 1 rfl) ?_
  refine lv_istore_n (lv' := [(3, .int (nI w)), (0, .ref (ad k)), (1, .int (nI w)), (2, .int q)]) hx hb (dk kX1_setCells_ok 1 rfl) rfl hl (by decide) rfl (fun ls hl => ?_)
  refine lv_iconst (v := nI 0) hx hb (dk kX1_setCells_ok 2 rfl) rfl ?_
  refine lv_istore (lv' := [(4, .int (nI 0)), (3, .int (nI w)), (0, .ref (ad k)), (1, .int (nI w)), (2, .int q)]) hx hb (dk kX1_setCells_ok 3 rfl) hl (by decide) rfl (fun ls hl => ?_)
  have L5 : ∀ (fu : Nat) (i : Nat) (x : Int32) (c2 : Nat → Int32) (H : Heap) (locs : List Loc), va_P D vwCl (iW ad N (mSet cI F k c2 b v)) H → va_S (iA ad N s.heap.size) s.heap H locs → i ≤ 16 → scl v q 16 c (nI w) = scl v q (16 - i) c2 x → 16 - i < fu → ∀ ls : Array Slot, lv_has ls 5 [(0, .ref (ad k)), (1, .int (nI w)), (2, .int q), (3, .int x), (4, .int (nI i))] → W p l e ({ frames := 1, cells := 0, slots := 0, locals := 20 } : Room) s m ([.ref (ad k), .int (nI w), .int q] : List Value).toArray below meth cd H locs 0 0 Q (F0 m 5 ls []) := by
    intro fu
    induction fu with
    | zero => intros; omega
    | succ fu ih5 =>
      intro i x c2 H locs hP hS hi hr hm5 ls hl
      refine lv_iload hx hb (dk kX1_setCells_ok 4 rfl) (lv_at hl 4 rfl) ?_
      refine lv_bipush (v := nI 16) hx hb (dk kX1_setCells_ok 5 rfl) rfl ?_
      refine n_icmp_ge (tgt := 39) hx hb (by omega) (by decide) (dk kX1_setCells_ok 6 rfl) (by decide) (fun h1 => ?_) (fun h1 => ?_)
      · skip
        exact hret _ _ _ _ _ _ _ (by refine ⟨rfl, ?_⟩; first | (rw [hr, show 16 - i = (16 - (i + 1)) + 1 by omega]; simp [scl, h1]; done) | (rw [hr, show 16 - i = 0 by omega]; rfl)) hP hS (by decide) (by decide) (dk kX1_setCells_ok 22 rfl)
      · skip
        refine lv_iload_n hx hb (dk kX1_setCells_ok 7 rfl) rfl (lv_at hl 3 rfl) ?_
        refine csPN (As := [.int x]) (rest := []) ⟨hx, hb, hml, hown, hts⟩ (tX5_isWink l x) (cwN9 1 hts mcX5_isWink (nm7 hNW) mini_RX5 rfl rfl hdX5_isWink ⟨Nat.le_of_ble_eq_true rfl, Nat.le_of_ble_eq_true rfl⟩) (hts _ (List.mem_cons_of_mem _ msX5_isWink)) rfl hl.1 rfl (Nat.le_of_ble_eq_true rfl) (by decide) (dk kX1_setCells_ok 8 rfl) ?_
        refine b_if_eq (tgt := 39) hx hb (dk kX1_setCells_ok 9 rfl) (by decide) (fun h2 => ?_) (fun h2 => ?_)
        · skip
          exact hret _ _ _ _ _ _ _ (by refine ⟨rfl, ?_⟩; first | (rw [hr, show 16 - i = (16 - (i + 1)) + 1 by omega]; simp [scl, h1, h2]; done) | (rw [hr, show 16 - i = 0 by omega]; rfl)) hP hS (by decide) (by decide) (dk kX1_setCells_ok 22 rfl)
        · skip
          refine lv_aload_n hx hb (dk kX1_setCells_ok 10 rfl) rfl (lv_at hl 0 rfl) ?_
          refine gf hx hb hts (fun w h => List.mem_cons_of_mem _ (acX1 w h)) hown hK hP hk0 (mSet_at hM).1 rfl 0 (by decide) (hts _ (List.mem_cons_of_mem _ (ac0 _ (List.mem_of_getElem? (i := 22) rfl)))) (fun _ h => h) rfl (dk kX1_setCells_ok 11 rfl) ?_
          refine lv_iload_n hx hb (dk kX1_setCells_ok 12 rfl) rfl (lv_at hl 3 rfl) ?_
          refine lv_iload_n hx hb (dk kX1_setCells_ok 13 rfl) rfl (lv_at hl 2 rfl) ?_
          refine ast (mSet cI F k (upd c2 (ix x) q) b v) (j := (ix x)) hx hb hK hDi hP hS hk1 (mSet_at hM).2.1 (wk_eq h2) (wk_lt h2) (by decide) (dk kX1_setCells_ok 14 rfl) mSet_c (fun H locs hP hS => ?_)
          refine lv_aload_n hx hb (dk kX1_setCells_ok 15 rfl) rfl (lv_at hl 0 rfl) ?_
          refine gf hx hb hts (fun w h => List.mem_cons_of_mem _ (acX1 w h)) hown hK hP hk0 (mSet_at hM).1 rfl 2 (by decide) (hts _ (List.mem_cons_of_mem _ (ac1 _ (List.mem_of_getElem? (i := 0) rfl)))) (fun _ h => h) rfl (dk kX1_setCells_ok 16 rfl) ?_
          refine lv_iload_n hx hb (dk kX1_setCells_ok 17 rfl) rfl (lv_at hl 3 rfl) ?_
          refine ald (j := (ix x)) hx hb hK hP hk3 (mSet_at hM).2.2.2 (wk_eq h2) (wk_lt h2) (by decide) (dk kX1_setCells_ok 18 rfl) ?_
          refine lv_istore_n (lv' := [(3, .int (v (ix x))), (0, .ref (ad k)), (1, .int (nI w)), (2, .int q), (4, .int (nI i))]) hx hb (dk kX1_setCells_ok 19 rfl) rfl hl (by decide) rfl (fun ls hl => ?_)
          refine lv_iinc (v := nI (i + 1)) (lv' := [(4, .int (nI (i + 1))), (3, .int (v (ix x))), (0, .ref (ad k)), (1, .int (nI w)), (2, .int q)]) hx hb (dk kX1_setCells_ok 20 rfl) hl (k := 4) rfl (n_inc _) (by decide) rfl (fun ls hl => ?_)
          refine lv_goto (tgt := 5) hx hb (dk kX1_setCells_ok 21 rfl) (by decide) ?_
          exact ih5 (i + 1) (v (ix x)) (upd c2 (ix x) q) _ _ hP hS (by omega) (by rw [hr, show 16 - i = (16 - (i + 1)) + 1 by omega]; simp [scl, h1, h2]) (by omega) ls (lv_sub hl [2, 3, 4, 1, 0] rfl)
  exact L5 _ 0 (nI w) c _ _ hP hS (by first | omega | rfl) (by first | omega | rfl) (Nat.lt_succ_self _) ls (lv_sub hl [2, 3, 4, 1, 0] rfl)
set_option maxRecDepth 100000 in
set_option maxHeartbeats 4000000 in
theorem tX1_separate (l : Launch) (D : va_G) (cI cQ cL : ClassId) (ad : Nat → Nat) (N : Nat) (F : Nat → va_E) (k : Nat) (hk : k + 3 < N) (c b v : Nat → Int32) (hM : matAt cI ad F k c b v) (x : Int32) (w : Nat) (hxw : x = nI w) (hw : w < 16) : MX l yX1_separate (Cond.code yX1_separate cX1_separate 5 none :: AW) ({ frames := 1, cells := 0, slots := 0, locals := 20 } : Room) D cI cQ cL ad N F [.ref (ad k), .int x] (dp none (mSet cI F k c ((sep 16 b v (nI w)).1) ((sep 16 b v (nI w)).2))) 0 0 := by
  refine mx_v (by decide +kernel) rfl (Nat.le_of_ble_eq_true rfl) (fun p e s m below meth cd Q ls hx hb hml hown hts hDi hP hK hNW hS hret hl => ?_)
  have hown : s.vm.findClass RX1 = some m.cls := hown
  subst hxw
  have hk0 : k < N := by omega
  have hk1 : k + 1 < N := by omega
  have hk2 : k + 2 < N := by omega
  have hk3 : k + 3 < N := hk
  have hP : va_P D vwCl (iW ad N (mSet cI F k c b v)) s.heap := by rw [mSet_self hM]; exact hP
  have hl : lv_has ls 5 [(0, .ref (ad k)), (1, .int (nI w))] := hl
  refine lv_iload_n hx hb (dk kX1_separate_ok 0 rfl) rfl (lv_at hl 1 rfl) ?_
  refine lv_istore_n (lv' := [(2, .int (nI w)), (0, .ref (ad k)), (1, .int (nI w))]) hx hb (dk kX1_separate_ok 1 rfl) rfl hl (by decide) rfl (fun ls hl => ?_)
  refine lv_iconst (v := nI 0) hx hb (dk kX1_separate_ok 2 rfl) rfl ?_
  refine lv_istore_n (lv' := [(3, .int (nI 0)), (2, .int (nI w)), (0, .ref (ad k)), (1, .int (nI w))]) hx hb (dk kX1_separate_ok 3 rfl) rfl hl (by decide) rfl (fun ls hl => ?_)
  have L4 : ∀ (fu : Nat) (i : Nat) (x : Int32) (b2 v2 : Nat → Int32) (H : Heap) (locs : List Loc), va_P D vwCl (iW ad N (mSet cI F k c b2 v2)) H → va_S (iA ad N s.heap.size) s.heap H locs → i ≤ 16 → sep 16 b v (nI w) = sep (16 - i) b2 v2 x → 16 - i < fu → ∀ ls : Array Slot, lv_has ls 5 [(0, .ref (ad k)), (1, .int (nI w)), (2, .int x), (3, .int (nI i))] → W p l e ({ frames := 1, cells := 0, slots := 0, locals := 20 } : Room) s m ([.ref (ad k), .int (nI w)] : List Value).toArray below meth cd H locs 0 0 Q (F0 m 4 ls []) := by
    intro fu
    induction fu with
    | zero => intros; omega
    | succ fu ih4 =>
      intro i x b2 v2 H locs hP hS hi hr hm4 ls hl
      refine lv_iload_n hx hb (dk kX1_separate_ok 4 rfl) rfl (lv_at hl 3 rfl) ?_
      refine lv_bipush (v := nI 16) hx hb (dk kX1_separate_ok 5 rfl) rfl ?_
      refine n_icmp_ge (tgt := 48) hx hb (by omega) (by decide) (dk kX1_separate_ok 6 rfl) (by decide) (fun h1 => ?_) (fun h1 => ?_)
      · skip
        exact hret _ _ _ _ _ _ _ (by refine ⟨rfl, ?_⟩; first | (rw [hr, show 16 - i = (16 - (i + 1)) + 1 by omega]; simp [sep, h1]; done) | (rw [hr, show 16 - i = 0 by omega]; rfl)) hP hS (by decide) (by decide) (dk kX1_separate_ok 29 rfl)
      · skip
        refine lv_iload_n hx hb (dk kX1_separate_ok 7 rfl) rfl (lv_at hl 2 rfl) ?_
        refine csPN (As := [.int x]) (rest := []) ⟨hx, hb, hml, hown, hts⟩ (tX5_isWink l x) (cwN9 1 hts mcX5_isWink (nm7 hNW) mini_RX5 rfl rfl hdX5_isWink ⟨Nat.le_of_ble_eq_true rfl, Nat.le_of_ble_eq_true rfl⟩) (hts _ (List.mem_cons_of_mem _ msX5_isWink)) rfl hl.1 rfl (Nat.le_of_ble_eq_true rfl) (by decide) (dk kX1_separate_ok 8 rfl) ?_
        refine b_if_eq (tgt := 48) hx hb (dk kX1_separate_ok 9 rfl) (by decide) (fun h2 => ?_) (fun h2 => ?_)
        · skip
          exact hret _ _ _ _ _ _ _ (by refine ⟨rfl, ?_⟩; first | (rw [hr, show 16 - i = (16 - (i + 1)) + 1 by omega]; simp [sep, h1, h2]; done) | (rw [hr, show 16 - i = 0 by omega]; rfl)) hP hS (by decide) (by decide) (dk kX1_separate_ok 29 rfl)
        · skip
          refine lv_aload_n hx hb (dk kX1_separate_ok 10 rfl) rfl (lv_at hl 0 rfl) ?_
          refine gf hx hb hts (fun w h => List.mem_cons_of_mem _ (acX1 w h)) hown hK hP hk0 (mSet_at hM).1 rfl 2 (by decide) (hts _ (List.mem_cons_of_mem _ (ac1 _ (List.mem_of_getElem? (i := 0) rfl)))) (fun _ h => h) rfl (dk kX1_separate_ok 11 rfl) ?_
          refine lv_iload_n hx hb (dk kX1_separate_ok 12 rfl) rfl (lv_at hl 2 rfl) ?_
          refine ald (j := (ix x)) hx hb hK hP hk3 (mSet_at hM).2.2.2 (wk_eq h2) (wk_lt h2) (by decide) (dk kX1_separate_ok 13 rfl) ?_
          refine lv_istore (lv' := [(4, .int (v2 (ix x))), (0, .ref (ad k)), (1, .int (nI w)), (2, .int x), (3, .int (nI i))]) hx hb (dk kX1_separate_ok 14 rfl) hl (by decide) rfl (fun ls hl => ?_)
          refine lv_aload_n hx hb (dk kX1_separate_ok 15 rfl) rfl (lv_at hl 1 rfl) ?_
          refine gf hx hb hts (fun w h => List.mem_cons_of_mem _ (acX1 w h)) hown hK hP hk0 (mSet_at hM).1 rfl 1 (by decide) (hts _ (List.mem_cons_of_mem _ (ac0 _ (List.mem_of_getElem? (i := 23) rfl)))) (fun _ h => h) rfl (dk kX1_separate_ok 16 rfl) ?_
          refine lv_iload_n hx hb (dk kX1_separate_ok 17 rfl) rfl (lv_at hl 3 rfl) ?_
          refine lv_iconst (v := -1) hx hb (dk kX1_separate_ok 18 rfl) rfl ?_
          refine ast (mSet cI F k c (upd b2 (ix x) (-1)) v2) (j := (ix x)) hx hb hK hDi hP hS hk2 (mSet_at hM).2.2.1 (wk_eq h2) (wk_lt h2) (by decide) (dk kX1_separate_ok 19 rfl) mSet_b (fun H locs hP hS => ?_)
          refine lv_aload_n hx hb (dk kX1_separate_ok 20 rfl) rfl (lv_at hl 1 rfl) ?_
          refine gf hx hb hts (fun w h => List.mem_cons_of_mem _ (acX1 w h)) hown hK hP hk0 (mSet_at hM).1 rfl 2 (by decide) (hts _ (List.mem_cons_of_mem _ (ac1 _ (List.mem_of_getElem? (i := 0) rfl)))) (fun _ h => h) rfl (dk kX1_separate_ok 21 rfl) ?_
          refine lv_iload_n hx hb (dk kX1_separate_ok 22 rfl) rfl (lv_at hl 3 rfl) ?_
          refine lv_iconst (v := -1) hx hb (dk kX1_separate_ok 23 rfl) rfl ?_
          refine ast (mSet cI F k c (upd b2 (ix x) (-1)) (upd v2 (ix x) (-1))) (j := (ix x)) hx hb hK hDi hP hS hk3 (mSet_at hM).2.2.2 (wk_eq h2) (wk_lt h2) (by decide) (dk kX1_separate_ok 24 rfl) mSet_v (fun H locs hP hS => ?_)
          refine lv_iload hx hb (dk kX1_separate_ok 25 rfl) (lv_at hl 0 rfl) ?_
          refine lv_istore_n (lv' := [(2, .int (v2 (ix x))), (4, .int (v2 (ix x))), (0, .ref (ad k)), (1, .int (nI w)), (3, .int (nI i))]) hx hb (dk kX1_separate_ok 26 rfl) rfl hl (by decide) rfl (fun ls hl => ?_)
          refine lv_iinc (v := nI (i + 1)) (lv' := [(3, .int (nI (i + 1))), (2, .int (v2 (ix x))), (4, .int (v2 (ix x))), (0, .ref (ad k)), (1, .int (nI w))]) hx hb (dk kX1_separate_ok 27 rfl) hl (k := 4) rfl (n_inc _) (by decide) rfl (fun ls hl => ?_)
          refine lv_goto (tgt := 4) hx hb (dk kX1_separate_ok 28 rfl) (by decide) ?_
          exact ih4 (i + 1) (v2 (ix x)) (upd b2 (ix x) (-1)) (upd v2 (ix x) (-1)) _ _ hP hS (by omega) (by rw [hr, show 16 - i = (16 - (i + 1)) + 1 by omega]; simp [sep, h1, h2]) (by omega) ls (lv_sub hl [3, 4, 1, 0] rfl)
  exact L4 _ 0 (nI w) b v _ _ hP hS (by first | omega | rfl) (by first | omega | rfl) (Nat.lt_succ_self _) ls (lv_sub hl [2, 3, 1, 0] rfl)
set_option maxRecDepth 100000 in
set_option maxHeartbeats 4000000 in
theorem tX1_move (l : Launch) (D : va_G) (cI cQ cL : ClassId) (ad : Nat → Nat) (N : Nat) (F : Nat → va_E) (k : Nat) (hk : k + 3 < N) (c b v : Nat → Int32) (hM : matAt cI ad F k c b v) (x : Int32) (w : Nat) (hxw : x = nI w) (hw : w < 16) (q : Int32) : MX l yX1_move (Cond.code yX1_move cX1_move 5 none :: AW) ({ frames := 2, cells := 0, slots := 0, locals := 44 } : Room) D cI cQ cL ad N F [.ref (ad k), .int x, .int q] (dp none (mSet cI F k (mov1 c b v w q) (mov2 c b v w q) (mov3 c b v w q))) 0 0 := by
  refine mx_v (by decide +kernel) rfl (Nat.le_of_ble_eq_true rfl) (fun p e s m below meth cd Q ls hx hb hml hown hts hDi hP hK hNW hS hret hl => ?_)
  have hown : s.vm.findClass RX1 = some m.cls := hown
  subst hxw
  have hk0 : k < N := by omega
  have hk1 : k + 1 < N := by omega
  have hk2 : k + 2 < N := by omega
  have hk3 : k + 3 < N := hk
  have hP : va_P D vwCl (iW ad N (mSet cI F k c b v)) s.heap := by rw [mSet_self hM]; exact hP
  have hl : lv_has ls 5 [(0, .ref (ad k)), (1, .int (nI w)), (2, .int q)] := hl
  refine lv_aload_n hx hb (dk kX1_move_ok 0 rfl) rfl (lv_at hl 0 rfl) ?_
  refine gf hx hb hts (fun w h => List.mem_cons_of_mem _ (acX1 w h)) hown hK hP hk0 (mSet_at hM).1 rfl 1 (by decide) (hts _ (List.mem_cons_of_mem _ (ac0 _ (List.mem_of_getElem? (i := 23) rfl)))) (fun _ h => h) rfl (dk kX1_move_ok 1 rfl) ?_
  refine lv_iload_n hx hb (dk kX1_move_ok 2 rfl) rfl (lv_at hl 1 rfl) ?_
  refine ald (j := w) hx hb hK hP hk2 (mSet_at hM).2.2.1 rfl (by omega) (by decide) (dk kX1_move_ok 3 rfl) ?_
  refine lv_istore_n (lv' := [(3, .int (b w)), (0, .ref (ad k)), (1, .int (nI w)), (2, .int q)]) hx hb (dk kX1_move_ok 4 rfl) rfl hl (by decide) rfl (fun ls hl => ?_)
  refine lv_iload_n hx hb (dk kX1_move_ok 5 rfl) rfl (lv_at hl 0 rfl) ?_
  refine csPN (As := [.int (b w)]) (rest := []) ⟨hx, hb, hml, hown, hts⟩ (tX5_isWink l (b w)) (cwN9 1 hts mcX5_isWink (nm7 hNW) mini_RX5 rfl rfl hdX5_isWink ⟨Nat.le_of_ble_eq_true rfl, Nat.le_of_ble_eq_true rfl⟩) (hts _ (List.mem_cons_of_mem _ msX5_isWink)) rfl hl.1 rfl (Nat.le_of_ble_eq_true rfl) (by decide) (dk kX1_move_ok 6 rfl) ?_
  refine b_if_eq (tgt := 21) hx hb (dk kX1_move_ok 7 rfl) (by decide) (fun h1 => ?_) (fun h1 => ?_)
  · skip
    refine lv_aload_n hx hb (dk kX1_move_ok 13 rfl) rfl (lv_at hl 1 rfl) ?_
    refine lv_iload_n hx hb (dk kX1_move_ok 14 rfl) rfl (lv_at hl 2 rfl) ?_
    refine lv_iconst (v := -1) hx hb (dk kX1_move_ok 15 rfl) rfl ?_
    refine cvDv (As := [.int (nI w), .int (-1)]) (rest := []) (mSet cI F k (scl v (-1) 16 c (nI w)) b v) ⟨hx, hb, hml, hown, hts⟩ (tX1_setCells l D cI cQ cL ad N (mSet cI F k c b v) k hk c b v (mSet_at hM) (nI w) w rfl (by omega) (-1)) (cwV9 2 hts mcX1_setCells (ac1 _ (List.mem_of_getElem? (i := 11) rfl)) miX1_setCells meX1_setCells mini_RX1 rfl rfl hdX1_setCells ⟨Nat.le_of_ble_eq_true rfl, Nat.le_of_ble_eq_true rfl⟩) hDi hK hP hNW hS hk0 (mSet_at hM).1 rfl rfl hl.1 rfl (Nat.le_of_ble_eq_true rfl) (by decide) (dk kX1_move_ok 16 rfl) mSet_mSet (fun H locs hP hS => ?_)
    refine lv_iload_n hx hb (dk kX1_move_ok 17 rfl) rfl (lv_at hl 3 rfl) ?_
    refine lv_bipush (v := nI 84) hx hb (dk kX1_move_ok 18 rfl) rfl ?_
    refine lv_icmp_ne (tgt := 39) hx hb (dk kX1_move_ok 19 rfl) (by decide) (fun h2 => ?_) (fun h2 => ?_)
    · skip
      refine lv_aload_n hx hb (dk kX1_move_ok 24 rfl) rfl (lv_at hl 1 rfl) ?_
      refine lv_iload_n hx hb (dk kX1_move_ok 25 rfl) rfl (lv_at hl 3 rfl) ?_
      refine cvR (As := [.int q]) (rest := []) ⟨hx, hb, hml, hown, hts⟩ (tX1_topAt l D cI cQ cL ad N (mSet cI F k (scl v (-1) 16 c (nI w)) b v) k hk (scl v (-1) 16 c (nI w)) b v (mSet_at hM) q) (cwV9 1 hts mcX1_topAt (ac1 _ (List.mem_of_getElem? (i := 20) rfl)) miX1_topAt meX1_topAt mini_RX1 rfl rfl hdX1_topAt ⟨Nat.le_of_ble_eq_true rfl, Nat.le_of_ble_eq_true rfl⟩) hK hP hNW hk0 (mSet_at hM).1 rfl rfl hl.1 rfl (Nat.le_of_ble_eq_true rfl) (by decide) (dk kX1_move_ok 26 rfl) ?_
      refine lv_istore (lv' := [(4, .int (top (scl v (-1) 16 c (nI w)) v q)), (3, .int (b w)), (0, .ref (ad k)), (1, .int (nI w)), (2, .int q)]) hx hb (dk kX1_move_ok 27 rfl) hl (by decide) rfl (fun ls hl => ?_)
      refine lv_aload_n hx hb (dk kX1_move_ok 28 rfl) rfl (lv_at hl 2 rfl) ?_
      refine lv_iload_n hx hb (dk kX1_move_ok 29 rfl) rfl (lv_at hl 3 rfl) ?_
      refine lv_iload_n hx hb (dk kX1_move_ok 30 rfl) rfl (lv_at hl 4 rfl) ?_
      refine cvDv (As := [.int (nI w), .int q]) (rest := []) (mSet cI F k (scl v q 16 (scl v (-1) 16 c (nI w)) (nI w)) b v) ⟨hx, hb, hml, hown, hts⟩ (tX1_setCells l D cI cQ cL ad N (mSet cI F k (scl v (-1) 16 c (nI w)) b v) k hk (scl v (-1) 16 c (nI w)) b v (mSet_at hM) (nI w) w rfl (by omega) q) (cwV9 2 hts mcX1_setCells (ac1 _ (List.mem_of_getElem? (i := 11) rfl)) miX1_setCells meX1_setCells mini_RX1 rfl rfl hdX1_setCells ⟨Nat.le_of_ble_eq_true rfl, Nat.le_of_ble_eq_true rfl⟩) hDi hK hP hNW hS hk0 (mSet_at hM).1 rfl rfl hl.1 rfl (Nat.le_of_ble_eq_true rfl) (by decide) (dk kX1_move_ok 31 rfl) mSet_mSet (fun H locs hP hS => ?_)
      refine lv_aload_n hx hb (dk kX1_move_ok 32 rfl) rfl (lv_at hl 2 rfl) ?_
      refine gf hx hb hts (fun w h => List.mem_cons_of_mem _ (acX1 w h)) hown hK hP hk0 (mSet_at hM).1 rfl 1 (by decide) (hts _ (List.mem_cons_of_mem _ (ac0 _ (List.mem_of_getElem? (i := 23) rfl)))) (fun _ h => h) rfl (dk kX1_move_ok 33 rfl) ?_
      refine lv_iload_n hx hb (dk kX1_move_ok 34 rfl) rfl (lv_at hl 3 rfl) ?_
      refine lv_iload hx hb (dk kX1_move_ok 35 rfl) (lv_at hl 0 rfl) ?_
      refine ast (mSet cI F k (scl v q 16 (scl v (-1) 16 c (nI w)) (nI w)) (upd b w (top (scl v (-1) 16 c (nI w)) v q)) v) (j := w) hx hb hK hDi hP hS hk2 (mSet_at hM).2.2.1 rfl (by omega) (by decide) (dk kX1_move_ok 36 rfl) mSet_b (fun H locs hP hS => ?_)
      refine lv_iload hx hb (dk kX1_move_ok 37 rfl) (lv_at hl 0 rfl) ?_
      refine csPN (As := [.int (top (scl v (-1) 16 c (nI w)) v q)]) (rest := []) ⟨hx, hb, hml, hown, hts⟩ (tX5_isWink l (top (scl v (-1) 16 c (nI w)) v q)) (cwN9 1 hts mcX5_isWink (nm7 hNW) mini_RX5 rfl rfl hdX5_isWink ⟨Nat.le_of_ble_eq_true rfl, Nat.le_of_ble_eq_true rfl⟩) (hts _ (List.mem_cons_of_mem _ msX5_isWink)) rfl hl.1 rfl (Nat.le_of_ble_eq_true rfl) (by decide) (dk kX1_move_ok 38 rfl) ?_
      refine b_if_eq (tgt := 76) hx hb (dk kX1_move_ok 39 rfl) (by decide) (fun h3 => ?_) (fun h3 => ?_)
      · skip
        exact hret _ _ _ _ _ _ _ (by refine ⟨rfl, ?_⟩; simp [mov1, mov2, mov3, movt, cutv, h1, h2, h3]) hP hS (by decide) (by decide) (dk kX1_move_ok 45 rfl)
      · skip
        refine lv_aload_n hx hb (dk kX1_move_ok 40 rfl) rfl (lv_at hl 2 rfl) ?_
        refine gf hx hb hts (fun w h => List.mem_cons_of_mem _ (acX1 w h)) hown hK hP hk0 (mSet_at hM).1 rfl 2 (by decide) (hts _ (List.mem_cons_of_mem _ (ac1 _ (List.mem_of_getElem? (i := 0) rfl)))) (fun _ h => h) rfl (dk kX1_move_ok 41 rfl) ?_
        refine lv_iload hx hb (dk kX1_move_ok 42 rfl) (lv_at hl 0 rfl) ?_
        refine lv_iload_n hx hb (dk kX1_move_ok 43 rfl) rfl (lv_at hl 3 rfl) ?_
        refine ast (mSet cI F k (scl v q 16 (scl v (-1) 16 c (nI w)) (nI w)) (upd b w (top (scl v (-1) 16 c (nI w)) v q)) (upd v (ix (top (scl v (-1) 16 c (nI w)) v q)) (nI w))) (j := (ix (top (scl v (-1) 16 c (nI w)) v q))) hx hb hK hDi hP hS hk3 (mSet_at hM).2.2.2 (wk_eq h3) (wk_lt h3) (by decide) (dk kX1_move_ok 44 rfl) mSet_v (fun H locs hP hS => ?_)
        exact hret _ _ _ _ _ _ _ (by refine ⟨rfl, ?_⟩; simp [mov1, mov2, mov3, movt, cutv, h1, h2, h3]) hP hS (by decide) (by decide) (dk kX1_move_ok 45 rfl)
    · skip
      refine lv_aload_n hx hb (dk kX1_move_ok 20 rfl) rfl (lv_at hl 1 rfl) ?_
      refine lv_iload_n hx hb (dk kX1_move_ok 21 rfl) rfl (lv_at hl 2 rfl) ?_
      refine cvDv (As := [.int (nI w)]) (rest := []) (mSet cI F k (scl v (-1) 16 c (nI w)) ((sep 16 b v (nI w)).1) ((sep 16 b v (nI w)).2)) ⟨hx, hb, hml, hown, hts⟩ (tX1_separate l D cI cQ cL ad N (mSet cI F k (scl v (-1) 16 c (nI w)) b v) k hk (scl v (-1) 16 c (nI w)) b v (mSet_at hM) (nI w) w rfl (by omega)) (cwV9 1 hts mcX1_separate (ac1 _ (List.mem_of_getElem? (i := 16) rfl)) miX1_separate meX1_separate mini_RX1 rfl rfl hdX1_separate ⟨Nat.le_of_ble_eq_true rfl, Nat.le_of_ble_eq_true rfl⟩) hDi hK hP hNW hS hk0 (mSet_at hM).1 rfl rfl hl.1 rfl (Nat.le_of_ble_eq_true rfl) (by decide) (dk kX1_move_ok 22 rfl) mSet_mSet (fun H locs hP hS => ?_)
      exact hret _ _ _ _ _ _ _ (by refine ⟨rfl, ?_⟩; simp [mov1, mov2, mov3, movt, cutv, h1, h2]) hP hS (by decide) (by decide) (dk kX1_move_ok 23 rfl)
  · skip
    refine lv_aload_n hx hb (dk kX1_move_ok 8 rfl) rfl (lv_at hl 1 rfl) ?_
    refine gf hx hb hts (fun w h => List.mem_cons_of_mem _ (acX1 w h)) hown hK hP hk0 (mSet_at hM).1 rfl 2 (by decide) (hts _ (List.mem_cons_of_mem _ (ac1 _ (List.mem_of_getElem? (i := 0) rfl)))) (fun _ h => h) rfl (dk kX1_move_ok 9 rfl) ?_
    refine lv_iload_n hx hb (dk kX1_move_ok 10 rfl) rfl (lv_at hl 0 rfl) ?_
    refine lv_iconst (v := -1) hx hb (dk kX1_move_ok 11 rfl) rfl ?_
    refine ast (mSet cI F k c b (upd v (ix (b w)) (-1))) (j := (ix (b w))) hx hb hK hDi hP hS hk3 (mSet_at hM).2.2.2 (wk_eq h1) (wk_lt h1) (by decide) (dk kX1_move_ok 12 rfl) mSet_v (fun H locs hP hS => ?_)
    refine lv_aload_n hx hb (dk kX1_move_ok 13 rfl) rfl (lv_at hl 1 rfl) ?_
    refine lv_iload_n hx hb (dk kX1_move_ok 14 rfl) rfl (lv_at hl 2 rfl) ?_
    refine lv_iconst (v := -1) hx hb (dk kX1_move_ok 15 rfl) rfl ?_
    refine cvDv (As := [.int (nI w), .int (-1)]) (rest := []) (mSet cI F k (scl (upd v (ix (b w)) (-1)) (-1) 16 c (nI w)) b (upd v (ix (b w)) (-1))) ⟨hx, hb, hml, hown, hts⟩ (tX1_setCells l D cI cQ cL ad N (mSet cI F k c b (upd v (ix (b w)) (-1))) k hk c b (upd v (ix (b w)) (-1)) (mSet_at hM) (nI w) w rfl (by omega) (-1)) (cwV9 2 hts mcX1_setCells (ac1 _ (List.mem_of_getElem? (i := 11) rfl)) miX1_setCells meX1_setCells mini_RX1 rfl rfl hdX1_setCells ⟨Nat.le_of_ble_eq_true rfl, Nat.le_of_ble_eq_true rfl⟩) hDi hK hP hNW hS hk0 (mSet_at hM).1 rfl rfl hl.1 rfl (Nat.le_of_ble_eq_true rfl) (by decide) (dk kX1_move_ok 16 rfl) mSet_mSet (fun H locs hP hS => ?_)
    refine lv_iload_n hx hb (dk kX1_move_ok 17 rfl) rfl (lv_at hl 3 rfl) ?_
    refine lv_bipush (v := nI 84) hx hb (dk kX1_move_ok 18 rfl) rfl ?_
    refine lv_icmp_ne (tgt := 39) hx hb (dk kX1_move_ok 19 rfl) (by decide) (fun h4 => ?_) (fun h4 => ?_)
    · skip
      refine lv_aload_n hx hb (dk kX1_move_ok 24 rfl) rfl (lv_at hl 1 rfl) ?_
      refine lv_iload_n hx hb (dk kX1_move_ok 25 rfl) rfl (lv_at hl 3 rfl) ?_
      refine cvR (As := [.int q]) (rest := []) ⟨hx, hb, hml, hown, hts⟩ (tX1_topAt l D cI cQ cL ad N (mSet cI F k (scl (upd v (ix (b w)) (-1)) (-1) 16 c (nI w)) b (upd v (ix (b w)) (-1))) k hk (scl (upd v (ix (b w)) (-1)) (-1) 16 c (nI w)) b (upd v (ix (b w)) (-1)) (mSet_at hM) q) (cwV9 1 hts mcX1_topAt (ac1 _ (List.mem_of_getElem? (i := 20) rfl)) miX1_topAt meX1_topAt mini_RX1 rfl rfl hdX1_topAt ⟨Nat.le_of_ble_eq_true rfl, Nat.le_of_ble_eq_true rfl⟩) hK hP hNW hk0 (mSet_at hM).1 rfl rfl hl.1 rfl (Nat.le_of_ble_eq_true rfl) (by decide) (dk kX1_move_ok 26 rfl) ?_
      refine lv_istore (lv' := [(4, .int (top (scl (upd v (ix (b w)) (-1)) (-1) 16 c (nI w)) (upd v (ix (b w)) (-1)) q)), (3, .int (b w)), (0, .ref (ad k)), (1, .int (nI w)), (2, .int q)]) hx hb (dk kX1_move_ok 27 rfl) hl (by decide) rfl (fun ls hl => ?_)
      refine lv_aload_n hx hb (dk kX1_move_ok 28 rfl) rfl (lv_at hl 2 rfl) ?_
      refine lv_iload_n hx hb (dk kX1_move_ok 29 rfl) rfl (lv_at hl 3 rfl) ?_
      refine lv_iload_n hx hb (dk kX1_move_ok 30 rfl) rfl (lv_at hl 4 rfl) ?_
      refine cvDv (As := [.int (nI w), .int q]) (rest := []) (mSet cI F k (scl (upd v (ix (b w)) (-1)) q 16 (scl (upd v (ix (b w)) (-1)) (-1) 16 c (nI w)) (nI w)) b (upd v (ix (b w)) (-1))) ⟨hx, hb, hml, hown, hts⟩ (tX1_setCells l D cI cQ cL ad N (mSet cI F k (scl (upd v (ix (b w)) (-1)) (-1) 16 c (nI w)) b (upd v (ix (b w)) (-1))) k hk (scl (upd v (ix (b w)) (-1)) (-1) 16 c (nI w)) b (upd v (ix (b w)) (-1)) (mSet_at hM) (nI w) w rfl (by omega) q) (cwV9 2 hts mcX1_setCells (ac1 _ (List.mem_of_getElem? (i := 11) rfl)) miX1_setCells meX1_setCells mini_RX1 rfl rfl hdX1_setCells ⟨Nat.le_of_ble_eq_true rfl, Nat.le_of_ble_eq_true rfl⟩) hDi hK hP hNW hS hk0 (mSet_at hM).1 rfl rfl hl.1 rfl (Nat.le_of_ble_eq_true rfl) (by decide) (dk kX1_move_ok 31 rfl) mSet_mSet (fun H locs hP hS => ?_)
      refine lv_aload_n hx hb (dk kX1_move_ok 32 rfl) rfl (lv_at hl 2 rfl) ?_
      refine gf hx hb hts (fun w h => List.mem_cons_of_mem _ (acX1 w h)) hown hK hP hk0 (mSet_at hM).1 rfl 1 (by decide) (hts _ (List.mem_cons_of_mem _ (ac0 _ (List.mem_of_getElem? (i := 23) rfl)))) (fun _ h => h) rfl (dk kX1_move_ok 33 rfl) ?_
      refine lv_iload_n hx hb (dk kX1_move_ok 34 rfl) rfl (lv_at hl 3 rfl) ?_
      refine lv_iload hx hb (dk kX1_move_ok 35 rfl) (lv_at hl 0 rfl) ?_
      refine ast (mSet cI F k (scl (upd v (ix (b w)) (-1)) q 16 (scl (upd v (ix (b w)) (-1)) (-1) 16 c (nI w)) (nI w)) (upd b w (top (scl (upd v (ix (b w)) (-1)) (-1) 16 c (nI w)) (upd v (ix (b w)) (-1)) q)) (upd v (ix (b w)) (-1))) (j := w) hx hb hK hDi hP hS hk2 (mSet_at hM).2.2.1 rfl (by omega) (by decide) (dk kX1_move_ok 36 rfl) mSet_b (fun H locs hP hS => ?_)
      refine lv_iload hx hb (dk kX1_move_ok 37 rfl) (lv_at hl 0 rfl) ?_
      refine csPN (As := [.int (top (scl (upd v (ix (b w)) (-1)) (-1) 16 c (nI w)) (upd v (ix (b w)) (-1)) q)]) (rest := []) ⟨hx, hb, hml, hown, hts⟩ (tX5_isWink l (top (scl (upd v (ix (b w)) (-1)) (-1) 16 c (nI w)) (upd v (ix (b w)) (-1)) q)) (cwN9 1 hts mcX5_isWink (nm7 hNW) mini_RX5 rfl rfl hdX5_isWink ⟨Nat.le_of_ble_eq_true rfl, Nat.le_of_ble_eq_true rfl⟩) (hts _ (List.mem_cons_of_mem _ msX5_isWink)) rfl hl.1 rfl (Nat.le_of_ble_eq_true rfl) (by decide) (dk kX1_move_ok 38 rfl) ?_
      refine b_if_eq (tgt := 76) hx hb (dk kX1_move_ok 39 rfl) (by decide) (fun h5 => ?_) (fun h5 => ?_)
      · skip
        exact hret _ _ _ _ _ _ _ (by refine ⟨rfl, ?_⟩; simp [mov1, mov2, mov3, movt, cutv, h1, h4, h5]) hP hS (by decide) (by decide) (dk kX1_move_ok 45 rfl)
      · skip
        refine lv_aload_n hx hb (dk kX1_move_ok 40 rfl) rfl (lv_at hl 2 rfl) ?_
        refine gf hx hb hts (fun w h => List.mem_cons_of_mem _ (acX1 w h)) hown hK hP hk0 (mSet_at hM).1 rfl 2 (by decide) (hts _ (List.mem_cons_of_mem _ (ac1 _ (List.mem_of_getElem? (i := 0) rfl)))) (fun _ h => h) rfl (dk kX1_move_ok 41 rfl) ?_
        refine lv_iload hx hb (dk kX1_move_ok 42 rfl) (lv_at hl 0 rfl) ?_
        refine lv_iload_n hx hb (dk kX1_move_ok 43 rfl) rfl (lv_at hl 3 rfl) ?_
        refine ast (mSet cI F k (scl (upd v (ix (b w)) (-1)) q 16 (scl (upd v (ix (b w)) (-1)) (-1) 16 c (nI w)) (nI w)) (upd b w (top (scl (upd v (ix (b w)) (-1)) (-1) 16 c (nI w)) (upd v (ix (b w)) (-1)) q)) (upd (upd v (ix (b w)) (-1)) (ix (top (scl (upd v (ix (b w)) (-1)) (-1) 16 c (nI w)) (upd v (ix (b w)) (-1)) q)) (nI w))) (j := (ix (top (scl (upd v (ix (b w)) (-1)) (-1) 16 c (nI w)) (upd v (ix (b w)) (-1)) q))) hx hb hK hDi hP hS hk3 (mSet_at hM).2.2.2 (wk_eq h5) (wk_lt h5) (by decide) (dk kX1_move_ok 44 rfl) mSet_v (fun H locs hP hS => ?_)
        exact hret _ _ _ _ _ _ _ (by refine ⟨rfl, ?_⟩; simp [mov1, mov2, mov3, movt, cutv, h1, h4, h5]) hP hS (by decide) (by decide) (dk kX1_move_ok 45 rfl)
    · skip
      refine lv_aload_n hx hb (dk kX1_move_ok 20 rfl) rfl (lv_at hl 1 rfl) ?_
      refine lv_iload_n hx hb (dk kX1_move_ok 21 rfl) rfl (lv_at hl 2 rfl) ?_
      refine cvDv (As := [.int (nI w)]) (rest := []) (mSet cI F k (scl (upd v (ix (b w)) (-1)) (-1) 16 c (nI w)) ((sep 16 b (upd v (ix (b w)) (-1)) (nI w)).1) ((sep 16 b (upd v (ix (b w)) (-1)) (nI w)).2)) ⟨hx, hb, hml, hown, hts⟩ (tX1_separate l D cI cQ cL ad N (mSet cI F k (scl (upd v (ix (b w)) (-1)) (-1) 16 c (nI w)) b (upd v (ix (b w)) (-1))) k hk (scl (upd v (ix (b w)) (-1)) (-1) 16 c (nI w)) b (upd v (ix (b w)) (-1)) (mSet_at hM) (nI w) w rfl (by omega)) (cwV9 1 hts mcX1_separate (ac1 _ (List.mem_of_getElem? (i := 16) rfl)) miX1_separate meX1_separate mini_RX1 rfl rfl hdX1_separate ⟨Nat.le_of_ble_eq_true rfl, Nat.le_of_ble_eq_true rfl⟩) hDi hK hP hNW hS hk0 (mSet_at hM).1 rfl rfl hl.1 rfl (Nat.le_of_ble_eq_true rfl) (by decide) (dk kX1_move_ok 22 rfl) mSet_mSet (fun H locs hP hS => ?_)
      exact hret _ _ _ _ _ _ _ (by refine ⟨rfl, ?_⟩; simp [mov1, mov2, mov3, movt, cutv, h1, h4]) hP hS (by decide) (by decide) (dk kX1_move_ok 23 rfl)
end
section
theorem mSet_oth {cI : ClassId} {ad : Nat → Nat} {F : Nat → va_E} {k k2 : Nat} {c b v c' b' v' : Nat → Int32} (h : matAt cI ad F k2 c' b' v') (hd : k + 3 < k2 ∨ k2 + 3 < k) : matAt cI ad (mSet cI F k c b v) k2 c' b' v' := by
  obtain ⟨h0, h1, h2, h3⟩ := h
  refine ⟨?_, ?_, ?_, ?_⟩
  · rw [mSet_out (by omega)]; exact h0
  · rw [mSet_out (by omega)]; exact h1
  · rw [mSet_out (by omega)]; exact h2
  · rw [mSet_out (by omega)]; exact h3
-- a State: its mat, flights, fouls, lost turns, the turn, lifts, the setting
def stAt (cI : ClassId) (ad : Nat → Nat) (F : Nat → va_E) (k : Nat) (c b v g h j : Nat → Int32) (t u z : Int32) : Prop :=
  F k = .inr (4, [.ref (ad (k + 1)), .ref (ad (k + 5)), .ref (ad (k + 6)), .ref (ad (k + 7)), .int t, .int u, .int z]) ∧ matAt cI ad F (k + 1) c b v ∧ F (k + 5) = .inl (cI, 16, .inl g) ∧ F (k + 6) = .inl (cI, 4, .inl h) ∧ F (k + 7) = .inl (cI, 4, .inl j)
def sSet (cI : ClassId) (ad : Nat → Nat) (F : Nat → va_E) (k : Nat) (c b v g h j : Nat → Int32) (t u z : Int32) : Nat → va_E := fun i => if i = k then .inr (4, [.ref (ad (k + 1)), .ref (ad (k + 5)), .ref (ad (k + 6)), .ref (ad (k + 7)), .int t, .int u, .int z]) else if i = k + 5 then .inl (cI, 16, .inl g) else if i = k + 6 then .inl (cI, 4, .inl h) else if i = k + 7 then .inl (cI, 4, .inl j) else mSet cI F (k + 1) c b v i
section SS
variable {cI : ClassId} {ad : Nat → Nat} {F : Nat → va_E} {k : Nat} {c b v g h j c' b' v' g' h' j' : Nat → Int32} {t u z t' u' z' : Int32}
theorem sSet_self (H : stAt cI ad F k c b v g h j t u z) : sSet cI ad F k c b v g h j t u z = F := by
  funext i
  obtain ⟨h0, h1, h2, h3, h4⟩ := H
  unfold sSet
  split
  · next e => rw [e, h0]
  · split
    · next e => rw [e, h2]
    · split
      · next e => rw [e, h3]
      · split
        · next e => rw [e, h4]
        · rw [mSet_self h1]
theorem sSet_out {i : Nat} (hi : i < k ∨ k + 7 < i) : sSet cI ad F k c b v g h j t u z i = F i := by
  unfold sSet
  rw [if_neg (by omega), if_neg (by omega), if_neg (by omega), if_neg (by omega), mSet_out (by omega)]
theorem sSet_at (H : stAt cI ad F k c b v g h j t u z) : stAt cI ad (sSet cI ad F k c' b' v' g' h' j' t' u' z') k c' b' v' g' h' j' t' u' z' := by
  obtain ⟨-, ⟨h1, -, -, -⟩, -, -, -⟩ := H
  refine ⟨by simp [sSet], ⟨?_, ?_, ?_, ?_⟩, by simp [sSet], by simp [sSet], by simp [sSet]⟩
  · simp [sSet, mSet, h1]
  · simp [sSet, mSet]; omega
  · simp [sSet, mSet]; omega
  · simp [sSet, mSet]; omega
theorem sSet_sSet : sSet cI ad (sSet cI ad F k c b v g h j t u z) k c' b' v' g' h' j' t' u' z' = sSet cI ad F k c' b' v' g' h' j' t' u' z' := by
  funext i
  simp only [sSet]
  by_cases e0 : i = k
  · rw [if_pos e0, if_pos e0]
  rw [if_neg e0, if_neg e0]
  by_cases e1 : i = k + 5
  · rw [if_pos e1, if_pos e1]
  rw [if_neg e1, if_neg e1]
  by_cases e2 : i = k + 6
  · rw [if_pos e2, if_pos e2]
  rw [if_neg e2, if_neg e2]
  by_cases e3 : i = k + 7
  · rw [if_pos e3, if_pos e3]
  rw [if_neg e3, if_neg e3]
  simp only [mSet]
  by_cases e4 : i = k + 1 + 1
  · rw [if_pos e4, if_pos e4]
  rw [if_neg e4, if_neg e4]
  by_cases e5 : i = k + 1 + 2
  · rw [if_pos e5, if_pos e5]
  rw [if_neg e5, if_neg e5]
  by_cases e6 : i = k + 1 + 3
  · rw [if_pos e6, if_pos e6]
  rw [if_neg e6, if_neg e6]
  simp only [sSet, mSet]
  rw [if_neg e0, if_neg e1, if_neg e2, if_neg e3, if_neg e4, if_neg e5, if_neg e6]
theorem sSet_m : mSet cI (sSet cI ad F k c b v g h j t u z) (k + 1) c' b' v' = sSet cI ad F k c' b' v' g h j t u z := by
  funext i
  simp only [sSet, mSet]
  repeat' split
  all_goals first | rfl | omega
theorem sSet_g : va_up (sSet cI ad F k c b v g h j t u z) (k + 5) (.inl (cI, 16, .inl g')) = sSet cI ad F k c b v g' h j t u z := by
  funext i
  simp only [va_up, sSet]
  repeat' split
  all_goals first | rfl | omega
theorem sSet_h : va_up (sSet cI ad F k c b v g h j t u z) (k + 6) (.inl (cI, 4, .inl h')) = sSet cI ad F k c b v g h' j t u z := by
  funext i
  simp only [va_up, sSet]
  repeat' split
  all_goals first | rfl | omega
theorem sSet_j : va_up (sSet cI ad F k c b v g h j t u z) (k + 7) (.inl (cI, 4, .inl j')) = sSet cI ad F k c b v g h j' t u z := by
  funext i
  simp only [va_up, sSet]
  repeat' split
  all_goals first | rfl | omega
theorem sSet_0 : va_up (sSet cI ad F k c b v g h j t u z) k (.inr (4, [.ref (ad (k + 1)), .ref (ad (k + 5)), .ref (ad (k + 6)), .ref (ad (k + 7)), .int t', .int u', .int z'])) = sSet cI ad F k c b v g h j t' u' z' := by
  funext i
  simp only [va_up, sSet]
  repeat' split
  all_goals first | rfl | omega
theorem sSet_oth {k2 : Nat} (H : stAt cI ad F k2 c' b' v' g' h' j' t' u' z') (hd : k + 7 < k2 ∨ k2 + 7 < k) : stAt cI ad (sSet cI ad F k c b v g h j t u z) k2 c' b' v' g' h' j' t' u' z' := by
  obtain ⟨h0, ⟨h1, h2, h3, h4⟩, h5, h6, h7⟩ := H
  refine ⟨?_, ⟨?_, ?_, ?_, ?_⟩, ?_, ?_, ?_⟩
  · rw [sSet_out (by omega)]; exact h0
  · rw [sSet_out (by omega)]; exact h1
  · rw [sSet_out (by omega)]; exact h2
  · rw [sSet_out (by omega)]; exact h3
  · rw [sSet_out (by omega)]; exact h4
  · rw [sSet_out (by omega)]; exact h5
  · rw [sSet_out (by omega)]; exact h6
  · rw [sSet_out (by omega)]; exact h7
end SS
def wnf (c v : Nat → Int32) (t w : Nat) : Nat := if over c = true then 1 else if ¬ w / 4 = t then 2 else if pot c w = true then 3 else if cov v w = true then 4 else 0
theorem wnf_le (c v : Nat → Int32) (t w : Nat) : wnf c v t w ≤ 4 := by
  unfold wnf
  repeat' split
  all_goals omega
def wnl (c b v : Nat → Int32) (t : Nat) (z x y : Int32) (n : Nat) (d : Int32) : Nat := if over c = true then 1 else if low c b v (cat x y) n = -1 then 2 else if ¬ top c v (cat x y) / nI 4 = nI t then 3 else if ¬ nI n ≤ z then 4 else if beside x y d = -1 then 5 else 0
theorem wnl_le (c b v : Nat → Int32) (t : Nat) (z x y : Int32) (n : Nat) (d : Int32) : wnl c b v t z x y n d ≤ 5 := by
  unfold wnl
  repeat' split
  all_goals omega
/-- to the next colour: steps, lost turns, from which one on -/
def pasg (c : Nat → Int32) (t : Nat) : Nat → (Nat → Int32) → Nat → (Nat → Int32) × Nat
  | 0, j, _ => (j, t)
  | n + 1, j, q => if potc c ((q + 1) % 4) = 4 then pasg c t n j ((q + 1) % 4) else if j ((q + 1) % 4) = 0 then (j, (q + 1) % 4) else pasg c t n (upd j ((q + 1) % 4) (j ((q + 1) % 4) - nI 1)) ((q + 1) % 4)
theorem pasg_lt (c : Nat → Int32) (t : Nat) (ht : t < 4) : ∀ (n : Nat) (j : Nat → Int32) (q : Nat), (pasg c t n j q).2 < 4
  | 0, _, _ => ht
  | n + 1, j, q => by
    simp only [pasg]
    split
    · exact pasg_lt c t ht n _ _
    · split
      · exact Nat.mod_lt _ (by decide)
      · exact pasg_lt c t ht n _ _
-- a flight that is allowed
def flE (c : Nat → Int32) (w : Nat) (d : Int32) (f : Nat) : Int32 := ldg (c w) d (stp w f)
def flH (h : Nat → Int32) (w : Nat) (q : Int32) : Nat → Int32 := if q = -1 then upd h (w / 4) (h (w / 4) + nI 1) else h
def flP (c' : Nat → Int32) (t w : Nat) (q : Int32) (j : Nat → Int32) : (Nat → Int32) × Nat := if ¬ q = nI 84 ∨ potc c' (w / 4) = 4 then pasg c' t 8 j t else (j, t)
theorem flP_lt (c' : Nat → Int32) (t w : Nat) (ht : t < 4) (q : Int32) (j : Nat → Int32) : (flP c' t w q j).2 < 4 := by
  unfold flP
  split
  · exact pasg_lt _ _ ht _ _ _
  · exact ht
-- a lift that is allowed
def liC (c b v : Nat → Int32) (x y : Int32) (n : Nat) (d : Int32) : Nat → Int32 := if wk (low c b v (cat x y) n) = true then mov1 c b v (ix (low c b v (cat x y) n)) (beside x y d) else c
def liB (c b v : Nat → Int32) (x y : Int32) (n : Nat) (d : Int32) : Nat → Int32 := if wk (low c b v (cat x y) n) = true then mov2 c b v (ix (low c b v (cat x y) n)) (beside x y d) else b
def liV (c b v : Nat → Int32) (x y : Int32) (n : Nat) (d : Int32) : Nat → Int32 := if wk (low c b v (cat x y) n) = true then mov3 c b v (ix (low c b v (cat x y) n)) (beside x y d) else v
def smi (f : Nat → Int32) : Nat → Int32
  | 0 => nI 0
  | n + 1 => smi f n + f n
end
section
set_option maxRecDepth 100000 in
set_option maxHeartbeats 4000000 in
theorem tX1_copyFrom (l : Launch) (D : va_G) (cI cQ cL : ClassId) (ad : Nat → Nat) (N : Nat) (F : Nat → va_E) (k : Nat) (hk : k + 3 < N) (c b v : Nat → Int32) (hM : matAt cI ad F k c b v) (k2 : Nat) (hq : k2 + 3 < N) (hd : k + 3 < k2 ∨ k2 + 3 < k) (c2 b2 v2 : Nat → Int32) (hM2 : matAt cI ad F k2 c2 b2 v2) : MX l yX1_copyFrom (Cond.code yX1_copyFrom cX1_copyFrom 2 none :: AW) ({ frames := 1, cells := 0, slots := 0, locals := 18 } : Room) D cI cQ cL ad N F [.ref (ad k), .ref (ad k2)] (dp none (mSet cI F k c2 b2 v2)) 0 0 := by
  refine mx_v (by decide +kernel) rfl (Nat.le_of_ble_eq_true rfl) (fun p e s m below meth cd Q ls hx hb hml hown hts hDi hP hK hNW hS hret hl => ?_)
  have hown : s.vm.findClass RX1 = some m.cls := hown
  have hk0 : k < N := by omega
  have hk1 : k + 1 < N := by omega
  have hk2 : k + 2 < N := by omega
  have hk3 : k + 3 < N := hk
  have hq0 : k2 < N := by omega
  have hq1 : k2 + 1 < N := by omega
  have hq2 : k2 + 2 < N := by omega
  have hq3 : k2 + 3 < N := hq
  have hP : va_P D vwCl (iW ad N (mSet cI F k c b v)) s.heap := by rw [mSet_self hM]; exact hP
  have hl : lv_has ls 2 [(0, .ref (ad k)), (1, .ref (ad k2))] := hl
  refine lv_aload_n hx hb (dk kX1_copyFrom_ok 0 rfl) rfl (lv_at hl 1 rfl) ?_
  refine gf hx hb hts (fun w h => List.mem_cons_of_mem _ (acX1 w h)) hown hK hP hq0 (mSet_oth hM2 hd).1 rfl 0 (by decide) (hts _ (List.mem_cons_of_mem _ (ac0 _ (List.mem_of_getElem? (i := 22) rfl)))) (fun _ h => h) rfl (dk kX1_copyFrom_ok 1 rfl) ?_
  refine lv_iconst (v := nI 0) hx hb (dk kX1_copyFrom_ok 2 rfl) rfl ?_
  refine lv_aload_n hx hb (dk kX1_copyFrom_ok 3 rfl) rfl (lv_at hl 0 rfl) ?_
  refine gf hx hb hts (fun w h => List.mem_cons_of_mem _ (acX1 w h)) hown hK hP hk0 (mSet_at hM).1 rfl 0 (by decide) (hts _ (List.mem_cons_of_mem _ (ac0 _ (List.mem_of_getElem? (i := 22) rfl)))) (fun _ h => h) rfl (dk kX1_copyFrom_ok 4 rfl) ?_
  refine lv_iconst (v := nI 0) hx hb (dk kX1_copyFrom_ok 5 rfl) rfl ?_
  refine lv_bipush (v := nI 16) hx hb (dk kX1_copyFrom_ok 6 rfl) rfl ?_
  refine cpy (mSet cI F k c2 b v) hx hb (by rw [hml, hl.1]) hown (hts _ (List.mem_cons_of_mem _ (ac1 _ (List.mem_of_getElem? (i := 5) rfl)))) (hts _ (List.mem_cons_of_mem _ (ac1 _ (List.mem_of_getElem? (i := 6) rfl)))) (hts _ (List.mem_cons_of_mem _ (ac1 _ (List.mem_of_getElem? (i := 7) rfl)))) (hts _ (List.mem_cons_of_mem _ (ac1 _ (List.mem_of_getElem? (i := 8) rfl)))) hK hDi hP hS hq1 (mSet_oth hM2 hd).2.1 hk1 (mSet_at hM).2.1 (by decide) (Nat.le_of_ble_eq_true rfl) (Nat.le_of_ble_eq_true rfl) (dk kX1_copyFrom_ok 7 rfl) mSet_c (fun H locs hP hS => ?_)
  refine lv_aload_n hx hb (dk kX1_copyFrom_ok 8 rfl) rfl (lv_at hl 1 rfl) ?_
  refine gf hx hb hts (fun w h => List.mem_cons_of_mem _ (acX1 w h)) hown hK hP hq0 (mSet_oth hM2 hd).1 rfl 1 (by decide) (hts _ (List.mem_cons_of_mem _ (ac0 _ (List.mem_of_getElem? (i := 23) rfl)))) (fun _ h => h) rfl (dk kX1_copyFrom_ok 9 rfl) ?_
  refine lv_iconst (v := nI 0) hx hb (dk kX1_copyFrom_ok 10 rfl) rfl ?_
  refine lv_aload_n hx hb (dk kX1_copyFrom_ok 11 rfl) rfl (lv_at hl 0 rfl) ?_
  refine gf hx hb hts (fun w h => List.mem_cons_of_mem _ (acX1 w h)) hown hK hP hk0 (mSet_at hM).1 rfl 1 (by decide) (hts _ (List.mem_cons_of_mem _ (ac0 _ (List.mem_of_getElem? (i := 23) rfl)))) (fun _ h => h) rfl (dk kX1_copyFrom_ok 12 rfl) ?_
  refine lv_iconst (v := nI 0) hx hb (dk kX1_copyFrom_ok 13 rfl) rfl ?_
  refine lv_bipush (v := nI 16) hx hb (dk kX1_copyFrom_ok 14 rfl) rfl ?_
  refine cpy (mSet cI F k c2 b2 v) hx hb (by rw [hml, hl.1]) hown (hts _ (List.mem_cons_of_mem _ (ac1 _ (List.mem_of_getElem? (i := 5) rfl)))) (hts _ (List.mem_cons_of_mem _ (ac1 _ (List.mem_of_getElem? (i := 6) rfl)))) (hts _ (List.mem_cons_of_mem _ (ac1 _ (List.mem_of_getElem? (i := 7) rfl)))) (hts _ (List.mem_cons_of_mem _ (ac1 _ (List.mem_of_getElem? (i := 8) rfl)))) hK hDi hP hS hq2 (mSet_oth hM2 hd).2.2.1 hk2 (mSet_at hM).2.2.1 (by decide) (Nat.le_of_ble_eq_true rfl) (Nat.le_of_ble_eq_true rfl) (dk kX1_copyFrom_ok 15 rfl) mSet_b (fun H locs hP hS => ?_)
  refine lv_aload_n hx hb (dk kX1_copyFrom_ok 16 rfl) rfl (lv_at hl 1 rfl) ?_
  refine gf hx hb hts (fun w h => List.mem_cons_of_mem _ (acX1 w h)) hown hK hP hq0 (mSet_oth hM2 hd).1 rfl 2 (by decide) (hts _ (List.mem_cons_of_mem _ (ac1 _ (List.mem_of_getElem? (i := 0) rfl)))) (fun _ h => h) rfl (dk kX1_copyFrom_ok 17 rfl) ?_
  refine lv_iconst (v := nI 0) hx hb (dk kX1_copyFrom_ok 18 rfl) rfl ?_
  refine lv_aload_n hx hb (dk kX1_copyFrom_ok 19 rfl) rfl (lv_at hl 0 rfl) ?_
  refine gf hx hb hts (fun w h => List.mem_cons_of_mem _ (acX1 w h)) hown hK hP hk0 (mSet_at hM).1 rfl 2 (by decide) (hts _ (List.mem_cons_of_mem _ (ac1 _ (List.mem_of_getElem? (i := 0) rfl)))) (fun _ h => h) rfl (dk kX1_copyFrom_ok 20 rfl) ?_
  refine lv_iconst (v := nI 0) hx hb (dk kX1_copyFrom_ok 21 rfl) rfl ?_
  refine lv_bipush (v := nI 16) hx hb (dk kX1_copyFrom_ok 22 rfl) rfl ?_
  refine cpy (mSet cI F k c2 b2 v2) hx hb (by rw [hml, hl.1]) hown (hts _ (List.mem_cons_of_mem _ (ac1 _ (List.mem_of_getElem? (i := 5) rfl)))) (hts _ (List.mem_cons_of_mem _ (ac1 _ (List.mem_of_getElem? (i := 6) rfl)))) (hts _ (List.mem_cons_of_mem _ (ac1 _ (List.mem_of_getElem? (i := 7) rfl)))) (hts _ (List.mem_cons_of_mem _ (ac1 _ (List.mem_of_getElem? (i := 8) rfl)))) hK hDi hP hS hq3 (mSet_oth hM2 hd).2.2.2 hk3 (mSet_at hM).2.2.2 (by decide) (Nat.le_of_ble_eq_true rfl) (Nat.le_of_ble_eq_true rfl) (dk kX1_copyFrom_ok 23 rfl) mSet_v (fun H locs hP hS => ?_)
  exact hret _ _ _ _ _ _ _ (by exact ⟨rfl, rfl⟩) hP hS (by decide) (by decide) (dk kX1_copyFrom_ok 24 rfl)
set_option maxRecDepth 100000 in
set_option maxHeartbeats 4000000 in
theorem tX4_whyNotFlown (l : Launch) (D : va_G) (cI cQ cL : ClassId) (ad : Nat → Nat) (N : Nat) (F : Nat → va_E) (k : Nat) (hk : k + 7 < N) (c b v g h j : Nat → Int32) (t : Nat) (u z : Int32) (hS0 : stAt cI ad F k c b v g h j (nI t) u z) (ht : t < 4) (x : Int32) (w : Nat) (hxw : x = nI w) (hw : w < 16) : MR l yX4_whyNotFlown (Cond.code yX4_whyNotFlown cX4_whyNotFlown 2 (some .int) :: AW) ({ frames := 3, cells := 0, slots := 0, locals := 65 } : Room) D cI cQ cL ad N F [.ref (ad k), .int x] (.int (nI (wnf c v t w))) := by
  refine mr_i (ty := .int) (by decide +kernel) rfl rfl rfl rfl (Nat.le_of_ble_eq_true rfl) (fun p e s m below meth cd Q ls hx hb hml hown hts hP hK hNW hret hl => ?_)
  have hown : s.vm.findClass RX4 = some m.cls := hown
  subst hxw
  have hk0 : k < N := by omega
  have hk1 : k + 1 < N := by omega
  have hk11 : k + 1 + 1 < N := by omega
  have hk12 : k + 1 + 2 < N := by omega
  have hk13 : k + 1 + 3 < N := by omega
  have hkm : k + 1 + 3 < N := by omega
  have hk5 : k + 5 < N := by omega
  have hk6 : k + 6 < N := by omega
  have hk7 : k + 7 < N := hk
  have hl : lv_has ls 2 [(0, .ref (ad k)), (1, .int (nI w))] := hl
  refine lv_aload_n hx hb (dk kX4_whyNotFlown_ok 0 rfl) rfl (lv_at hl 0 rfl) ?_
  refine gf hx hb hts (fun w h => List.mem_cons_of_mem _ (acX4 w h)) hown hK hP hk0 hS0.1 rfl 0 (by decide) (hts _ (List.mem_cons_of_mem _ (ac4 _ (List.mem_of_getElem? (i := 3) rfl)))) (fun _ h => h) rfl (dk kX4_whyNotFlown_ok 1 rfl) ?_
  refine cvR (As := []) (rest := []) ⟨hx, hb, hml, hown, hts⟩ (tX1_isOver l D cI cQ cL ad N F (k + 1) hkm c b v hS0.2.1) (cwV9 0 hts mcX1_isOver (ac6 _ (List.mem_of_getElem? (i := 10) rfl)) miX1_isOver meX1_isOver mini_RX1 rfl rfl hdX1_isOver ⟨Nat.le_of_ble_eq_true rfl, Nat.le_of_ble_eq_true rfl⟩) hK hP hNW hk1 hS0.2.1.1 rfl rfl hl.1 rfl (Nat.le_of_ble_eq_true rfl) (by decide) (dk kX4_whyNotFlown_ok 2 rfl) ?_
  refine b_if_eq (tgt := 12) hx hb (dk kX4_whyNotFlown_ok 3 rfl) (by decide) (fun h1 => ?_) (fun h1 => ?_)
  · skip
    refine lv_iload_n hx hb (dk kX4_whyNotFlown_ok 6 rfl) rfl (lv_at hl 1 rfl) ?_
    refine csPN (As := [.int (nI w)]) (rest := []) ⟨hx, hb, hml, hown, hts⟩ (tX5_colourOf l (nI w) w rfl (by omega)) (cwN9 1 hts mcX5_colourOf (nm6 hNW) mini_RX5 rfl rfl hdX5_colourOf ⟨Nat.le_of_ble_eq_true rfl, Nat.le_of_ble_eq_true rfl⟩) (hts _ (List.mem_cons_of_mem _ msX5_colourOf)) rfl hl.1 rfl (Nat.le_of_ble_eq_true rfl) (by decide) (dk kX4_whyNotFlown_ok 7 rfl) ?_
    refine lv_aload_n hx hb (dk kX4_whyNotFlown_ok 8 rfl) rfl (lv_at hl 0 rfl) ?_
    refine gf hx hb hts (fun w h => List.mem_cons_of_mem _ (acX4 w h)) hown hK hP hk0 hS0.1 rfl 4 (by decide) (hts _ (List.mem_cons_of_mem _ (ac4 _ (List.mem_of_getElem? (i := 7) rfl)))) (fun _ h => h) rfl (dk kX4_whyNotFlown_ok 9 rfl) ?_
    refine n_icmp_eq (tgt := 25) hx hb (by omega) (by omega) (dk kX4_whyNotFlown_ok 10 rfl) (by decide) (fun h2 => ?_) (fun h2 => ?_)
    · skip
      refine lv_aload_n hx hb (dk kX4_whyNotFlown_ok 13 rfl) rfl (lv_at hl 0 rfl) ?_
      refine gf hx hb hts (fun w h => List.mem_cons_of_mem _ (acX4 w h)) hown hK hP hk0 hS0.1 rfl 0 (by decide) (hts _ (List.mem_cons_of_mem _ (ac4 _ (List.mem_of_getElem? (i := 3) rfl)))) (fun _ h => h) rfl (dk kX4_whyNotFlown_ok 14 rfl) ?_
      refine lv_iload_n hx hb (dk kX4_whyNotFlown_ok 15 rfl) rfl (lv_at hl 1 rfl) ?_
      refine cvR (As := [.int (nI w)]) (rest := []) ⟨hx, hb, hml, hown, hts⟩ (tX1_isPotted l D cI cQ cL ad N F (k + 1) hkm c b v hS0.2.1 (nI w) w rfl (by omega)) (cwV9 1 hts mcX1_isPotted (ac6 _ (List.mem_of_getElem? (i := 14) rfl)) miX1_isPotted meX1_isPotted mini_RX1 rfl rfl hdX1_isPotted ⟨Nat.le_of_ble_eq_true rfl, Nat.le_of_ble_eq_true rfl⟩) hK hP hNW hk1 hS0.2.1.1 rfl rfl hl.1 rfl (Nat.le_of_ble_eq_true rfl) (by decide) (dk kX4_whyNotFlown_ok 16 rfl) ?_
      refine b_if_eq (tgt := 38) hx hb (dk kX4_whyNotFlown_ok 17 rfl) (by decide) (fun h3 => ?_) (fun h3 => ?_)
      · skip
        refine lv_aload_n hx hb (dk kX4_whyNotFlown_ok 20 rfl) rfl (lv_at hl 0 rfl) ?_
        refine gf hx hb hts (fun w h => List.mem_cons_of_mem _ (acX4 w h)) hown hK hP hk0 hS0.1 rfl 0 (by decide) (hts _ (List.mem_cons_of_mem _ (ac4 _ (List.mem_of_getElem? (i := 3) rfl)))) (fun _ h => h) rfl (dk kX4_whyNotFlown_ok 21 rfl) ?_
        refine lv_iload_n hx hb (dk kX4_whyNotFlown_ok 22 rfl) rfl (lv_at hl 1 rfl) ?_
        refine cvR (As := [.int (nI w)]) (rest := []) ⟨hx, hb, hml, hown, hts⟩ (tX1_isCovered l D cI cQ cL ad N F (k + 1) hkm c b v hS0.2.1 (nI w) w rfl (by omega)) (cwV9 1 hts mcX1_isCovered (ac6 _ (List.mem_of_getElem? (i := 15) rfl)) miX1_isCovered meX1_isCovered mini_RX1 rfl rfl hdX1_isCovered ⟨Nat.le_of_ble_eq_true rfl, Nat.le_of_ble_eq_true rfl⟩) hK hP hNW hk1 hS0.2.1.1 rfl rfl hl.1 rfl (Nat.le_of_ble_eq_true rfl) (by decide) (dk kX4_whyNotFlown_ok 23 rfl) ?_
        refine b_if_eq (tgt := 53) hx hb (dk kX4_whyNotFlown_ok 24 rfl) (by decide) (fun h4 => ?_) (fun h4 => ?_)
        · skip
          refine lv_iconst (v := nI 0) hx hb (dk kX4_whyNotFlown_ok 27 rfl) rfl ?_
          exact hret _ _ _ (by simp [wnf, h1, h2, h3, h4]) (dk kX4_whyNotFlown_ok 28 rfl)
        · skip
          refine lv_iconst (v := nI 4) hx hb (dk kX4_whyNotFlown_ok 25 rfl) rfl ?_
          refine lv_goto (tgt := 54) hx hb (dk kX4_whyNotFlown_ok 26 rfl) (by decide) ?_
          exact hret _ _ _ (by simp [wnf, h1, h2, h3, h4]) (dk kX4_whyNotFlown_ok 28 rfl)
      · skip
        refine lv_iconst (v := nI 3) hx hb (dk kX4_whyNotFlown_ok 18 rfl) rfl ?_
        exact hret _ _ _ (by simp [wnf, h1, h2, h3]) (dk kX4_whyNotFlown_ok 19 rfl)
    · skip
      refine lv_iconst (v := nI 2) hx hb (dk kX4_whyNotFlown_ok 11 rfl) rfl ?_
      exact hret _ _ _ (by simp [wnf, h1, h2]) (dk kX4_whyNotFlown_ok 12 rfl)
  · skip
    refine lv_iconst (v := nI 1) hx hb (dk kX4_whyNotFlown_ok 4 rfl) rfl ?_
    exact hret _ _ _ (by simp [wnf, h1]) (dk kX4_whyNotFlown_ok 5 rfl)
set_option maxRecDepth 100000 in
set_option maxHeartbeats 4000000 in
theorem tX4_whyNotLifted (l : Launch) (D : va_G) (cI cQ cL : ClassId) (ad : Nat → Nat) (N : Nat) (F : Nat → va_E) (k : Nat) (hk : k + 7 < N) (c b v g h j : Nat → Int32) (t : Nat) (u z : Int32) (hS0 : stAt cI ad F k c b v g h j (nI t) u z) (x y m9 : Int32) (n : Nat) (hmn : m9 = nI n) (hn1 : 1 ≤ n) (hn : n < 2 ^ 31) (d : Int32) : MR l yX4_whyNotLifted (Cond.code yX4_whyNotLifted cX4_whyNotLifted 6 (some .int) :: AW) ({ frames := 3, cells := 0, slots := 0, locals := 65 } : Room) D cI cQ cL ad N F [.ref (ad k), .int x, .int y, .int m9, .int d] (.int (nI (wnl c b v t z x y n d))) := by
  refine mr_i (ty := .int) (by decide +kernel) rfl rfl rfl rfl (Nat.le_of_ble_eq_true rfl) (fun p e s m below meth cd Q ls hx hb hml hown hts hP hK hNW hret hl => ?_)
  have hown : s.vm.findClass RX4 = some m.cls := hown
  subst hmn
  have hk0 : k < N := by omega
  have hk1 : k + 1 < N := by omega
  have hk11 : k + 1 + 1 < N := by omega
  have hk12 : k + 1 + 2 < N := by omega
  have hk13 : k + 1 + 3 < N := by omega
  have hkm : k + 1 + 3 < N := by omega
  have hk5 : k + 5 < N := by omega
  have hk6 : k + 6 < N := by omega
  have hk7 : k + 7 < N := hk
  have hl : lv_has ls 6 [(0, .ref (ad k)), (1, .int x), (2, .int y), (3, .int (nI n)), (4, .int d)] := hl
  refine lv_aload_n hx hb (dk kX4_whyNotLifted_ok 0 rfl) rfl (lv_at hl 0 rfl) ?_
  refine gf hx hb hts (fun w h => List.mem_cons_of_mem _ (acX4 w h)) hown hK hP hk0 hS0.1 rfl 0 (by decide) (hts _ (List.mem_cons_of_mem _ (ac4 _ (List.mem_of_getElem? (i := 3) rfl)))) (fun _ h => h) rfl (dk kX4_whyNotLifted_ok 1 rfl) ?_
  refine cvR (As := []) (rest := []) ⟨hx, hb, hml, hown, hts⟩ (tX1_isOver l D cI cQ cL ad N F (k + 1) hkm c b v hS0.2.1) (cwV9 0 hts mcX1_isOver (ac6 _ (List.mem_of_getElem? (i := 10) rfl)) miX1_isOver meX1_isOver mini_RX1 rfl rfl hdX1_isOver ⟨Nat.le_of_ble_eq_true rfl, Nat.le_of_ble_eq_true rfl⟩) hK hP hNW hk1 hS0.2.1.1 rfl rfl hl.1 rfl (Nat.le_of_ble_eq_true rfl) (by decide) (dk kX4_whyNotLifted_ok 2 rfl) ?_
  refine b_if_eq (tgt := 12) hx hb (dk kX4_whyNotLifted_ok 3 rfl) (by decide) (fun h1 => ?_) (fun h1 => ?_)
  · skip
    refine lv_iload_n hx hb (dk kX4_whyNotLifted_ok 6 rfl) rfl (lv_at hl 1 rfl) ?_
    refine lv_iload_n hx hb (dk kX4_whyNotLifted_ok 7 rfl) rfl (lv_at hl 2 rfl) ?_
    refine csPN (As := [.int x, .int y]) (rest := []) ⟨hx, hb, hml, hown, hts⟩ (tX5_cellAt l x y) (cwN9 2 hts mcX5_cellAt (nm13 hNW) mini_RX5 rfl rfl hdX5_cellAt ⟨Nat.le_of_ble_eq_true rfl, Nat.le_of_ble_eq_true rfl⟩) (hts _ (List.mem_cons_of_mem _ msX5_cellAt)) rfl hl.1 rfl (Nat.le_of_ble_eq_true rfl) (by decide) (dk kX4_whyNotLifted_ok 8 rfl) ?_
    refine lv_istore (lv' := [(5, .int (cat x y)), (0, .ref (ad k)), (1, .int x), (2, .int y), (3, .int (nI n)), (4, .int d)]) hx hb (dk kX4_whyNotLifted_ok 9 rfl) hl (by decide) rfl (fun ls hl => ?_)
    refine lv_aload_n hx hb (dk kX4_whyNotLifted_ok 10 rfl) rfl (lv_at hl 1 rfl) ?_
    refine gf hx hb hts (fun w h => List.mem_cons_of_mem _ (acX4 w h)) hown hK hP hk0 hS0.1 rfl 0 (by decide) (hts _ (List.mem_cons_of_mem _ (ac4 _ (List.mem_of_getElem? (i := 3) rfl)))) (fun _ h => h) rfl (dk kX4_whyNotLifted_ok 11 rfl) ?_
    refine lv_iload hx hb (dk kX4_whyNotLifted_ok 12 rfl) (lv_at hl 0 rfl) ?_
    refine lv_iload_n hx hb (dk kX4_whyNotLifted_ok 13 rfl) rfl (lv_at hl 4 rfl) ?_
    refine cvR (As := [.int (cat x y), .int (nI n)]) (rest := []) ⟨hx, hb, hml, hown, hts⟩ (tX1_lowestOfUpper l D cI cQ cL ad N F (k + 1) hkm c b v hS0.2.1 (cat x y) (nI n) n rfl (by omega) (by omega)) (cwV9 2 hts mcX1_lowestOfUpper (ac6 _ (List.mem_of_getElem? (i := 16) rfl)) miX1_lowestOfUpper meX1_lowestOfUpper mini_RX1 rfl rfl hdX1_lowestOfUpper ⟨Nat.le_of_ble_eq_true rfl, Nat.le_of_ble_eq_true rfl⟩) hK hP hNW hk1 hS0.2.1.1 rfl rfl hl.1 rfl (Nat.le_of_ble_eq_true rfl) (by decide) (dk kX4_whyNotLifted_ok 14 rfl) ?_
    refine lv_iconst (v := -1) hx hb (dk kX4_whyNotLifted_ok 15 rfl) rfl ?_
    refine lv_icmp_ne (tgt := 35) hx hb (dk kX4_whyNotLifted_ok 16 rfl) (by decide) (fun h2 => ?_) (fun h2 => ?_)
    · skip
      refine lv_aload_n hx hb (dk kX4_whyNotLifted_ok 19 rfl) rfl (lv_at hl 1 rfl) ?_
      refine gf hx hb hts (fun w h => List.mem_cons_of_mem _ (acX4 w h)) hown hK hP hk0 hS0.1 rfl 0 (by decide) (hts _ (List.mem_cons_of_mem _ (ac4 _ (List.mem_of_getElem? (i := 3) rfl)))) (fun _ h => h) rfl (dk kX4_whyNotLifted_ok 20 rfl) ?_
      refine lv_iload hx hb (dk kX4_whyNotLifted_ok 21 rfl) (lv_at hl 0 rfl) ?_
      refine cvR (As := [.int (cat x y)]) (rest := []) ⟨hx, hb, hml, hown, hts⟩ (tX1_topAt l D cI cQ cL ad N F (k + 1) hkm c b v hS0.2.1 (cat x y)) (cwV9 1 hts mcX1_topAt (ac6 _ (List.mem_of_getElem? (i := 20) rfl)) miX1_topAt meX1_topAt mini_RX1 rfl rfl hdX1_topAt ⟨Nat.le_of_ble_eq_true rfl, Nat.le_of_ble_eq_true rfl⟩) hK hP hNW hk1 hS0.2.1.1 rfl rfl hl.1 rfl (Nat.le_of_ble_eq_true rfl) (by decide) (dk kX4_whyNotLifted_ok 22 rfl) ?_
      refine csPN (As := [.int (top c v (cat x y))]) (rest := []) ⟨hx, hb, hml, hown, hts⟩ (tX5_colourOf_r l (top c v (cat x y))) (cwN9 1 hts mcX5_colourOf (nm6 hNW) mini_RX5 rfl rfl hdX5_colourOf ⟨Nat.le_of_ble_eq_true rfl, Nat.le_of_ble_eq_true rfl⟩) (hts _ (List.mem_cons_of_mem _ msX5_colourOf)) rfl hl.1 rfl (Nat.le_of_ble_eq_true rfl) (by decide) (dk kX4_whyNotLifted_ok 23 rfl) ?_
      refine lv_aload_n hx hb (dk kX4_whyNotLifted_ok 24 rfl) rfl (lv_at hl 1 rfl) ?_
      refine gf hx hb hts (fun w h => List.mem_cons_of_mem _ (acX4 w h)) hown hK hP hk0 hS0.1 rfl 4 (by decide) (hts _ (List.mem_cons_of_mem _ (ac4 _ (List.mem_of_getElem? (i := 7) rfl)))) (fun _ h => h) rfl (dk kX4_whyNotLifted_ok 25 rfl) ?_
      refine lv_icmp_eq (tgt := 56) hx hb (dk kX4_whyNotLifted_ok 26 rfl) (by decide) (fun h3 => ?_) (fun h3 => ?_)
      · skip
        refine lv_iload_n hx hb (dk kX4_whyNotLifted_ok 29 rfl) rfl (lv_at hl 4 rfl) ?_
        refine lv_aload_n hx hb (dk kX4_whyNotLifted_ok 30 rfl) rfl (lv_at hl 1 rfl) ?_
        refine gf hx hb hts (fun w h => List.mem_cons_of_mem _ (acX4 w h)) hown hK hP hk0 hS0.1 rfl 6 (by decide) (hts _ (List.mem_cons_of_mem _ (ac4 _ (List.mem_of_getElem? (i := 9) rfl)))) (fun _ h => h) rfl (dk kX4_whyNotLifted_ok 31 rfl) ?_
        refine lv_icmp_le (tgt := 66) hx hb (dk kX4_whyNotLifted_ok 32 rfl) (by decide) (fun h4 => ?_) (fun h4 => ?_)
        · skip
          refine lv_iload_n hx hb (dk kX4_whyNotLifted_ok 35 rfl) rfl (lv_at hl 2 rfl) ?_
          refine lv_iload_n hx hb (dk kX4_whyNotLifted_ok 36 rfl) rfl (lv_at hl 3 rfl) ?_
          refine lv_iload hx hb (dk kX4_whyNotLifted_ok 37 rfl) (lv_at hl 5 rfl) ?_
          refine csPN (As := [.int x, .int y, .int d]) (rest := []) ⟨hx, hb, hml, hown, hts⟩ (tX5_cellBeside l x y d) (cwN9 3 hts mcX5_cellBeside (nm14 hNW) mini_RX5 rfl rfl hdX5_cellBeside ⟨Nat.le_of_ble_eq_true rfl, Nat.le_of_ble_eq_true rfl⟩) (hts _ (List.mem_cons_of_mem _ msX5_cellBeside)) rfl hl.1 rfl (Nat.le_of_ble_eq_true rfl) (by decide) (dk kX4_whyNotLifted_ok 38 rfl) ?_
          refine lv_iconst (v := -1) hx hb (dk kX4_whyNotLifted_ok 39 rfl) rfl ?_
          refine lv_icmp_ne (tgt := 81) hx hb (dk kX4_whyNotLifted_ok 40 rfl) (by decide) (fun h5 => ?_) (fun h5 => ?_)
          · skip
            refine lv_iconst (v := nI 0) hx hb (dk kX4_whyNotLifted_ok 43 rfl) rfl ?_
            exact hret _ _ _ (by simp only [wnl, h1, (eq_false h2), (eq_true h3), (eq_true h4), (eq_false h5), not_true_eq_false, not_false_eq_true, and_true, true_and, and_false, false_and, or_true, true_or, or_false, false_or, and_self, or_self, if_true, if_false, Bool.false_eq_true, reduceIte]) (dk kX4_whyNotLifted_ok 44 rfl)
          · skip
            refine lv_iconst (v := nI 5) hx hb (dk kX4_whyNotLifted_ok 41 rfl) rfl ?_
            refine lv_goto (tgt := 82) hx hb (dk kX4_whyNotLifted_ok 42 rfl) (by decide) ?_
            exact hret _ _ _ (by simp only [wnl, h1, (eq_false h2), (eq_true h3), (eq_true h4), (eq_true h5), not_true_eq_false, not_false_eq_true, and_true, true_and, and_false, false_and, or_true, true_or, or_false, false_or, and_self, or_self, if_true, if_false, Bool.false_eq_true, reduceIte]) (dk kX4_whyNotLifted_ok 44 rfl)
        · skip
          refine lv_iconst (v := nI 4) hx hb (dk kX4_whyNotLifted_ok 33 rfl) rfl ?_
          exact hret _ _ _ (by simp only [wnl, h1, (eq_false h2), (eq_true h3), (eq_false h4), not_true_eq_false, not_false_eq_true, and_true, true_and, and_false, false_and, or_true, true_or, or_false, false_or, and_self, or_self, if_true, if_false, Bool.false_eq_true, reduceIte]) (dk kX4_whyNotLifted_ok 34 rfl)
      · skip
        refine lv_iconst (v := nI 3) hx hb (dk kX4_whyNotLifted_ok 27 rfl) rfl ?_
        exact hret _ _ _ (by simp only [wnl, h1, (eq_false h2), (eq_false h3), not_true_eq_false, not_false_eq_true, and_true, true_and, and_false, false_and, or_true, true_or, or_false, false_or, and_self, or_self, if_true, if_false, Bool.false_eq_true, reduceIte]) (dk kX4_whyNotLifted_ok 28 rfl)
    · skip
      refine lv_iconst (v := nI 2) hx hb (dk kX4_whyNotLifted_ok 17 rfl) rfl ?_
      exact hret _ _ _ (by simp only [wnl, h1, (eq_true h2), not_true_eq_false, not_false_eq_true, and_true, true_and, and_false, false_and, or_true, true_or, or_false, false_or, and_self, or_self, if_true, if_false, Bool.false_eq_true, reduceIte]) (dk kX4_whyNotLifted_ok 18 rfl)
  · skip
    refine lv_iconst (v := nI 1) hx hb (dk kX4_whyNotLifted_ok 4 rfl) rfl ?_
    exact hret _ _ _ (by simp only [wnl, h1, not_true_eq_false, not_false_eq_true, and_true, true_and, and_false, false_and, or_true, true_or, or_false, false_or, and_self, or_self, if_true, if_false, Bool.false_eq_true, reduceIte]) (dk kX4_whyNotLifted_ok 5 rfl)
set_option maxRecDepth 100000 in
set_option maxHeartbeats 4000000 in
theorem tX4_allFlights (l : Launch) (D : va_G) (cI cQ cL : ClassId) (ad : Nat → Nat) (N : Nat) (F : Nat → va_E) (k : Nat) (hk : k + 7 < N) (c b v g h j : Nat → Int32) (t : Nat) (u z : Int32) (hS0 : stAt cI ad F k c b v g h j (nI t) u z) : MR l yX4_allFlights (Cond.code yX4_allFlights cX4_allFlights 3 (some .int) :: AW) ({ frames := 0, cells := 0, slots := 0, locals := 0 } : Room) D cI cQ cL ad N F [.ref (ad k)] (.int (smi g 16)) := by
  refine mr_i (ty := .int) (by decide +kernel) rfl rfl rfl rfl (Nat.le_of_ble_eq_true rfl) (fun p e s m below meth cd Q ls hx hb hml hown hts hP hK hNW hret hl => ?_)
  have hown : s.vm.findClass RX4 = some m.cls := hown
  have hk0 : k < N := by omega
  have hk1 : k + 1 < N := by omega
  have hk11 : k + 1 + 1 < N := by omega
  have hk12 : k + 1 + 2 < N := by omega
  have hk13 : k + 1 + 3 < N := by omega
  have hkm : k + 1 + 3 < N := by omega
  have hk5 : k + 5 < N := by omega
  have hk6 : k + 6 < N := by omega
  have hk7 : k + 7 < N := hk
  have hl : lv_has ls 3 [(0, .ref (ad k))] := hl
  refine lv_iconst (v := nI 0) hx hb (dk kX4_allFlights_ok 0 rfl) rfl ?_
  refine lv_istore_n (lv' := [(1, .int (nI 0)), (0, .ref (ad k))]) hx hb (dk kX4_allFlights_ok 1 rfl) rfl hl (by decide) rfl (fun ls hl => ?_)
  refine lv_iconst (v := nI 0) hx hb (dk kX4_allFlights_ok 2 rfl) rfl ?_
  refine lv_istore_n (lv' := [(2, .int (nI 0)), (1, .int (nI 0)), (0, .ref (ad k))]) hx hb (dk kX4_allFlights_ok 3 rfl) rfl hl (by decide) rfl (fun ls hl => ?_)
  have L4 : ∀ (fu : Nat) (i : Nat) (x1 : Int32), x1 = smi g i → i ≤ 16 → 16 - i < fu → ∀ ls : Array Slot, lv_has ls 3 [(0, .ref (ad k)), (1, .int x1), (2, .int (nI i))] → W p l e ({ frames := 0, cells := 0, slots := 0, locals := 0 } : Room) s m ([.ref (ad k)] : List Value).toArray below meth cd s.heap [] 0 0 Q (F0 m 4 ls []) := by
    intro fu
    induction fu with
    | zero => intros; omega
    | succ fu ih4 =>
      intro i x1 ex1 hi hm4 ls hl
      subst ex1
      refine lv_iload_n hx hb (dk kX4_allFlights_ok 4 rfl) rfl (lv_at hl 2 rfl) ?_
      refine lv_bipush (v := nI 16) hx hb (dk kX4_allFlights_ok 5 rfl) rfl ?_
      refine n_icmp_ge (tgt := 25) hx hb (by omega) (by decide) (dk kX4_allFlights_ok 6 rfl) (by decide) (fun h1 => ?_) (fun h1 => ?_)
      · skip
        refine lv_iload_n hx hb (dk kX4_allFlights_ok 16 rfl) rfl (lv_at hl 1 rfl) ?_
        exact hret _ _ _ (by rw [show i = 16 by omega] <;> rfl) (dk kX4_allFlights_ok 17 rfl)
      · skip
        refine lv_iload_n hx hb (dk kX4_allFlights_ok 7 rfl) rfl (lv_at hl 1 rfl) ?_
        refine lv_aload_n hx hb (dk kX4_allFlights_ok 8 rfl) rfl (lv_at hl 0 rfl) ?_
        refine gf hx hb hts (fun w h => List.mem_cons_of_mem _ (acX4 w h)) hown hK hP hk0 hS0.1 rfl 1 (by decide) (hts _ (List.mem_cons_of_mem _ (ac4 _ (List.mem_of_getElem? (i := 4) rfl)))) (fun _ h => h) rfl (dk kX4_allFlights_ok 9 rfl) ?_
        refine lv_iload_n hx hb (dk kX4_allFlights_ok 10 rfl) rfl (lv_at hl 2 rfl) ?_
        refine ald (j := i) hx hb hK hP hk5 hS0.2.2.1 rfl (by omega) (by decide) (dk kX4_allFlights_ok 11 rfl) ?_
        refine lv_iadd hx hb (dk kX4_allFlights_ok 12 rfl) ?_
        refine lv_istore_n (lv' := [(1, .int ((smi g i) + (g i))), (0, .ref (ad k)), (2, .int (nI i))]) hx hb (dk kX4_allFlights_ok 13 rfl) rfl hl (by decide) rfl (fun ls hl => ?_)
        refine lv_iinc (v := nI (i + 1)) (lv' := [(2, .int (nI (i + 1))), (1, .int ((smi g i) + (g i))), (0, .ref (ad k))]) hx hb (dk kX4_allFlights_ok 14 rfl) hl (k := 2) rfl (n_inc _) (by decide) rfl (fun ls hl => ?_)
        refine lv_goto (tgt := 4) hx hb (dk kX4_allFlights_ok 15 rfl) (by decide) ?_
        exact ih4 (i + 1) _ (by rfl) (by omega) (by omega) ls (lv_sub hl [2, 1, 0] rfl)
  exact L4 _ 0 _ (by first | rfl | omega) (by first | rfl | omega) (Nat.lt_succ_self _) ls (lv_sub hl [2, 1, 0] rfl)
set_option maxRecDepth 100000 in
set_option maxHeartbeats 4000000 in
theorem tX4_allFouls (l : Launch) (D : va_G) (cI cQ cL : ClassId) (ad : Nat → Nat) (N : Nat) (F : Nat → va_E) (k : Nat) (hk : k + 7 < N) (c b v g h j : Nat → Int32) (t : Nat) (u z : Int32) (hS0 : stAt cI ad F k c b v g h j (nI t) u z) : MR l yX4_allFouls (Cond.code yX4_allFouls cX4_allFouls 3 (some .int) :: AW) ({ frames := 0, cells := 0, slots := 0, locals := 0 } : Room) D cI cQ cL ad N F [.ref (ad k)] (.int (smi h 4)) := by
  refine mr_i (ty := .int) (by decide +kernel) rfl rfl rfl rfl (Nat.le_of_ble_eq_true rfl) (fun p e s m below meth cd Q ls hx hb hml hown hts hP hK hNW hret hl => ?_)
  have hown : s.vm.findClass RX4 = some m.cls := hown
  have hk0 : k < N := by omega
  have hk1 : k + 1 < N := by omega
  have hk11 : k + 1 + 1 < N := by omega
  have hk12 : k + 1 + 2 < N := by omega
  have hk13 : k + 1 + 3 < N := by omega
  have hkm : k + 1 + 3 < N := by omega
  have hk5 : k + 5 < N := by omega
  have hk6 : k + 6 < N := by omega
  have hk7 : k + 7 < N := hk
  have hl : lv_has ls 3 [(0, .ref (ad k))] := hl
  refine lv_iconst (v := nI 0) hx hb (dk kX4_allFouls_ok 0 rfl) rfl ?_
  refine lv_istore_n (lv' := [(1, .int (nI 0)), (0, .ref (ad k))]) hx hb (dk kX4_allFouls_ok 1 rfl) rfl hl (by decide) rfl (fun ls hl => ?_)
  refine lv_iconst (v := nI 0) hx hb (dk kX4_allFouls_ok 2 rfl) rfl ?_
  refine lv_istore_n (lv' := [(2, .int (nI 0)), (1, .int (nI 0)), (0, .ref (ad k))]) hx hb (dk kX4_allFouls_ok 3 rfl) rfl hl (by decide) rfl (fun ls hl => ?_)
  have L4 : ∀ (fu : Nat) (i : Nat) (x1 : Int32), x1 = smi h i → i ≤ 4 → 4 - i < fu → ∀ ls : Array Slot, lv_has ls 3 [(0, .ref (ad k)), (1, .int x1), (2, .int (nI i))] → W p l e ({ frames := 0, cells := 0, slots := 0, locals := 0 } : Room) s m ([.ref (ad k)] : List Value).toArray below meth cd s.heap [] 0 0 Q (F0 m 4 ls []) := by
    intro fu
    induction fu with
    | zero => intros; omega
    | succ fu ih4 =>
      intro i x1 ex1 hi hm4 ls hl
      subst ex1
      refine lv_iload_n hx hb (dk kX4_allFouls_ok 4 rfl) rfl (lv_at hl 2 rfl) ?_
      refine lv_iconst (v := nI 4) hx hb (dk kX4_allFouls_ok 5 rfl) rfl ?_
      refine n_icmp_ge (tgt := 24) hx hb (by omega) (by decide) (dk kX4_allFouls_ok 6 rfl) (by decide) (fun h1 => ?_) (fun h1 => ?_)
      · skip
        refine lv_iload_n hx hb (dk kX4_allFouls_ok 16 rfl) rfl (lv_at hl 1 rfl) ?_
        exact hret _ _ _ (by rw [show i = 4 by omega] <;> rfl) (dk kX4_allFouls_ok 17 rfl)
      · skip
        refine lv_iload_n hx hb (dk kX4_allFouls_ok 7 rfl) rfl (lv_at hl 1 rfl) ?_
        refine lv_aload_n hx hb (dk kX4_allFouls_ok 8 rfl) rfl (lv_at hl 0 rfl) ?_
        refine gf hx hb hts (fun w h => List.mem_cons_of_mem _ (acX4 w h)) hown hK hP hk0 hS0.1 rfl 2 (by decide) (hts _ (List.mem_cons_of_mem _ (ac4 _ (List.mem_of_getElem? (i := 5) rfl)))) (fun _ h => h) rfl (dk kX4_allFouls_ok 9 rfl) ?_
        refine lv_iload_n hx hb (dk kX4_allFouls_ok 10 rfl) rfl (lv_at hl 2 rfl) ?_
        refine ald (j := i) hx hb hK hP hk6 hS0.2.2.2.1 rfl (by omega) (by decide) (dk kX4_allFouls_ok 11 rfl) ?_
        refine lv_iadd hx hb (dk kX4_allFouls_ok 12 rfl) ?_
        refine lv_istore_n (lv' := [(1, .int ((smi h i) + (h i))), (0, .ref (ad k)), (2, .int (nI i))]) hx hb (dk kX4_allFouls_ok 13 rfl) rfl hl (by decide) rfl (fun ls hl => ?_)
        refine lv_iinc (v := nI (i + 1)) (lv' := [(2, .int (nI (i + 1))), (1, .int ((smi h i) + (h i))), (0, .ref (ad k))]) hx hb (dk kX4_allFouls_ok 14 rfl) hl (k := 2) rfl (n_inc _) (by decide) rfl (fun ls hl => ?_)
        refine lv_goto (tgt := 4) hx hb (dk kX4_allFouls_ok 15 rfl) (by decide) ?_
        exact ih4 (i + 1) _ (by rfl) (by omega) (by omega) ls (lv_sub hl [2, 1, 0] rfl)
  exact L4 _ 0 _ (by first | rfl | omega) (by first | rfl | omega) (Nat.lt_succ_self _) ls (lv_sub hl [2, 1, 0] rfl)
set_option maxRecDepth 100000 in
set_option maxHeartbeats 4000000 in
theorem tX4_passTurn (l : Launch) (D : va_G) (cI cQ cL : ClassId) (ad : Nat → Nat) (N : Nat) (F : Nat → va_E) (k : Nat) (hk : k + 7 < N) (c b v g h j : Nat → Int32) (t : Nat) (u z : Int32) (hS0 : stAt cI ad F k c b v g h j (nI t) u z) (ht : t < 4) : MX l yX4_passTurn (Cond.code yX4_passTurn cX4_passTurn 3 none :: AW) ({ frames := 2, cells := 0, slots := 0, locals := 44 } : Room) D cI cQ cL ad N F [.ref (ad k)] (dp none (sSet cI ad F k c b v g h ((pasg c t 8 j t).1) (nI ((pasg c t 8 j t).2)) u z)) 0 0 := by
  refine mx_v (by decide +kernel) rfl (Nat.le_of_ble_eq_true rfl) (fun p e s m below meth cd Q ls hx hb hml hown hts hDi hP hK hNW hS hret hl => ?_)
  have hown : s.vm.findClass RX4 = some m.cls := hown
  have hk0 : k < N := by omega
  have hk1 : k + 1 < N := by omega
  have hk11 : k + 1 + 1 < N := by omega
  have hk12 : k + 1 + 2 < N := by omega
  have hk13 : k + 1 + 3 < N := by omega
  have hkm : k + 1 + 3 < N := by omega
  have hk5 : k + 5 < N := by omega
  have hk6 : k + 6 < N := by omega
  have hk7 : k + 7 < N := hk
  have hP : va_P D vwCl (iW ad N (sSet cI ad F k c b v g h j (nI t) u z)) s.heap := by rw [sSet_self hS0]; exact hP
  have hl : lv_has ls 3 [(0, .ref (ad k))] := hl
  refine lv_aload_n hx hb (dk kX4_passTurn_ok 0 rfl) rfl (lv_at hl 0 rfl) ?_
  refine gf hx hb hts (fun w h => List.mem_cons_of_mem _ (acX4 w h)) hown hK hP hk0 (sSet_at hS0).1 rfl 4 (by decide) (hts _ (List.mem_cons_of_mem _ (ac4 _ (List.mem_of_getElem? (i := 7) rfl)))) (fun _ h => h) rfl (dk kX4_passTurn_ok 1 rfl) ?_
  refine lv_istore_n (lv' := [(1, .int (nI t)), (0, .ref (ad k))]) hx hb (dk kX4_passTurn_ok 2 rfl) rfl hl (by decide) rfl (fun ls hl => ?_)
  refine lv_iconst (v := nI 0) hx hb (dk kX4_passTurn_ok 3 rfl) rfl ?_
  refine lv_istore_n (lv' := [(2, .int (nI 0)), (1, .int (nI t)), (0, .ref (ad k))]) hx hb (dk kX4_passTurn_ok 4 rfl) rfl hl (by decide) rfl (fun ls hl => ?_)
  have L7 : ∀ (fu : Nat) (i q : Nat) (j2 : Nat → Int32) (H : Heap) (locs : List Loc), va_P D vwCl (iW ad N (sSet cI ad F k c b v g h j2 (nI t) u z)) H → va_S (iA ad N s.heap.size) s.heap H locs → i ≤ 8 → q < 4 → pasg c t 8 j t = pasg c t (8 - i) j2 q → 8 - i < fu → ∀ ls : Array Slot, lv_has ls 3 [(0, .ref (ad k)), (1, .int (nI q)), (2, .int (nI i))] → W p l e ({ frames := 2, cells := 0, slots := 0, locals := 44 } : Room) s m ([.ref (ad k)] : List Value).toArray below meth cd H locs 0 0 Q (F0 m 7 ls []) := by
    intro fu
    induction fu with
    | zero => intros; omega
    | succ fu ih7 =>
      intro i q j2 H locs hP hS hi hq hr hm7 ls hl
      refine lv_iload_n hx hb (dk kX4_passTurn_ok 5 rfl) rfl (lv_at hl 2 rfl) ?_
      refine lv_bipush (v := nI 8) hx hb (dk kX4_passTurn_ok 6 rfl) rfl ?_
      refine n_icmp_ge (tgt := 64) hx hb (by omega) (by decide) (dk kX4_passTurn_ok 7 rfl) (by decide) (fun h1 => ?_) (fun h1 => ?_)
      · skip
        exact hret _ _ _ _ _ _ _ (by refine ⟨rfl, ?_⟩; first | (rw [hr, show 8 - i = (8 - (i + 1)) + 1 by omega]; simp only [pasg, (eq_true h1), (eq_false (Nat.not_lt.mpr h1)), not_true_eq_false, not_false_eq_true, and_true, true_and, and_false, false_and, or_true, true_or, or_false, false_or, and_self, or_self, if_true, if_false, Bool.false_eq_true, reduceIte]; done) | (rw [hr, show 8 - i = 0 by omega]; rfl)) hP hS (by decide) (by decide) (dk kX4_passTurn_ok 39 rfl)
      · skip
        refine lv_iload_n hx hb (dk kX4_passTurn_ok 8 rfl) rfl (lv_at hl 1 rfl) ?_
        refine lv_iconst (v := nI 1) hx hb (dk kX4_passTurn_ok 9 rfl) rfl ?_
        refine n_iadd hx hb (dk kX4_passTurn_ok 10 rfl) ?_
        refine lv_iconst (v := nI 4) hx hb (dk kX4_passTurn_ok 11 rfl) rfl ?_
        refine n_irem hx hb (by omega) (by decide) (by decide) (dk kX4_passTurn_ok 12 rfl) ?_
        refine lv_istore_n (lv' := [(1, .int (nI ((q + 1) % 4))), (0, .ref (ad k)), (2, .int (nI i))]) hx hb (dk kX4_passTurn_ok 13 rfl) rfl hl (by decide) rfl (fun ls hl => ?_)
        refine lv_aload_n hx hb (dk kX4_passTurn_ok 14 rfl) rfl (lv_at hl 1 rfl) ?_
        refine gf hx hb hts (fun w h => List.mem_cons_of_mem _ (acX4 w h)) hown hK hP hk0 (sSet_at hS0).1 rfl 0 (by decide) (hts _ (List.mem_cons_of_mem _ (ac4 _ (List.mem_of_getElem? (i := 3) rfl)))) (fun _ h => h) rfl (dk kX4_passTurn_ok 15 rfl) ?_
        refine lv_iload_n hx hb (dk kX4_passTurn_ok 16 rfl) rfl (lv_at hl 0 rfl) ?_
        refine cvR (As := [.int (nI ((q + 1) % 4))]) (rest := []) ⟨hx, hb, hml, hown, hts⟩ (tX1_isAllPotted l D cI cQ cL ad N (sSet cI ad F k c b v g h j2 (nI t) u z) (k + 1) hkm c b v (sSet_at hS0).2.1 (nI ((q + 1) % 4)) ((q + 1) % 4) rfl (by omega)) (cwV9 1 hts mcX1_isAllPotted (ac7 _ (List.mem_of_getElem? (i := 4) rfl)) miX1_isAllPotted meX1_isAllPotted mini_RX1 rfl rfl hdX1_isAllPotted ⟨Nat.le_of_ble_eq_true rfl, Nat.le_of_ble_eq_true rfl⟩) hK hP hNW hk1 (sSet_at hS0).2.1.1 rfl rfl hl.1 rfl (Nat.le_of_ble_eq_true rfl) (by decide) (dk kX4_passTurn_ok 17 rfl) ?_
        refine b_if_eq (tgt := 33) hx hb (dk kX4_passTurn_ok 18 rfl) (by decide) (fun h2 => ?_) (fun h2 => ?_)
        · replace h2 := of_decide_eq_false h2
          refine lv_aload_n hx hb (dk kX4_passTurn_ok 20 rfl) rfl (lv_at hl 1 rfl) ?_
          refine gf hx hb hts (fun w h => List.mem_cons_of_mem _ (acX4 w h)) hown hK hP hk0 (sSet_at hS0).1 rfl 3 (by decide) (hts _ (List.mem_cons_of_mem _ (ac4 _ (List.mem_of_getElem? (i := 6) rfl)))) (fun _ h => h) rfl (dk kX4_passTurn_ok 21 rfl) ?_
          refine lv_iload_n hx hb (dk kX4_passTurn_ok 22 rfl) rfl (lv_at hl 0 rfl) ?_
          refine ald (j := ((q + 1) % 4)) hx hb hK hP hk7 (sSet_at hS0).2.2.2.2 rfl (by omega) (by decide) (dk kX4_passTurn_ok 23 rfl) ?_
          refine lv_if_ne (tgt := 48) hx hb (dk kX4_passTurn_ok 24 rfl) (by decide) (fun h3 => ?_) (fun h3 => ?_)
          · skip
            refine lv_aload_n hx hb (dk kX4_passTurn_ok 29 rfl) rfl (lv_at hl 1 rfl) ?_
            refine gf hx hb hts (fun w h => List.mem_cons_of_mem _ (acX4 w h)) hown hK hP hk0 (sSet_at hS0).1 rfl 3 (by decide) (hts _ (List.mem_cons_of_mem _ (ac4 _ (List.mem_of_getElem? (i := 6) rfl)))) (fun _ h => h) rfl (dk kX4_passTurn_ok 30 rfl) ?_
            refine lv_iload_n hx hb (dk kX4_passTurn_ok 31 rfl) rfl (lv_at hl 0 rfl) ?_
            refine lv_dup2_11 hx hb (dk kX4_passTurn_ok 32 rfl) rfl rfl ?_
            refine ald (j := ((q + 1) % 4)) hx hb hK hP hk7 (sSet_at hS0).2.2.2.2 rfl (by omega) (by decide) (dk kX4_passTurn_ok 33 rfl) ?_
            refine lv_iconst (v := nI 1) hx hb (dk kX4_passTurn_ok 34 rfl) rfl ?_
            refine lv_isub hx hb (dk kX4_passTurn_ok 35 rfl) ?_
            refine ast (sSet cI ad F k c b v g h (upd j2 ((q + 1) % 4) ((j2 ((q + 1) % 4)) - (nI 1))) (nI t) u z) (j := ((q + 1) % 4)) hx hb hK hDi hP hS hk7 (sSet_at hS0).2.2.2.2 rfl (by omega) (by decide) (dk kX4_passTurn_ok 36 rfl) sSet_j (fun H locs hP hS => ?_)
            refine lv_iinc (v := nI (i + 1)) (lv' := [(2, .int (nI (i + 1))), (1, .int (nI ((q + 1) % 4))), (0, .ref (ad k))]) hx hb (dk kX4_passTurn_ok 37 rfl) hl (k := 2) rfl (n_inc _) (by decide) rfl (fun ls hl => ?_)
            refine lv_goto (tgt := 7) hx hb (dk kX4_passTurn_ok 38 rfl) (by decide) ?_
            exact ih7 (i + 1) ((q + 1) % 4) (upd j2 ((q + 1) % 4) ((j2 ((q + 1) % 4)) - (nI 1))) _ _ hP hS (by omega) (by omega) (by rw [hr, show 8 - i = (8 - (i + 1)) + 1 by omega]; simp only [pasg, (eq_true h1), (eq_false (Nat.not_le.mpr h1)), (eq_false h2), (eq_false h3), not_true_eq_false, not_false_eq_true, and_true, true_and, and_false, false_and, or_true, true_or, or_false, false_or, and_self, or_self, if_true, if_false, Bool.false_eq_true, reduceIte]) (by omega) ls (lv_sub hl [2, 1, 0] rfl)
          · skip
            refine lv_aload_n hx hb (dk kX4_passTurn_ok 25 rfl) rfl (lv_at hl 1 rfl) ?_
            refine lv_iload_n hx hb (dk kX4_passTurn_ok 26 rfl) rfl (lv_at hl 0 rfl) ?_
            refine pf (sSet cI ad F k c b v g h j2 (nI ((q + 1) % 4)) u z) hx hb hts (fun w h => List.mem_cons_of_mem _ (acX4 w h)) tyX4 tyX4_ok nmX4 hown hK hDi hP hS hk0 (sSet_at hS0).1 rfl 4 (by decide) (hts _ (List.mem_cons_of_mem _ (ac4 _ (List.mem_of_getElem? (i := 7) rfl)))) (fun _ h => h) rfl (ty := .int) rfl rfl rfl (Nat.le_of_ble_eq_true rfl) (dk kX4_passTurn_ok 27 rfl) sSet_0 (fun H locs hP hS => ?_)
            exact hret _ _ _ _ _ _ _ (by refine ⟨rfl, ?_⟩; first | (rw [hr, show 8 - i = (8 - (i + 1)) + 1 by omega]; simp only [pasg, (eq_true h1), (eq_false (Nat.not_le.mpr h1)), (eq_false h2), (eq_true h3), not_true_eq_false, not_false_eq_true, and_true, true_and, and_false, false_and, or_true, true_or, or_false, false_or, and_self, or_self, if_true, if_false, Bool.false_eq_true, reduceIte]; done) | (rw [hr, show 8 - i = 0 by omega]; rfl)) hP hS (by decide) (by decide) (dk kX4_passTurn_ok 28 rfl)
        · replace h2 := of_decide_eq_true h2
          refine lv_goto (tgt := 58) hx hb (dk kX4_passTurn_ok 19 rfl) (by decide) ?_
          refine lv_iinc (v := nI (i + 1)) (lv' := [(2, .int (nI (i + 1))), (1, .int (nI ((q + 1) % 4))), (0, .ref (ad k))]) hx hb (dk kX4_passTurn_ok 37 rfl) hl (k := 2) rfl (n_inc _) (by decide) rfl (fun ls hl => ?_)
          refine lv_goto (tgt := 7) hx hb (dk kX4_passTurn_ok 38 rfl) (by decide) ?_
          exact ih7 (i + 1) ((q + 1) % 4) j2 _ _ hP hS (by omega) (by omega) (by rw [hr, show 8 - i = (8 - (i + 1)) + 1 by omega]; simp only [pasg, (eq_true h1), (eq_false (Nat.not_le.mpr h1)), (eq_true h2), not_true_eq_false, not_false_eq_true, and_true, true_and, and_false, false_and, or_true, true_or, or_false, false_or, and_self, or_self, if_true, if_false, Bool.false_eq_true, reduceIte]) (by omega) ls (lv_sub hl [2, 1, 0] rfl)
  exact L7 _ 0 t j _ _ hP hS (by first | omega | rfl) (by first | omega | rfl) (by first | omega | rfl) (Nat.lt_succ_self _) ls (lv_sub hl [2, 1, 0] rfl)
set_option maxRecDepth 100000 in
set_option maxHeartbeats 4000000 in
theorem tX4_carryOutFlight (l : Launch) (D : va_G) (cI cQ cL : ClassId) (ad : Nat → Nat) (N : Nat) (F : Nat → va_E) (k : Nat) (hk : k + 7 < N) (c b v g h j : Nat → Int32) (t : Nat) (u z : Int32) (hS0 : stAt cI ad F k c b v g h j (nI t) u z) (ht : t < 4) (x : Int32) (w : Nat) (hxw : x = nI w) (hw : w < 16) (d y : Int32) (f : Nat) (hyf : y = nI f) (hf : f < 2 ^ 30) : MX l yX4_carryOutFlight (Cond.code yX4_carryOutFlight cX4_carryOutFlight 6 (some .int) :: AW) ({ frames := 3, cells := 0, slots := 0, locals := 68 } : Room) D cI cQ cL ad N F [.ref (ad k), .int x, .int d, .int y] (dp (some (.int (fans (flE c w d f)))) (sSet cI ad F k (mov1 c b v w (rest9 w (flE c w d f))) (mov2 c b v w (rest9 w (flE c w d f))) (mov3 c b v w (rest9 w (flE c w d f))) (upd g w (g w + nI 1)) (flH h w (flE c w d f)) ((flP (mov1 c b v w (rest9 w (flE c w d f))) t w (flE c w d f) (flH j w (flE c w d f))).1) (nI ((flP (mov1 c b v w (rest9 w (flE c w d f))) t w (flE c w d f) (flH j w (flE c w d f))).2)) u z)) 0 0 := by
  refine mx_i (ty := .int) (by decide +kernel) rfl (Nat.le_of_ble_eq_true rfl) (fun p e s m below meth cd Q ls hx hb hml hown hts hDi hP hK hNW hS hret hl => ?_)
  have hown : s.vm.findClass RX4 = some m.cls := hown
  subst hxw
  subst hyf
  have hst : stp w f < 2 ^ 31 := by unfold stp; split <;> omega
  have hk0 : k < N := by omega
  have hk1 : k + 1 < N := by omega
  have hk11 : k + 1 + 1 < N := by omega
  have hk12 : k + 1 + 2 < N := by omega
  have hk13 : k + 1 + 3 < N := by omega
  have hkm : k + 1 + 3 < N := by omega
  have hk5 : k + 5 < N := by omega
  have hk6 : k + 6 < N := by omega
  have hk7 : k + 7 < N := hk
  have hP : va_P D vwCl (iW ad N (sSet cI ad F k c b v g h j (nI t) u z)) s.heap := by rw [sSet_self hS0]; exact hP
  have hl : lv_has ls 6 [(0, .ref (ad k)), (1, .int (nI w)), (2, .int d), (3, .int (nI f))] := hl
  refine lv_iload_n hx hb (dk kX4_carryOutFlight_0_ok 0 rfl) rfl (lv_at hl 1 rfl) ?_
  refine csPN (As := [.int (nI w)]) (rest := []) ⟨hx, hb, hml, hown, hts⟩ (tX5_colourOf l (nI w) w rfl (by omega)) (cwN9 1 hts mcX5_colourOf (nm6 hNW) mini_RX5 rfl rfl hdX5_colourOf ⟨Nat.le_of_ble_eq_true rfl, Nat.le_of_ble_eq_true rfl⟩) (hts _ (List.mem_cons_of_mem _ msX5_colourOf)) rfl hl.1 rfl (Nat.le_of_ble_eq_true rfl) (by decide) (dk kX4_carryOutFlight_0_ok 1 rfl) ?_
  refine lv_istore (lv' := [(4, .int (nI (w / 4))), (0, .ref (ad k)), (1, .int (nI w)), (2, .int d), (3, .int (nI f))]) hx hb (dk kX4_carryOutFlight_0_ok 2 rfl) hl (by decide) rfl (fun ls hl => ?_)
  refine lv_aload_n hx hb (dk kX4_carryOutFlight_0_ok 3 rfl) rfl (lv_at hl 1 rfl) ?_
  refine gf hx hb hts (fun w h => List.mem_cons_of_mem _ (acX4 w h)) hown hK hP hk0 (sSet_at hS0).1 rfl 0 (by decide) (hts _ (List.mem_cons_of_mem _ (ac4 _ (List.mem_of_getElem? (i := 3) rfl)))) (fun _ h => h) rfl (dk kX4_carryOutFlight_0_ok 4 rfl) ?_
  refine gfN hx hb hts (fun w h => List.mem_cons_of_mem _ (acX1 w h)) hown hK hP hk1 (sSet_at hS0).2.1.1 rfl 0 (by decide) (nf0 hNW) (fun _ h => h) rfl (dk kX4_carryOutFlight_0_ok 5 rfl) ?_
  refine lv_iload_n hx hb (dk kX4_carryOutFlight_0_ok 6 rfl) rfl (lv_at hl 2 rfl) ?_
  refine ald (j := w) hx hb hK hP hk11 (sSet_at hS0).2.1.2.1 rfl (by omega) (by decide) (dk kX4_carryOutFlight_0_ok 7 rfl) ?_
  refine lv_iload_n hx hb (dk kX4_carryOutFlight_0_ok 8 rfl) rfl (lv_at hl 3 rfl) ?_
  refine lv_iload_n hx hb (dk kX4_carryOutFlight_0_ok 9 rfl) rfl (lv_at hl 2 rfl) ?_
  refine lv_iload_n hx hb (dk kX4_carryOutFlight_0_ok 10 rfl) rfl (lv_at hl 4 rfl) ?_
  refine csPN (As := [.int (nI w), .int (nI f)]) (rest := [.int d, .int (c w)]) ⟨hx, hb, hml, hown, hts⟩ (tX5_stepsOf l (nI w) w rfl (by omega) (nI f) f rfl (by omega)) (cwN9 2 hts mcX5_stepsOf (nm9 hNW) mini_RX5 rfl rfl hdX5_stepsOf ⟨Nat.le_of_ble_eq_true rfl, Nat.le_of_ble_eq_true rfl⟩) (hts _ (List.mem_cons_of_mem _ msX5_stepsOf)) rfl hl.1 rfl (Nat.le_of_ble_eq_true rfl) (by decide) (dk kX4_carryOutFlight_0_ok 11 rfl) ?_
  refine csPN (As := [.int (c w), .int d, .int (nI (stp w f))]) (rest := []) ⟨hx, hb, hml, hown, hts⟩ (tX5_landing l (c w) d (nI (stp w f)) (stp w f) rfl (by omega)) (cwN9 3 hts mcX5_landing (nm10 hNW) mini_RX5 rfl rfl hdX5_landing ⟨Nat.le_of_ble_eq_true rfl, Nat.le_of_ble_eq_true rfl⟩) (hts _ (List.mem_cons_of_mem _ msX5_landing)) rfl hl.1 rfl (Nat.le_of_ble_eq_true rfl) (by decide) (dk kX4_carryOutFlight_0_ok 12 rfl) ?_
  refine lv_istore (lv' := [(5, .int (ldg (c w) d (stp w f))), (4, .int (nI (w / 4))), (0, .ref (ad k)), (1, .int (nI w)), (2, .int d), (3, .int (nI f))]) hx hb (dk kX4_carryOutFlight_0_ok 13 rfl) hl (by decide) rfl (fun ls hl => ?_)
  refine lv_aload_n hx hb (dk kX4_carryOutFlight_0_ok 14 rfl) rfl (lv_at hl 2 rfl) ?_
  refine gf hx hb hts (fun w h => List.mem_cons_of_mem _ (acX4 w h)) hown hK hP hk0 (sSet_at hS0).1 rfl 0 (by decide) (hts _ (List.mem_cons_of_mem _ (ac4 _ (List.mem_of_getElem? (i := 3) rfl)))) (fun _ h => h) rfl (dk kX4_carryOutFlight_0_ok 15 rfl) ?_
  refine lv_iload_n hx hb (dk kX4_carryOutFlight_0_ok 16 rfl) rfl (lv_at hl 3 rfl) ?_
  refine lv_iload_n hx hb (dk kX4_carryOutFlight_0_ok 17 rfl) rfl (lv_at hl 3 rfl) ?_
  refine lv_iload hx hb (dk kX4_carryOutFlight_0_ok 18 rfl) (lv_at hl 0 rfl) ?_
  refine csPN (As := [.int (nI w), .int (ldg (c w) d (stp w f))]) (rest := [.int (nI w), .ref (ad (k + 1))]) ⟨hx, hb, hml, hown, hts⟩ (tX5_restingCell l (nI w) w rfl (by omega) (ldg (c w) d (stp w f))) (cwN9 2 hts mcX5_restingCell (nm11 hNW) mini_RX5 rfl rfl hdX5_restingCell ⟨Nat.le_of_ble_eq_true rfl, Nat.le_of_ble_eq_true rfl⟩) (hts _ (List.mem_cons_of_mem _ msX5_restingCell)) rfl hl.1 rfl (Nat.le_of_ble_eq_true rfl) (by decide) (dk kX4_carryOutFlight_0_ok 19 rfl) ?_
  refine cvDv (As := [.int (nI w), .int (rest9 w (ldg (c w) d (stp w f)))]) (rest := []) (sSet cI ad F k (mov1 c b v w (rest9 w (ldg (c w) d (stp w f)))) (mov2 c b v w (rest9 w (ldg (c w) d (stp w f)))) (mov3 c b v w (rest9 w (ldg (c w) d (stp w f)))) g h j (nI t) u z) ⟨hx, hb, hml, hown, hts⟩ (tX1_move l D cI cQ cL ad N (sSet cI ad F k c b v g h j (nI t) u z) (k + 1) hkm c b v (sSet_at hS0).2.1 (nI w) w rfl (by omega) (rest9 w (ldg (c w) d (stp w f)))) (cwV9 2 hts mcX1_move (ac7 _ (List.mem_of_getElem? (i := 9) rfl)) miX1_move meX1_move mini_RX1 rfl rfl hdX1_move ⟨Nat.le_of_ble_eq_true rfl, Nat.le_of_ble_eq_true rfl⟩) hDi hK hP hNW hS hk1 (sSet_at hS0).2.1.1 rfl rfl hl.1 rfl (Nat.le_of_ble_eq_true rfl) (by decide) (dk kX4_carryOutFlight_0_ok 20 rfl) sSet_m (fun H locs hP hS => ?_)
  refine lv_aload_n hx hb (dk kX4_carryOutFlight_0_ok 21 rfl) rfl (lv_at hl 2 rfl) ?_
  refine gf hx hb hts (fun w h => List.mem_cons_of_mem _ (acX4 w h)) hown hK hP hk0 (sSet_at hS0).1 rfl 1 (by decide) (hts _ (List.mem_cons_of_mem _ (ac4 _ (List.mem_of_getElem? (i := 4) rfl)))) (fun _ h => h) rfl (dk kX4_carryOutFlight_0_ok 22 rfl) ?_
  refine lv_iload_n hx hb (dk kX4_carryOutFlight_0_ok 23 rfl) rfl (lv_at hl 3 rfl) ?_
  refine lv_dup2_11 hx hb (dk kX4_carryOutFlight_0_ok 24 rfl) rfl rfl ?_
  refine ald (j := w) hx hb hK hP hk5 (sSet_at hS0).2.2.1 rfl (by omega) (by decide) (dk kX4_carryOutFlight_0_ok 25 rfl) ?_
  refine lv_iconst (v := nI 1) hx hb (dk kX4_carryOutFlight_0_ok 26 rfl) rfl ?_
  refine lv_iadd hx hb (dk kX4_carryOutFlight_0_ok 27 rfl) ?_
  refine ast (sSet cI ad F k (mov1 c b v w (rest9 w (ldg (c w) d (stp w f)))) (mov2 c b v w (rest9 w (ldg (c w) d (stp w f)))) (mov3 c b v w (rest9 w (ldg (c w) d (stp w f)))) (upd g w ((g w) + (nI 1))) h j (nI t) u z) (j := w) hx hb hK hDi hP hS hk5 (sSet_at hS0).2.2.1 rfl (by omega) (by decide) (dk kX4_carryOutFlight_0_ok 28 rfl) sSet_g (fun H locs hP hS => ?_)
  refine lv_iload hx hb (dk kX4_carryOutFlight_0_ok 29 rfl) (lv_at hl 0 rfl) ?_
  refine lv_iconst (v := -1) hx hb (dk kX4_carryOutFlight_0_ok 30 rfl) rfl ?_
  refine lv_icmp_ne (tgt := 78) hx hb (dk kX4_carryOutFlight_0_ok 31 rfl) (by decide) (fun h1 => ?_) (fun h1 => ?_)
  · skip
    refine lv_iload hx hb (dk kX4_carryOutFlight_0_ok 48 rfl) (lv_at hl 0 rfl) ?_
    refine lv_bipush (v := nI 84) hx hb (dk kX4_carryOutFlight_0_ok 49 rfl) rfl ?_
    refine lv_icmp_ne (tgt := 97) hx hb (dk kX4_carryOutFlight_0_ok 50 rfl) (by decide) (fun h2 => ?_) (fun h2 => ?_)
    · skip
      refine lv_aload_n hx hb (dk kX4_carryOutFlight_0_ok 56 rfl) rfl (lv_at hl 2 rfl) ?_
      refine cvDv (As := []) (rest := []) (sSet cI ad F k (mov1 c b v w (rest9 w (ldg (c w) d (stp w f)))) (mov2 c b v w (rest9 w (ldg (c w) d (stp w f)))) (mov3 c b v w (rest9 w (ldg (c w) d (stp w f)))) (upd g w ((g w) + (nI 1))) h ((pasg (mov1 c b v w (rest9 w (ldg (c w) d (stp w f)))) t 8 j t).1) (nI ((pasg (mov1 c b v w (rest9 w (ldg (c w) d (stp w f)))) t 8 j t).2)) u z) ⟨hx, hb, hml, hown, hts⟩ (tX4_passTurn l D cI cQ cL ad N (sSet cI ad F k (mov1 c b v w (rest9 w (ldg (c w) d (stp w f)))) (mov2 c b v w (rest9 w (ldg (c w) d (stp w f)))) (mov3 c b v w (rest9 w (ldg (c w) d (stp w f)))) (upd g w ((g w) + (nI 1))) h j (nI t) u z) k hk (mov1 c b v w (rest9 w (ldg (c w) d (stp w f)))) (mov2 c b v w (rest9 w (ldg (c w) d (stp w f)))) (mov3 c b v w (rest9 w (ldg (c w) d (stp w f)))) (upd g w ((g w) + (nI 1))) h j t u z (sSet_at hS0) ht) (cwV9 0 hts mcX4_passTurn (ac7 _ (List.mem_of_getElem? (i := 13) rfl)) miX4_passTurn meX4_passTurn mini_RX4 rfl rfl hdX4_passTurn ⟨Nat.le_of_ble_eq_true rfl, Nat.le_of_ble_eq_true rfl⟩) hDi hK hP hNW hS hk0 (sSet_at hS0).1 rfl rfl hl.1 rfl (Nat.le_of_ble_eq_true rfl) (by decide) (dk kX4_carryOutFlight_0_ok 57 rfl) sSet_sSet (fun H locs hP hS => ?_)
      refine lv_iload hx hb (dk kX4_carryOutFlight_0_ok 58 rfl) (lv_at hl 0 rfl) ?_
      refine csPN (As := [.int (ldg (c w) d (stp w f))]) (rest := []) ⟨hx, hb, hml, hown, hts⟩ (tX5_flightAnswer l (ldg (c w) d (stp w f))) (cwN9 1 hts mcX5_flightAnswer (nm12 hNW) mini_RX5 rfl rfl hdX5_flightAnswer ⟨Nat.le_of_ble_eq_true rfl, Nat.le_of_ble_eq_true rfl⟩) (hts _ (List.mem_cons_of_mem _ msX5_flightAnswer)) rfl hl.1 rfl (Nat.le_of_ble_eq_true rfl) (by decide) (dk kX4_carryOutFlight_0_ok 59 rfl) ?_
      exact hret _ _ _ _ _ _ _ _ rfl (by simp only [dp, flE, flH, flP, (eq_false h1), (eq_false h2), not_true_eq_false, not_false_eq_true, and_true, true_and, and_false, false_and, or_true, true_or, or_false, false_or, and_self, or_self, if_true, if_false, Bool.false_eq_true, reduceIte]) hP hS (by decide) (by decide) (dk kX4_carryOutFlight_1_ok 0 rfl)
    · skip
      refine lv_aload_n hx hb (dk kX4_carryOutFlight_0_ok 51 rfl) rfl (lv_at hl 2 rfl) ?_
      refine gf hx hb hts (fun w h => List.mem_cons_of_mem _ (acX4 w h)) hown hK hP hk0 (sSet_at hS0).1 rfl 0 (by decide) (hts _ (List.mem_cons_of_mem _ (ac4 _ (List.mem_of_getElem? (i := 3) rfl)))) (fun _ h => h) rfl (dk kX4_carryOutFlight_0_ok 52 rfl) ?_
      refine lv_iload hx hb (dk kX4_carryOutFlight_0_ok 53 rfl) (lv_at hl 1 rfl) ?_
      refine cvR (As := [.int (nI (w / 4))]) (rest := []) ⟨hx, hb, hml, hown, hts⟩ (tX1_isAllPotted l D cI cQ cL ad N (sSet cI ad F k (mov1 c b v w (rest9 w (ldg (c w) d (stp w f)))) (mov2 c b v w (rest9 w (ldg (c w) d (stp w f)))) (mov3 c b v w (rest9 w (ldg (c w) d (stp w f)))) (upd g w ((g w) + (nI 1))) h j (nI t) u z) (k + 1) hkm (mov1 c b v w (rest9 w (ldg (c w) d (stp w f)))) (mov2 c b v w (rest9 w (ldg (c w) d (stp w f)))) (mov3 c b v w (rest9 w (ldg (c w) d (stp w f)))) (sSet_at hS0).2.1 (nI (w / 4)) (w / 4) rfl (by omega)) (cwV9 1 hts mcX1_isAllPotted (ac7 _ (List.mem_of_getElem? (i := 4) rfl)) miX1_isAllPotted meX1_isAllPotted mini_RX1 rfl rfl hdX1_isAllPotted ⟨Nat.le_of_ble_eq_true rfl, Nat.le_of_ble_eq_true rfl⟩) hK hP hNW hk1 (sSet_at hS0).2.1.1 rfl rfl hl.1 rfl (Nat.le_of_ble_eq_true rfl) (by decide) (dk kX4_carryOutFlight_0_ok 54 rfl) ?_
      refine b_if_eq (tgt := 101) hx hb (dk kX4_carryOutFlight_0_ok 55 rfl) (by decide) (fun h3 => ?_) (fun h3 => ?_)
      · replace h3 := of_decide_eq_false h3
        refine lv_iload hx hb (dk kX4_carryOutFlight_0_ok 58 rfl) (lv_at hl 0 rfl) ?_
        refine csPN (As := [.int (ldg (c w) d (stp w f))]) (rest := []) ⟨hx, hb, hml, hown, hts⟩ (tX5_flightAnswer l (ldg (c w) d (stp w f))) (cwN9 1 hts mcX5_flightAnswer (nm12 hNW) mini_RX5 rfl rfl hdX5_flightAnswer ⟨Nat.le_of_ble_eq_true rfl, Nat.le_of_ble_eq_true rfl⟩) (hts _ (List.mem_cons_of_mem _ msX5_flightAnswer)) rfl hl.1 rfl (Nat.le_of_ble_eq_true rfl) (by decide) (dk kX4_carryOutFlight_0_ok 59 rfl) ?_
        exact hret _ _ _ _ _ _ _ _ rfl (by simp only [dp, flE, flH, flP, (eq_false h1), (eq_true h2), (eq_false h3), not_true_eq_false, not_false_eq_true, and_true, true_and, and_false, false_and, or_true, true_or, or_false, false_or, and_self, or_self, if_true, if_false, Bool.false_eq_true, reduceIte]) hP hS (by decide) (by decide) (dk kX4_carryOutFlight_1_ok 0 rfl)
      · replace h3 := of_decide_eq_true h3
        refine lv_aload_n hx hb (dk kX4_carryOutFlight_0_ok 56 rfl) rfl (lv_at hl 2 rfl) ?_
        refine cvDv (As := []) (rest := []) (sSet cI ad F k (mov1 c b v w (rest9 w (ldg (c w) d (stp w f)))) (mov2 c b v w (rest9 w (ldg (c w) d (stp w f)))) (mov3 c b v w (rest9 w (ldg (c w) d (stp w f)))) (upd g w ((g w) + (nI 1))) h ((pasg (mov1 c b v w (rest9 w (ldg (c w) d (stp w f)))) t 8 j t).1) (nI ((pasg (mov1 c b v w (rest9 w (ldg (c w) d (stp w f)))) t 8 j t).2)) u z) ⟨hx, hb, hml, hown, hts⟩ (tX4_passTurn l D cI cQ cL ad N (sSet cI ad F k (mov1 c b v w (rest9 w (ldg (c w) d (stp w f)))) (mov2 c b v w (rest9 w (ldg (c w) d (stp w f)))) (mov3 c b v w (rest9 w (ldg (c w) d (stp w f)))) (upd g w ((g w) + (nI 1))) h j (nI t) u z) k hk (mov1 c b v w (rest9 w (ldg (c w) d (stp w f)))) (mov2 c b v w (rest9 w (ldg (c w) d (stp w f)))) (mov3 c b v w (rest9 w (ldg (c w) d (stp w f)))) (upd g w ((g w) + (nI 1))) h j t u z (sSet_at hS0) ht) (cwV9 0 hts mcX4_passTurn (ac7 _ (List.mem_of_getElem? (i := 13) rfl)) miX4_passTurn meX4_passTurn mini_RX4 rfl rfl hdX4_passTurn ⟨Nat.le_of_ble_eq_true rfl, Nat.le_of_ble_eq_true rfl⟩) hDi hK hP hNW hS hk0 (sSet_at hS0).1 rfl rfl hl.1 rfl (Nat.le_of_ble_eq_true rfl) (by decide) (dk kX4_carryOutFlight_0_ok 57 rfl) sSet_sSet (fun H locs hP hS => ?_)
        refine lv_iload hx hb (dk kX4_carryOutFlight_0_ok 58 rfl) (lv_at hl 0 rfl) ?_
        refine csPN (As := [.int (ldg (c w) d (stp w f))]) (rest := []) ⟨hx, hb, hml, hown, hts⟩ (tX5_flightAnswer l (ldg (c w) d (stp w f))) (cwN9 1 hts mcX5_flightAnswer (nm12 hNW) mini_RX5 rfl rfl hdX5_flightAnswer ⟨Nat.le_of_ble_eq_true rfl, Nat.le_of_ble_eq_true rfl⟩) (hts _ (List.mem_cons_of_mem _ msX5_flightAnswer)) rfl hl.1 rfl (Nat.le_of_ble_eq_true rfl) (by decide) (dk kX4_carryOutFlight_0_ok 59 rfl) ?_
        exact hret _ _ _ _ _ _ _ _ rfl (by simp only [dp, flE, flH, flP, (eq_false h1), (eq_true h2), (eq_true h3), not_true_eq_false, not_false_eq_true, and_true, true_and, and_false, false_and, or_true, true_or, or_false, false_or, and_self, or_self, if_true, if_false, Bool.false_eq_true, reduceIte]) hP hS (by decide) (by decide) (dk kX4_carryOutFlight_1_ok 0 rfl)
  · skip
    refine lv_aload_n hx hb (dk kX4_carryOutFlight_0_ok 32 rfl) rfl (lv_at hl 2 rfl) ?_
    refine gf hx hb hts (fun w h => List.mem_cons_of_mem _ (acX4 w h)) hown hK hP hk0 (sSet_at hS0).1 rfl 2 (by decide) (hts _ (List.mem_cons_of_mem _ (ac4 _ (List.mem_of_getElem? (i := 5) rfl)))) (fun _ h => h) rfl (dk kX4_carryOutFlight_0_ok 33 rfl) ?_
    refine lv_iload hx hb (dk kX4_carryOutFlight_0_ok 34 rfl) (lv_at hl 1 rfl) ?_
    refine lv_dup2_11 hx hb (dk kX4_carryOutFlight_0_ok 35 rfl) rfl rfl ?_
    refine ald (j := (w / 4)) hx hb hK hP hk6 (sSet_at hS0).2.2.2.1 rfl (by omega) (by decide) (dk kX4_carryOutFlight_0_ok 36 rfl) ?_
    refine lv_iconst (v := nI 1) hx hb (dk kX4_carryOutFlight_0_ok 37 rfl) rfl ?_
    refine lv_iadd hx hb (dk kX4_carryOutFlight_0_ok 38 rfl) ?_
    refine ast (sSet cI ad F k (mov1 c b v w (rest9 w (ldg (c w) d (stp w f)))) (mov2 c b v w (rest9 w (ldg (c w) d (stp w f)))) (mov3 c b v w (rest9 w (ldg (c w) d (stp w f)))) (upd g w ((g w) + (nI 1))) (upd h (w / 4) ((h (w / 4)) + (nI 1))) j (nI t) u z) (j := (w / 4)) hx hb hK hDi hP hS hk6 (sSet_at hS0).2.2.2.1 rfl (by omega) (by decide) (dk kX4_carryOutFlight_0_ok 39 rfl) sSet_h (fun H locs hP hS => ?_)
    refine lv_aload_n hx hb (dk kX4_carryOutFlight_0_ok 40 rfl) rfl (lv_at hl 2 rfl) ?_
    refine gf hx hb hts (fun w h => List.mem_cons_of_mem _ (acX4 w h)) hown hK hP hk0 (sSet_at hS0).1 rfl 3 (by decide) (hts _ (List.mem_cons_of_mem _ (ac4 _ (List.mem_of_getElem? (i := 6) rfl)))) (fun _ h => h) rfl (dk kX4_carryOutFlight_0_ok 41 rfl) ?_
    refine lv_iload hx hb (dk kX4_carryOutFlight_0_ok 42 rfl) (lv_at hl 1 rfl) ?_
    refine lv_dup2_11 hx hb (dk kX4_carryOutFlight_0_ok 43 rfl) rfl rfl ?_
    refine ald (j := (w / 4)) hx hb hK hP hk7 (sSet_at hS0).2.2.2.2 rfl (by omega) (by decide) (dk kX4_carryOutFlight_0_ok 44 rfl) ?_
    refine lv_iconst (v := nI 1) hx hb (dk kX4_carryOutFlight_0_ok 45 rfl) rfl ?_
    refine lv_iadd hx hb (dk kX4_carryOutFlight_0_ok 46 rfl) ?_
    refine ast (sSet cI ad F k (mov1 c b v w (rest9 w (ldg (c w) d (stp w f)))) (mov2 c b v w (rest9 w (ldg (c w) d (stp w f)))) (mov3 c b v w (rest9 w (ldg (c w) d (stp w f)))) (upd g w ((g w) + (nI 1))) (upd h (w / 4) ((h (w / 4)) + (nI 1))) (upd j (w / 4) ((j (w / 4)) + (nI 1))) (nI t) u z) (j := (w / 4)) hx hb hK hDi hP hS hk7 (sSet_at hS0).2.2.2.2 rfl (by omega) (by decide) (dk kX4_carryOutFlight_0_ok 47 rfl) sSet_j (fun H locs hP hS => ?_)
    refine lv_iload hx hb (dk kX4_carryOutFlight_0_ok 48 rfl) (lv_at hl 0 rfl) ?_
    refine lv_bipush (v := nI 84) hx hb (dk kX4_carryOutFlight_0_ok 49 rfl) rfl ?_
    refine lv_icmp_ne (tgt := 97) hx hb (dk kX4_carryOutFlight_0_ok 50 rfl) (by decide) (fun h4 => ?_) (fun h4 => ?_)
    · skip
      refine lv_aload_n hx hb (dk kX4_carryOutFlight_0_ok 56 rfl) rfl (lv_at hl 2 rfl) ?_
      refine cvDv (As := []) (rest := []) (sSet cI ad F k (mov1 c b v w (rest9 w (ldg (c w) d (stp w f)))) (mov2 c b v w (rest9 w (ldg (c w) d (stp w f)))) (mov3 c b v w (rest9 w (ldg (c w) d (stp w f)))) (upd g w ((g w) + (nI 1))) (upd h (w / 4) ((h (w / 4)) + (nI 1))) ((pasg (mov1 c b v w (rest9 w (ldg (c w) d (stp w f)))) t 8 (upd j (w / 4) ((j (w / 4)) + (nI 1))) t).1) (nI ((pasg (mov1 c b v w (rest9 w (ldg (c w) d (stp w f)))) t 8 (upd j (w / 4) ((j (w / 4)) + (nI 1))) t).2)) u z) ⟨hx, hb, hml, hown, hts⟩ (tX4_passTurn l D cI cQ cL ad N (sSet cI ad F k (mov1 c b v w (rest9 w (ldg (c w) d (stp w f)))) (mov2 c b v w (rest9 w (ldg (c w) d (stp w f)))) (mov3 c b v w (rest9 w (ldg (c w) d (stp w f)))) (upd g w ((g w) + (nI 1))) (upd h (w / 4) ((h (w / 4)) + (nI 1))) (upd j (w / 4) ((j (w / 4)) + (nI 1))) (nI t) u z) k hk (mov1 c b v w (rest9 w (ldg (c w) d (stp w f)))) (mov2 c b v w (rest9 w (ldg (c w) d (stp w f)))) (mov3 c b v w (rest9 w (ldg (c w) d (stp w f)))) (upd g w ((g w) + (nI 1))) (upd h (w / 4) ((h (w / 4)) + (nI 1))) (upd j (w / 4) ((j (w / 4)) + (nI 1))) t u z (sSet_at hS0) ht) (cwV9 0 hts mcX4_passTurn (ac7 _ (List.mem_of_getElem? (i := 13) rfl)) miX4_passTurn meX4_passTurn mini_RX4 rfl rfl hdX4_passTurn ⟨Nat.le_of_ble_eq_true rfl, Nat.le_of_ble_eq_true rfl⟩) hDi hK hP hNW hS hk0 (sSet_at hS0).1 rfl rfl hl.1 rfl (Nat.le_of_ble_eq_true rfl) (by decide) (dk kX4_carryOutFlight_0_ok 57 rfl) sSet_sSet (fun H locs hP hS => ?_)
      refine lv_iload hx hb (dk kX4_carryOutFlight_0_ok 58 rfl) (lv_at hl 0 rfl) ?_
      refine csPN (As := [.int (ldg (c w) d (stp w f))]) (rest := []) ⟨hx, hb, hml, hown, hts⟩ (tX5_flightAnswer l (ldg (c w) d (stp w f))) (cwN9 1 hts mcX5_flightAnswer (nm12 hNW) mini_RX5 rfl rfl hdX5_flightAnswer ⟨Nat.le_of_ble_eq_true rfl, Nat.le_of_ble_eq_true rfl⟩) (hts _ (List.mem_cons_of_mem _ msX5_flightAnswer)) rfl hl.1 rfl (Nat.le_of_ble_eq_true rfl) (by decide) (dk kX4_carryOutFlight_0_ok 59 rfl) ?_
      exact hret _ _ _ _ _ _ _ _ rfl (by simp only [dp, flE, flH, flP, (eq_true h1), (eq_false h4), not_true_eq_false, not_false_eq_true, and_true, true_and, and_false, false_and, or_true, true_or, or_false, false_or, and_self, or_self, if_true, if_false, Bool.false_eq_true, reduceIte]) hP hS (by decide) (by decide) (dk kX4_carryOutFlight_1_ok 0 rfl)
    · skip
      refine lv_aload_n hx hb (dk kX4_carryOutFlight_0_ok 51 rfl) rfl (lv_at hl 2 rfl) ?_
      refine gf hx hb hts (fun w h => List.mem_cons_of_mem _ (acX4 w h)) hown hK hP hk0 (sSet_at hS0).1 rfl 0 (by decide) (hts _ (List.mem_cons_of_mem _ (ac4 _ (List.mem_of_getElem? (i := 3) rfl)))) (fun _ h => h) rfl (dk kX4_carryOutFlight_0_ok 52 rfl) ?_
      refine lv_iload hx hb (dk kX4_carryOutFlight_0_ok 53 rfl) (lv_at hl 1 rfl) ?_
      refine cvR (As := [.int (nI (w / 4))]) (rest := []) ⟨hx, hb, hml, hown, hts⟩ (tX1_isAllPotted l D cI cQ cL ad N (sSet cI ad F k (mov1 c b v w (rest9 w (ldg (c w) d (stp w f)))) (mov2 c b v w (rest9 w (ldg (c w) d (stp w f)))) (mov3 c b v w (rest9 w (ldg (c w) d (stp w f)))) (upd g w ((g w) + (nI 1))) (upd h (w / 4) ((h (w / 4)) + (nI 1))) (upd j (w / 4) ((j (w / 4)) + (nI 1))) (nI t) u z) (k + 1) hkm (mov1 c b v w (rest9 w (ldg (c w) d (stp w f)))) (mov2 c b v w (rest9 w (ldg (c w) d (stp w f)))) (mov3 c b v w (rest9 w (ldg (c w) d (stp w f)))) (sSet_at hS0).2.1 (nI (w / 4)) (w / 4) rfl (by omega)) (cwV9 1 hts mcX1_isAllPotted (ac7 _ (List.mem_of_getElem? (i := 4) rfl)) miX1_isAllPotted meX1_isAllPotted mini_RX1 rfl rfl hdX1_isAllPotted ⟨Nat.le_of_ble_eq_true rfl, Nat.le_of_ble_eq_true rfl⟩) hK hP hNW hk1 (sSet_at hS0).2.1.1 rfl rfl hl.1 rfl (Nat.le_of_ble_eq_true rfl) (by decide) (dk kX4_carryOutFlight_0_ok 54 rfl) ?_
      refine b_if_eq (tgt := 101) hx hb (dk kX4_carryOutFlight_0_ok 55 rfl) (by decide) (fun h5 => ?_) (fun h5 => ?_)
      · replace h5 := of_decide_eq_false h5
        refine lv_iload hx hb (dk kX4_carryOutFlight_0_ok 58 rfl) (lv_at hl 0 rfl) ?_
        refine csPN (As := [.int (ldg (c w) d (stp w f))]) (rest := []) ⟨hx, hb, hml, hown, hts⟩ (tX5_flightAnswer l (ldg (c w) d (stp w f))) (cwN9 1 hts mcX5_flightAnswer (nm12 hNW) mini_RX5 rfl rfl hdX5_flightAnswer ⟨Nat.le_of_ble_eq_true rfl, Nat.le_of_ble_eq_true rfl⟩) (hts _ (List.mem_cons_of_mem _ msX5_flightAnswer)) rfl hl.1 rfl (Nat.le_of_ble_eq_true rfl) (by decide) (dk kX4_carryOutFlight_0_ok 59 rfl) ?_
        exact hret _ _ _ _ _ _ _ _ rfl (by simp only [dp, flE, flH, flP, (eq_true h1), (eq_true h4), (eq_false h5), not_true_eq_false, not_false_eq_true, and_true, true_and, and_false, false_and, or_true, true_or, or_false, false_or, and_self, or_self, if_true, if_false, Bool.false_eq_true, reduceIte]) hP hS (by decide) (by decide) (dk kX4_carryOutFlight_1_ok 0 rfl)
      · replace h5 := of_decide_eq_true h5
        refine lv_aload_n hx hb (dk kX4_carryOutFlight_0_ok 56 rfl) rfl (lv_at hl 2 rfl) ?_
        refine cvDv (As := []) (rest := []) (sSet cI ad F k (mov1 c b v w (rest9 w (ldg (c w) d (stp w f)))) (mov2 c b v w (rest9 w (ldg (c w) d (stp w f)))) (mov3 c b v w (rest9 w (ldg (c w) d (stp w f)))) (upd g w ((g w) + (nI 1))) (upd h (w / 4) ((h (w / 4)) + (nI 1))) ((pasg (mov1 c b v w (rest9 w (ldg (c w) d (stp w f)))) t 8 (upd j (w / 4) ((j (w / 4)) + (nI 1))) t).1) (nI ((pasg (mov1 c b v w (rest9 w (ldg (c w) d (stp w f)))) t 8 (upd j (w / 4) ((j (w / 4)) + (nI 1))) t).2)) u z) ⟨hx, hb, hml, hown, hts⟩ (tX4_passTurn l D cI cQ cL ad N (sSet cI ad F k (mov1 c b v w (rest9 w (ldg (c w) d (stp w f)))) (mov2 c b v w (rest9 w (ldg (c w) d (stp w f)))) (mov3 c b v w (rest9 w (ldg (c w) d (stp w f)))) (upd g w ((g w) + (nI 1))) (upd h (w / 4) ((h (w / 4)) + (nI 1))) (upd j (w / 4) ((j (w / 4)) + (nI 1))) (nI t) u z) k hk (mov1 c b v w (rest9 w (ldg (c w) d (stp w f)))) (mov2 c b v w (rest9 w (ldg (c w) d (stp w f)))) (mov3 c b v w (rest9 w (ldg (c w) d (stp w f)))) (upd g w ((g w) + (nI 1))) (upd h (w / 4) ((h (w / 4)) + (nI 1))) (upd j (w / 4) ((j (w / 4)) + (nI 1))) t u z (sSet_at hS0) ht) (cwV9 0 hts mcX4_passTurn (ac7 _ (List.mem_of_getElem? (i := 13) rfl)) miX4_passTurn meX4_passTurn mini_RX4 rfl rfl hdX4_passTurn ⟨Nat.le_of_ble_eq_true rfl, Nat.le_of_ble_eq_true rfl⟩) hDi hK hP hNW hS hk0 (sSet_at hS0).1 rfl rfl hl.1 rfl (Nat.le_of_ble_eq_true rfl) (by decide) (dk kX4_carryOutFlight_0_ok 57 rfl) sSet_sSet (fun H locs hP hS => ?_)
        refine lv_iload hx hb (dk kX4_carryOutFlight_0_ok 58 rfl) (lv_at hl 0 rfl) ?_
        refine csPN (As := [.int (ldg (c w) d (stp w f))]) (rest := []) ⟨hx, hb, hml, hown, hts⟩ (tX5_flightAnswer l (ldg (c w) d (stp w f))) (cwN9 1 hts mcX5_flightAnswer (nm12 hNW) mini_RX5 rfl rfl hdX5_flightAnswer ⟨Nat.le_of_ble_eq_true rfl, Nat.le_of_ble_eq_true rfl⟩) (hts _ (List.mem_cons_of_mem _ msX5_flightAnswer)) rfl hl.1 rfl (Nat.le_of_ble_eq_true rfl) (by decide) (dk kX4_carryOutFlight_0_ok 59 rfl) ?_
        exact hret _ _ _ _ _ _ _ _ rfl (by simp only [dp, flE, flH, flP, (eq_true h1), (eq_true h4), (eq_true h5), not_true_eq_false, not_false_eq_true, and_true, true_and, and_false, false_and, or_true, true_or, or_false, false_or, and_self, or_self, if_true, if_false, Bool.false_eq_true, reduceIte]) hP hS (by decide) (by decide) (dk kX4_carryOutFlight_1_ok 0 rfl)
set_option maxRecDepth 100000 in
set_option maxHeartbeats 4000000 in
theorem tX4_carryOutLift (l : Launch) (D : va_G) (cI cQ cL : ClassId) (ad : Nat → Nat) (N : Nat) (F : Nat → va_E) (k : Nat) (hk : k + 7 < N) (c b v g h j : Nat → Int32) (t : Nat) (u z : Int32) (hS0 : stAt cI ad F k c b v g h j (nI t) u z) (ht : t < 4) (x y m9 : Int32) (n : Nat) (hmn : m9 = nI n) (hn1 : 1 ≤ n) (hn : n < 2 ^ 31) (d : Int32) : MX l yX4_carryOutLift (Cond.code yX4_carryOutLift cX4_carryOutLift 6 none :: AW) ({ frames := 3, cells := 0, slots := 0, locals := 68 } : Room) D cI cQ cL ad N F [.ref (ad k), .int x, .int y, .int m9, .int d] (dp none (sSet cI ad F k (liC c b v x y n d) (liB c b v x y n d) (liV c b v x y n d) g h ((pasg (liC c b v x y n d) t 8 j t).1) (nI ((pasg (liC c b v x y n d) t 8 j t).2)) (u + nI 1) z)) 0 0 := by
  refine mx_v (by decide +kernel) rfl (Nat.le_of_ble_eq_true rfl) (fun p e s m below meth cd Q ls hx hb hml hown hts hDi hP hK hNW hS hret hl => ?_)
  have hown : s.vm.findClass RX4 = some m.cls := hown
  subst hmn
  have hk0 : k < N := by omega
  have hk1 : k + 1 < N := by omega
  have hk11 : k + 1 + 1 < N := by omega
  have hk12 : k + 1 + 2 < N := by omega
  have hk13 : k + 1 + 3 < N := by omega
  have hkm : k + 1 + 3 < N := by omega
  have hk5 : k + 5 < N := by omega
  have hk6 : k + 6 < N := by omega
  have hk7 : k + 7 < N := hk
  have hP : va_P D vwCl (iW ad N (sSet cI ad F k c b v g h j (nI t) u z)) s.heap := by rw [sSet_self hS0]; exact hP
  have hl : lv_has ls 6 [(0, .ref (ad k)), (1, .int x), (2, .int y), (3, .int (nI n)), (4, .int d)] := hl
  refine lv_aload_n hx hb (dk kX4_carryOutLift_ok 0 rfl) rfl (lv_at hl 0 rfl) ?_
  refine gf hx hb hts (fun w h => List.mem_cons_of_mem _ (acX4 w h)) hown hK hP hk0 (sSet_at hS0).1 rfl 0 (by decide) (hts _ (List.mem_cons_of_mem _ (ac4 _ (List.mem_of_getElem? (i := 3) rfl)))) (fun _ h => h) rfl (dk kX4_carryOutLift_ok 1 rfl) ?_
  refine lv_iload_n hx hb (dk kX4_carryOutLift_ok 2 rfl) rfl (lv_at hl 1 rfl) ?_
  refine lv_iload_n hx hb (dk kX4_carryOutLift_ok 3 rfl) rfl (lv_at hl 2 rfl) ?_
  refine csPN (As := [.int x, .int y]) (rest := [.ref (ad (k + 1))]) ⟨hx, hb, hml, hown, hts⟩ (tX5_cellAt l x y) (cwN9 2 hts mcX5_cellAt (nm13 hNW) mini_RX5 rfl rfl hdX5_cellAt ⟨Nat.le_of_ble_eq_true rfl, Nat.le_of_ble_eq_true rfl⟩) (hts _ (List.mem_cons_of_mem _ msX5_cellAt)) rfl hl.1 rfl (Nat.le_of_ble_eq_true rfl) (by decide) (dk kX4_carryOutLift_ok 4 rfl) ?_
  refine lv_iload_n hx hb (dk kX4_carryOutLift_ok 5 rfl) rfl (lv_at hl 3 rfl) ?_
  refine cvR (As := [.int (cat x y), .int (nI n)]) (rest := []) ⟨hx, hb, hml, hown, hts⟩ (tX1_lowestOfUpper l D cI cQ cL ad N (sSet cI ad F k c b v g h j (nI t) u z) (k + 1) hkm c b v (sSet_at hS0).2.1 (cat x y) (nI n) n rfl (by omega) (by omega)) (cwV9 2 hts mcX1_lowestOfUpper (ac6 _ (List.mem_of_getElem? (i := 16) rfl)) miX1_lowestOfUpper meX1_lowestOfUpper mini_RX1 rfl rfl hdX1_lowestOfUpper ⟨Nat.le_of_ble_eq_true rfl, Nat.le_of_ble_eq_true rfl⟩) hK hP hNW hk1 (sSet_at hS0).2.1.1 rfl rfl hl.1 rfl (Nat.le_of_ble_eq_true rfl) (by decide) (dk kX4_carryOutLift_ok 6 rfl) ?_
  refine lv_istore (lv' := [(5, .int (low c b v (cat x y) n)), (0, .ref (ad k)), (1, .int x), (2, .int y), (3, .int (nI n)), (4, .int d)]) hx hb (dk kX4_carryOutLift_ok 7 rfl) hl (by decide) rfl (fun ls hl => ?_)
  refine lv_iload hx hb (dk kX4_carryOutLift_ok 8 rfl) (lv_at hl 0 rfl) ?_
  refine csPN (As := [.int (low c b v (cat x y) n)]) (rest := []) ⟨hx, hb, hml, hown, hts⟩ (tX5_isWink l (low c b v (cat x y) n)) (cwN9 1 hts mcX5_isWink (nm15 hNW) mini_RX5 rfl rfl hdX5_isWink ⟨Nat.le_of_ble_eq_true rfl, Nat.le_of_ble_eq_true rfl⟩) (hts _ (List.mem_cons_of_mem _ msX5_isWink)) rfl hl.1 rfl (Nat.le_of_ble_eq_true rfl) (by decide) (dk kX4_carryOutLift_ok 9 rfl) ?_
  refine b_if_eq (tgt := 39) hx hb (dk kX4_carryOutLift_ok 10 rfl) (by decide) (fun h1 => ?_) (fun h1 => ?_)
  · skip
    refine lv_aload_n hx hb (dk kX4_carryOutLift_ok 19 rfl) rfl (lv_at hl 1 rfl) ?_
    refine lv_dup hx hb (dk kX4_carryOutLift_ok 20 rfl) rfl ?_
    refine gf hx hb hts (fun w h => List.mem_cons_of_mem _ (acX4 w h)) hown hK hP hk0 (sSet_at hS0).1 rfl 5 (by decide) (hts _ (List.mem_cons_of_mem _ (ac4 _ (List.mem_of_getElem? (i := 8) rfl)))) (fun _ h => h) rfl (dk kX4_carryOutLift_ok 21 rfl) ?_
    refine lv_iconst (v := nI 1) hx hb (dk kX4_carryOutLift_ok 22 rfl) rfl ?_
    refine lv_iadd hx hb (dk kX4_carryOutLift_ok 23 rfl) ?_
    refine pf (sSet cI ad F k c b v g h j (nI t) (u + (nI 1)) z) hx hb hts (fun w h => List.mem_cons_of_mem _ (acX4 w h)) tyX4 tyX4_ok nmX4 hown hK hDi hP hS hk0 (sSet_at hS0).1 rfl 5 (by decide) (hts _ (List.mem_cons_of_mem _ (ac4 _ (List.mem_of_getElem? (i := 8) rfl)))) (fun _ h => h) rfl (ty := .int) rfl rfl rfl (Nat.le_of_ble_eq_true rfl) (dk kX4_carryOutLift_ok 24 rfl) sSet_0 (fun H locs hP hS => ?_)
    refine lv_aload_n hx hb (dk kX4_carryOutLift_ok 25 rfl) rfl (lv_at hl 1 rfl) ?_
    refine cvDv (As := []) (rest := []) (sSet cI ad F k c b v g h ((pasg c t 8 j t).1) (nI ((pasg c t 8 j t).2)) (u + (nI 1)) z) ⟨hx, hb, hml, hown, hts⟩ (tX4_passTurn l D cI cQ cL ad N (sSet cI ad F k c b v g h j (nI t) (u + (nI 1)) z) k hk c b v g h j t (u + (nI 1)) z (sSet_at hS0) ht) (cwV9 0 hts mcX4_passTurn (ac7 _ (List.mem_of_getElem? (i := 13) rfl)) miX4_passTurn meX4_passTurn mini_RX4 rfl rfl hdX4_passTurn ⟨Nat.le_of_ble_eq_true rfl, Nat.le_of_ble_eq_true rfl⟩) hDi hK hP hNW hS hk0 (sSet_at hS0).1 rfl rfl hl.1 rfl (Nat.le_of_ble_eq_true rfl) (by decide) (dk kX4_carryOutLift_ok 26 rfl) sSet_sSet (fun H locs hP hS => ?_)
    exact hret _ _ _ _ _ _ _ (by simp only [dp, liC, liB, liV, h1, not_true_eq_false, not_false_eq_true, and_true, true_and, and_false, false_and, or_true, true_or, or_false, false_or, and_self, or_self, if_true, if_false, Bool.false_eq_true, reduceIte]) hP hS (by decide) (by decide) (dk kX4_carryOutLift_ok 27 rfl)
  · skip
    refine lv_aload_n hx hb (dk kX4_carryOutLift_ok 11 rfl) rfl (lv_at hl 1 rfl) ?_
    refine gf hx hb hts (fun w h => List.mem_cons_of_mem _ (acX4 w h)) hown hK hP hk0 (sSet_at hS0).1 rfl 0 (by decide) (hts _ (List.mem_cons_of_mem _ (ac4 _ (List.mem_of_getElem? (i := 3) rfl)))) (fun _ h => h) rfl (dk kX4_carryOutLift_ok 12 rfl) ?_
    refine lv_iload hx hb (dk kX4_carryOutLift_ok 13 rfl) (lv_at hl 0 rfl) ?_
    refine lv_iload_n hx hb (dk kX4_carryOutLift_ok 14 rfl) rfl (lv_at hl 2 rfl) ?_
    refine lv_iload_n hx hb (dk kX4_carryOutLift_ok 15 rfl) rfl (lv_at hl 3 rfl) ?_
    refine lv_iload hx hb (dk kX4_carryOutLift_ok 16 rfl) (lv_at hl 5 rfl) ?_
    refine csPN (As := [.int x, .int y, .int d]) (rest := [.int (low c b v (cat x y) n), .ref (ad (k + 1))]) ⟨hx, hb, hml, hown, hts⟩ (tX5_cellBeside l x y d) (cwN9 3 hts mcX5_cellBeside (nm14 hNW) mini_RX5 rfl rfl hdX5_cellBeside ⟨Nat.le_of_ble_eq_true rfl, Nat.le_of_ble_eq_true rfl⟩) (hts _ (List.mem_cons_of_mem _ msX5_cellBeside)) rfl hl.1 rfl (Nat.le_of_ble_eq_true rfl) (by decide) (dk kX4_carryOutLift_ok 17 rfl) ?_
    refine cvDv (As := [.int (low c b v (cat x y) n), .int (beside x y d)]) (rest := []) (sSet cI ad F k (mov1 c b v (ix (low c b v (cat x y) n)) (beside x y d)) (mov2 c b v (ix (low c b v (cat x y) n)) (beside x y d)) (mov3 c b v (ix (low c b v (cat x y) n)) (beside x y d)) g h j (nI t) u z) ⟨hx, hb, hml, hown, hts⟩ (tX1_move l D cI cQ cL ad N (sSet cI ad F k c b v g h j (nI t) u z) (k + 1) hkm c b v (sSet_at hS0).2.1 (low c b v (cat x y) n) (ix (low c b v (cat x y) n)) (wk_eq h1) (by have := wk_lt h1; omega) (beside x y d)) (cwV9 2 hts mcX1_move (ac7 _ (List.mem_of_getElem? (i := 9) rfl)) miX1_move meX1_move mini_RX1 rfl rfl hdX1_move ⟨Nat.le_of_ble_eq_true rfl, Nat.le_of_ble_eq_true rfl⟩) hDi hK hP hNW hS hk1 (sSet_at hS0).2.1.1 rfl rfl hl.1 rfl (Nat.le_of_ble_eq_true rfl) (by decide) (dk kX4_carryOutLift_ok 18 rfl) sSet_m (fun H locs hP hS => ?_)
    refine lv_aload_n hx hb (dk kX4_carryOutLift_ok 19 rfl) rfl (lv_at hl 1 rfl) ?_
    refine lv_dup hx hb (dk kX4_carryOutLift_ok 20 rfl) rfl ?_
    refine gf hx hb hts (fun w h => List.mem_cons_of_mem _ (acX4 w h)) hown hK hP hk0 (sSet_at hS0).1 rfl 5 (by decide) (hts _ (List.mem_cons_of_mem _ (ac4 _ (List.mem_of_getElem? (i := 8) rfl)))) (fun _ h => h) rfl (dk kX4_carryOutLift_ok 21 rfl) ?_
    refine lv_iconst (v := nI 1) hx hb (dk kX4_carryOutLift_ok 22 rfl) rfl ?_
    refine lv_iadd hx hb (dk kX4_carryOutLift_ok 23 rfl) ?_
    refine pf (sSet cI ad F k (mov1 c b v (ix (low c b v (cat x y) n)) (beside x y d)) (mov2 c b v (ix (low c b v (cat x y) n)) (beside x y d)) (mov3 c b v (ix (low c b v (cat x y) n)) (beside x y d)) g h j (nI t) (u + (nI 1)) z) hx hb hts (fun w h => List.mem_cons_of_mem _ (acX4 w h)) tyX4 tyX4_ok nmX4 hown hK hDi hP hS hk0 (sSet_at hS0).1 rfl 5 (by decide) (hts _ (List.mem_cons_of_mem _ (ac4 _ (List.mem_of_getElem? (i := 8) rfl)))) (fun _ h => h) rfl (ty := .int) rfl rfl rfl (Nat.le_of_ble_eq_true rfl) (dk kX4_carryOutLift_ok 24 rfl) sSet_0 (fun H locs hP hS => ?_)
    refine lv_aload_n hx hb (dk kX4_carryOutLift_ok 25 rfl) rfl (lv_at hl 1 rfl) ?_
    refine cvDv (As := []) (rest := []) (sSet cI ad F k (mov1 c b v (ix (low c b v (cat x y) n)) (beside x y d)) (mov2 c b v (ix (low c b v (cat x y) n)) (beside x y d)) (mov3 c b v (ix (low c b v (cat x y) n)) (beside x y d)) g h ((pasg (mov1 c b v (ix (low c b v (cat x y) n)) (beside x y d)) t 8 j t).1) (nI ((pasg (mov1 c b v (ix (low c b v (cat x y) n)) (beside x y d)) t 8 j t).2)) (u + (nI 1)) z) ⟨hx, hb, hml, hown, hts⟩ (tX4_passTurn l D cI cQ cL ad N (sSet cI ad F k (mov1 c b v (ix (low c b v (cat x y) n)) (beside x y d)) (mov2 c b v (ix (low c b v (cat x y) n)) (beside x y d)) (mov3 c b v (ix (low c b v (cat x y) n)) (beside x y d)) g h j (nI t) (u + (nI 1)) z) k hk (mov1 c b v (ix (low c b v (cat x y) n)) (beside x y d)) (mov2 c b v (ix (low c b v (cat x y) n)) (beside x y d)) (mov3 c b v (ix (low c b v (cat x y) n)) (beside x y d)) g h j t (u + (nI 1)) z (sSet_at hS0) ht) (cwV9 0 hts mcX4_passTurn (ac7 _ (List.mem_of_getElem? (i := 13) rfl)) miX4_passTurn meX4_passTurn mini_RX4 rfl rfl hdX4_passTurn ⟨Nat.le_of_ble_eq_true rfl, Nat.le_of_ble_eq_true rfl⟩) hDi hK hP hNW hS hk0 (sSet_at hS0).1 rfl rfl hl.1 rfl (Nat.le_of_ble_eq_true rfl) (by decide) (dk kX4_carryOutLift_ok 26 rfl) sSet_sSet (fun H locs hP hS => ?_)
    exact hret _ _ _ _ _ _ _ (by simp only [dp, liC, liB, liV, h1, not_true_eq_false, not_false_eq_true, and_true, true_and, and_false, false_and, or_true, true_or, or_false, false_or, and_self, or_self, if_true, if_false, Bool.false_eq_true, reduceIte]) hP hS (by decide) (by decide) (dk kX4_carryOutLift_ok 27 rfl)
end
section
def gtAt (cI : ClassId) (ad : Nat → Nat) (F : Nat → va_E) (k : Nat) (a : Nat → Int32) (n : Nat) : Prop := F k = .inr (0, [.ref (ad (k + 1)), .int (nI n)]) ∧ F (k + 1) = .inl (cI, 60, .inl a)
def gtSet (cI : ClassId) (ad : Nat → Nat) (F : Nat → va_E) (k : Nat) (a : Nat → Int32) (n : Nat) : Nat → va_E := fun i => if i = k then .inr (0, [.ref (ad (k + 1)), .int (nI n)]) else if i = k + 1 then .inl (cI, 60, .inl a) else F i
section
variable {cI : ClassId} {ad : Nat → Nat} {F : Nat → va_E} {k : Nat} {a : Nat → Int32} {n : Nat} {a' : Nat → Int32} {n' : Nat}
theorem gtSet_self (H : gtAt cI ad F k a n) : gtSet cI ad F k a n = F := by
  funext i
  obtain ⟨h0, h1⟩ := H
  unfold gtSet
  by_cases e0 : i = k
  · rw [if_pos e0, e0, h0]
  rw [if_neg e0]
  by_cases e1 : i = k + 1
  · rw [if_pos e1, e1, h1]
  rw [if_neg e1]
theorem gtSet_out {i : Nat} (hi : i < k ∨ k + 1 < i) : gtSet cI ad F k a n i = F i := by
  unfold gtSet
  rw [if_neg (by omega), if_neg (by omega)]
theorem gtSet_at : gtAt cI ad (gtSet cI ad F k a n) k a n := by
  refine ⟨?_, ?_⟩
  · simp [gtSet]
  · simp [gtSet]
theorem gtSet_gtSet : gtSet cI ad (gtSet cI ad F k a n) k a' n' = gtSet cI ad F k a' n' := by
  funext i
  by_cases e0 : i = k
  · simp [gtSet, e0]
  by_cases e1 : i = k + 1
  · simp [gtSet, e1]
  simp [gtSet, e0, e1]
theorem gtSet_u0 : va_up (gtSet cI ad F k a n) (k) (.inr (0, [.ref (ad (k + 1)), .int (nI n')])) = gtSet cI ad F k a n' := by
  funext i
  by_cases e0 : i = k
  · simp [va_up, gtSet, e0]
  by_cases e1 : i = k + 1
  · simp [va_up, gtSet, e1]
  simp [va_up, gtSet, e0, e1]
theorem gtSet_u1 : va_up (gtSet cI ad F k a n) (k + 1) (.inl (cI, 60, .inl a')) = gtSet cI ad F k a' n := by
  funext i
  by_cases e0 : i = k
  · simp [va_up, gtSet, e0]
  by_cases e1 : i = k + 1
  · simp [va_up, gtSet, e1]
  simp [va_up, gtSet, e0, e1]
theorem gtAt_keep {G : Nat → va_E} (H : gtAt cI ad F k a n) (hG : ∀ i, k ≤ i → i ≤ k + 1 → G i = F i) : gtAt cI ad G k a n := by
  obtain ⟨h0, h1⟩ := H
  exact ⟨by rw [hG _ (by omega) (by omega)]; exact h0, by rw [hG _ (by omega) (by omega)]; exact h1⟩
end
def paAt (cQ : ClassId) (ad : Nat → Nat) (F : Nat → va_E) (k : Nat) (n : Nat) (m : Nat) : Prop := F k = .inr (2, [.ref (ad (k + 1)), .int (nI n), .int (nI m)]) ∧ F (k + 1) = .inl (cQ, 6, .inr (.inr (.inr (.inr (fun i9 => some (ad (k + 2 + 8 * i9)))))))
def paSet (cQ : ClassId) (ad : Nat → Nat) (F : Nat → va_E) (k : Nat) (n : Nat) (m : Nat) : Nat → va_E := fun i => if i = k then .inr (2, [.ref (ad (k + 1)), .int (nI n), .int (nI m)]) else if i = k + 1 then .inl (cQ, 6, .inr (.inr (.inr (.inr (fun i9 => some (ad (k + 2 + 8 * i9))))))) else F i
section
variable {cQ : ClassId} {ad : Nat → Nat} {F : Nat → va_E} {k : Nat} {n : Nat} {m : Nat} {n' : Nat} {m' : Nat}
theorem paSet_self (H : paAt cQ ad F k n m) : paSet cQ ad F k n m = F := by
  funext i
  obtain ⟨h0, h1⟩ := H
  unfold paSet
  by_cases e0 : i = k
  · rw [if_pos e0, e0, h0]
  rw [if_neg e0]
  by_cases e1 : i = k + 1
  · rw [if_pos e1, e1, h1]
  rw [if_neg e1]
theorem paSet_out {i : Nat} (hi : i < k ∨ k + 1 < i) : paSet cQ ad F k n m i = F i := by
  unfold paSet
  rw [if_neg (by omega), if_neg (by omega)]
theorem paSet_at : paAt cQ ad (paSet cQ ad F k n m) k n m := by
  refine ⟨?_, ?_⟩
  · simp [paSet]
  · simp [paSet]
theorem paSet_paSet : paSet cQ ad (paSet cQ ad F k n m) k n' m' = paSet cQ ad F k n' m' := by
  funext i
  by_cases e0 : i = k
  · simp [paSet, e0]
  by_cases e1 : i = k + 1
  · simp [paSet, e1]
  simp [paSet, e0, e1]
theorem paSet_u0 : va_up (paSet cQ ad F k n m) (k) (.inr (2, [.ref (ad (k + 1)), .int (nI n'), .int (nI m')])) = paSet cQ ad F k n' m' := by
  funext i
  by_cases e0 : i = k
  · simp [va_up, paSet, e0]
  by_cases e1 : i = k + 1
  · simp [va_up, paSet, e1]
  simp [va_up, paSet, e0, e1]
theorem paAt_keep {G : Nat → va_E} (H : paAt cQ ad F k n m) (hG : ∀ i, k ≤ i → i ≤ k + 1 → G i = F i) : paAt cQ ad G k n m := by
  obtain ⟨h0, h1⟩ := H
  exact ⟨by rw [hG _ (by omega) (by omega)]; exact h0, by rw [hG _ (by omega) (by omega)]; exact h1⟩
end
def roAt (cI : ClassId) (ad : Nat → Nat) (F : Nat → va_E) (k : Nat) (a : Nat → Int32) (d : Nat → Int32) (q : Nat → Int32) : Prop := F k = .inr (3, [.ref (ad (k + 1)), .ref (ad (k + 2)), .ref (ad (k + 3))]) ∧ F (k + 1) = .inl (cI, 338, .inl a) ∧ F (k + 2) = .inl (cI, 169, .inl d) ∧ F (k + 3) = .inl (cI, 169, .inl q)
def roSet (cI : ClassId) (ad : Nat → Nat) (F : Nat → va_E) (k : Nat) (a : Nat → Int32) (d : Nat → Int32) (q : Nat → Int32) : Nat → va_E := fun i => if i = k then .inr (3, [.ref (ad (k + 1)), .ref (ad (k + 2)), .ref (ad (k + 3))]) else if i = k + 1 then .inl (cI, 338, .inl a) else if i = k + 2 then .inl (cI, 169, .inl d) else if i = k + 3 then .inl (cI, 169, .inl q) else F i
section
variable {cI : ClassId} {ad : Nat → Nat} {F : Nat → va_E} {k : Nat} {a : Nat → Int32} {d : Nat → Int32} {q : Nat → Int32} {a' : Nat → Int32} {d' : Nat → Int32} {q' : Nat → Int32}
theorem roSet_self (H : roAt cI ad F k a d q) : roSet cI ad F k a d q = F := by
  funext i
  obtain ⟨h0, h1, h2, h3⟩ := H
  unfold roSet
  by_cases e0 : i = k
  · rw [if_pos e0, e0, h0]
  rw [if_neg e0]
  by_cases e1 : i = k + 1
  · rw [if_pos e1, e1, h1]
  rw [if_neg e1]
  by_cases e2 : i = k + 2
  · rw [if_pos e2, e2, h2]
  rw [if_neg e2]
  by_cases e3 : i = k + 3
  · rw [if_pos e3, e3, h3]
  rw [if_neg e3]
theorem roSet_out {i : Nat} (hi : i < k ∨ k + 3 < i) : roSet cI ad F k a d q i = F i := by
  unfold roSet
  rw [if_neg (by omega), if_neg (by omega), if_neg (by omega), if_neg (by omega)]
theorem roSet_at : roAt cI ad (roSet cI ad F k a d q) k a d q := by
  refine ⟨?_, ?_, ?_, ?_⟩
  · simp [roSet]
  · simp [roSet]
  · simp [roSet]
  · simp [roSet]
theorem roSet_roSet : roSet cI ad (roSet cI ad F k a d q) k a' d' q' = roSet cI ad F k a' d' q' := by
  funext i
  by_cases e0 : i = k
  · simp [roSet, e0]
  by_cases e1 : i = k + 1
  · simp [roSet, e1]
  by_cases e2 : i = k + 2
  · simp [roSet, e2]
  by_cases e3 : i = k + 3
  · simp [roSet, e3]
  simp [roSet, e0, e1, e2, e3]
theorem roSet_u1 : va_up (roSet cI ad F k a d q) (k + 1) (.inl (cI, 338, .inl a')) = roSet cI ad F k a' d q := by
  funext i
  by_cases e0 : i = k
  · simp [va_up, roSet, e0]
  by_cases e1 : i = k + 1
  · simp [va_up, roSet, e1]
  by_cases e2 : i = k + 2
  · simp [va_up, roSet, e2]
  by_cases e3 : i = k + 3
  · simp [va_up, roSet, e3]
  simp [va_up, roSet, e0, e1, e2, e3]
theorem roSet_u2 : va_up (roSet cI ad F k a d q) (k + 2) (.inl (cI, 169, .inl d')) = roSet cI ad F k a d' q := by
  funext i
  by_cases e0 : i = k
  · simp [va_up, roSet, e0]
  by_cases e1 : i = k + 1
  · simp [va_up, roSet, e1]
  by_cases e2 : i = k + 2
  · simp [va_up, roSet, e2]
  by_cases e3 : i = k + 3
  · simp [va_up, roSet, e3]
  simp [va_up, roSet, e0, e1, e2, e3]
theorem roSet_u3 : va_up (roSet cI ad F k a d q) (k + 3) (.inl (cI, 169, .inl q')) = roSet cI ad F k a d q' := by
  funext i
  by_cases e0 : i = k
  · simp [va_up, roSet, e0]
  by_cases e1 : i = k + 1
  · simp [va_up, roSet, e1]
  by_cases e2 : i = k + 2
  · simp [va_up, roSet, e2]
  by_cases e3 : i = k + 3
  · simp [va_up, roSet, e3]
  simp [va_up, roSet, e0, e1, e2, e3]
theorem roAt_keep {G : Nat → va_E} (H : roAt cI ad F k a d q) (hG : ∀ i, k ≤ i → i ≤ k + 3 → G i = F i) : roAt cI ad G k a d q := by
  obtain ⟨h0, h1, h2, h3⟩ := H
  exact ⟨by rw [hG _ (by omega) (by omega)]; exact h0, by rw [hG _ (by omega) (by omega)]; exact h1, by rw [hG _ (by omega) (by omega)]; exact h2, by rw [hG _ (by omega) (by omega)]; exact h3⟩
end
end
section
theorem stAt_keep {cI : ClassId} {ad : Nat → Nat} {F G : Nat → va_E} {k : Nat} {c b v g h j : Nat → Int32} {t u z : Int32} (H : stAt cI ad F k c b v g h j t u z) (hG : ∀ i, k ≤ i → i ≤ k + 7 → G i = F i) : stAt cI ad G k c b v g h j t u z := by
  obtain ⟨h0, ⟨h1, h2, h3, h4⟩, h5, h6, h7⟩ := H
  exact ⟨by rw [hG _ (by omega) (by omega)]; exact h0, ⟨by rw [hG _ (by omega) (by omega)]; exact h1, by rw [hG _ (by omega) (by omega)]; exact h2, by rw [hG _ (by omega) (by omega)]; exact h3, by rw [hG _ (by omega) (by omega)]; exact h4⟩, by rw [hG _ (by omega) (by omega)]; exact h5, by rw [hG _ (by omega) (by omega)]; exact h6, by rw [hG _ (by omega) (by omega)]; exact h7⟩
theorem matAt_keep {cI : ClassId} {ad : Nat → Nat} {F G : Nat → va_E} {k : Nat} {c b v : Nat → Int32} (H : matAt cI ad F k c b v) (hG : ∀ i, k ≤ i → i ≤ k + 3 → G i = F i) : matAt cI ad G k c b v := by
  obtain ⟨h1, h2, h3, h4⟩ := H
  exact ⟨by rw [hG _ (by omega) (by omega)]; exact h1, by rw [hG _ (by omega) (by omega)]; exact h2, by rw [hG _ (by omega) (by omega)]; exact h3, by rw [hG _ (by omega) (by omega)]; exact h4⟩
theorem imin_nI {a b : Nat} (ha : a < 2 ^ 31) (hb : b < 2 ^ 31) : imin (nI a) (nI b) = nI (min a b) := by
  unfold imin
  by_cases h : nI b < nI a
  · rw [if_pos h]
    have := (nI_ltI hb ha).mp h
    congr 1
    omega
  · rw [if_neg h]
    have : ¬ b < a := fun q => h ((nI_ltI hb ha).mpr q)
    congr 1
    omega
theorem imax_nI {a b : Nat} (ha : a < 2 ^ 31) (hb : b < 2 ^ 31) : imax (nI a) (nI b) = nI (max a b) := by
  unfold imax
  by_cases h : nI a < nI b
  · rw [if_pos h]
    have := (nI_ltI ha hb).mp h
    congr 1
    omega
  · rw [if_neg h]
    have : ¬ a < b := fun q => h ((nI_ltI ha hb).mpr q)
    congr 1
    omega
section N14
variable {p : Program} {l : Launch} {e : Env} {R : Room} {s : State} {m : MethodId} {args : Array Value} {below : List Frame} {meth : Method} {c : Code} {H : Heap} {locs : List Loc} {cells slots : Nat} {Q : State → Prop}
variable {cc : ByteArray} {pc : Nat} {ls : Array Slot} {rest st0 : List Value} {D : va_G} {cI cQ cL : ClassId} {ad : Nat → Nat} {N : Nat} {F : Nat → va_E} {Ts : List Cond}
theorem n_mmin {a b : Nat} (ha : a < 2 ^ 31) (hb2 : b < 2 ^ 31) (hexec : p.tables.exec = Jvm.exec) (hb : c.code = cc) (hml : c.maxLocals = ls.size) {own : String} {index : Nat} (hown : s.vm.findClass own = some m.cls) (hlink : (Cond.methodLink own index Lib.Math.min.name).before args s = true) (hstat : (Cond.static Lib.Math.min.name).before args s = true) (hini : (Cond.initialized "java/lang/Math").before args s = true) (hcode : (Cond.code Lib.Math.min.name Lib.Math.min.code 2 (some .int)).before args s = true)
    (hframes : 1 ≤ R.frames) (hlocals : (rest.map fun v => v.category).sum + 13 ≤ R.locals) (hc : cells ≤ R.cells) (hs : slots ≤ R.slots) (hdg : decode cc pc = .ok (.invokestatic index, 3))
    (kk : W p l e R s m args below meth c H locs cells slots Q (F0 m (pc + 3) ls (.int (nI (min a b)) :: rest))) : W p l e R s m args below meth c H locs cells slots Q (F0 m pc ls (.int (nI b) :: .int (nI a) :: rest)) :=
  va_mmin hexec hb hml hown hlink hstat hini hcode hframes hlocals hc hs hdg (by rw [show (if nI b < nI a then nI b else nI a) = nI (min a b) from imin_nI ha hb2]; exact kk)
theorem aldq (hx : p.tables.exec = Jvm.exec) (hb : c.code = cc) (hK : va_K D vwCl (iT cI cQ cL) s) (hP : va_P D vwCl (iW ad N F) H) {k n : Nat} {f : Nat → Option Nat} {j a : Nat} (hk : k < N) (hF : F k = .inl (cQ, n, .inr (.inr (.inr (.inr f))))) (hj : j < n) (hn : n < 2 ^ 31) (hf : f j = some a) (hdg : decode cc pc = .ok (.aaload, 1))
    (kk : W p l e R s m args below meth c H locs cells slots Q (F0 m (pc + 1) ls (.ref a :: rest))) : W p l e R s m args below meth c H locs cells slots Q (F0 m pc ls (.int (nI j) :: .ref (ad k) :: rest)) := by
  refine va_aldq hx hb hK hP k 1 (iW_at hk hF) rfl (vp_in_nI hj hn) hdg ?_
  rw [nI_clamp (Nat.lt_trans hj hn), hf]
  exact kk
/-- behind a call of a static method that writes -/
theorem csW {nL index na mc ms : Nat} {own : String} {y : MethodName} {bytes : ByteArray} {maxL : Nat} {ret : Option FieldType} {ws : List Cond} {rm : Room} {As : List Value} {post : Option Value → (Nat → va_E) → Prop}
    (S : CallFix p m c cc nL s args Ts own) (hM : MX l y ws rm D cI cQ cL ad N F As post mc ms) (cw : CallB R s args own index y bytes maxL ret ws rm mc ms na ∧ (Cond.static y).before args s = true) (hDi : iD ad N) (hK : va_K D vwCl (iT cI cQ cL) s) (hP : va_P D vwCl (iW ad N F) H) (hNW : NW s) (hS : va_S (iA ad N s.heap.size) s.heap H locs)
    (hn : As.length = na) (hsize : ls.size = nL) (hstack : st0 = As.reverse ++ rest) (hW : (rest.map fun v => v.category).sum ≤ 8) (hf : cells + mc ≤ R.cells ∧ slots + ms ≤ R.slots) (hdg : decode cc pc = .ok (.invokestatic index, 3))
    (kk : ∀ (v : Option Value) (F' : Nat → va_E) (H1 : Heap) (locs1 : List Loc), post v F' → va_P D vwCl (iW ad N F') H1 → va_S (iA ad N s.heap.size) s.heap H1 locs1 → W p l e R s m args below meth c H1 locs1 (cells + mc) (slots + ms) Q (F0 m (pc + 3) ls (v.toList ++ rest))) : W p l e R s m args below meth c H locs cells slots Q (F0 m pc ls st0) :=
  cW (va_runS (g := F0 m pc ls st0) S (hM H.size) cw ⟨MX_blind, fun U hU hW => MX_pre hDi hK hP hNW hU hW⟩ rfl hn hsize hstack (lv_room hW) hdg hf) hS kk
theorem csDv {nL index na : Nat} {own : String} {y : MethodName} {bytes : ByteArray} {maxL : Nat} {ret : Option FieldType} {ws : List Cond} {rm : Room} {As : List Value} {G : Nat → va_E} (F' : Nat → va_E)
    (S : CallFix p m c cc nL s args Ts own) (hM : MX l y ws rm D cI cQ cL ad N F As (dp none G) 0 0) (cw : CallB R s args own index y bytes maxL ret ws rm 0 0 na ∧ (Cond.static y).before args s = true) (hDi : iD ad N) (hK : va_K D vwCl (iT cI cQ cL) s) (hP : va_P D vwCl (iW ad N F) H) (hNW : NW s) (hS : va_S (iA ad N s.heap.size) s.heap H locs)
    (hn : As.length = na) (hsize : ls.size = nL) (hstack : st0 = As.reverse ++ rest) (hW : (rest.map fun v => v.category).sum ≤ 8) (hf : cells + 0 ≤ R.cells ∧ slots + 0 ≤ R.slots) (hdg : decode cc pc = .ok (.invokestatic index, 3)) (hcan : G = F')
    (kk : ∀ (H1 : Heap) (locs1 : List Loc), va_P D vwCl (iW ad N F') H1 → va_S (iA ad N s.heap.size) s.heap H1 locs1 → W p l e R s m args below meth c H1 locs1 cells slots Q (F0 m (pc + 3) ls rest)) : W p l e R s m args below meth c H locs cells slots Q (F0 m pc ls st0) :=
  csW S hM cw hDi hK hP hNW hS hn hsize hstack hW hf hdg (fun v G9 H1 locs1 hp hP1 hS1 => by
    obtain ⟨rfl, rfl⟩ := hp
    exact kk H1 locs1 (by rw [← hcan]; exact hP1) hS1)
end N14
-- the text
def btw (x a b : Int32) : Bool := !(decide (x < a)) && !(decide (b < x))
def stb (s x : Int32) : Int32 := if s = nI 0 then (if x = nI 102 then nI 1 else if x = nI 108 then nI 4 else -1) else if s = nI 1 then (if btw x (nI 48) (nI 51) = true then nI 2 else -1) else if s = nI 2 then (if btw x (nI 48) (nI 55) = true then nI 3 else -1) else if s = nI 3 then (if btw x (nI 49) (nI 57) = true then nI 8 else -1) else if s = nI 4 then (if btw x (nI 97) (nI 109) = true then nI 5 else -1) else if s = nI 5 then (if btw x (nI 97) (nI 109) = true then nI 6 else -1) else if s = nI 6 then (if btw x (nI 49) (nI 54) = true then nI 7 else -1) else if s = nI 7 then (if btw x (nI 48) (nI 55) = true then nI 8 else -1) else if s = nI 8 then (if x = nI 59 then nI 0 else -1) else -1
def cod (a : Nat → Int32) (n i : Nat) : Int32 := if i < n then a i else nI 0
def sta (a : Nat → Int32) : Nat → Int32
  | 0 => nI 0
  | n + 1 => stb (sta a n) (a n)
/-- the first place, of n more from i on, behind which the text is none any more -/
def eri (a : Nat → Int32) : Nat → Nat → Int32 → Nat
  | 0, i, _ => i
  | n + 1, i, s => if stb s (a i) = -1 then i else eri a n (i + 1) (stb s (a i))
theorem eri_le (a : Nat → Int32) : ∀ (n i : Nat) (s : Int32), eri a n i s ≤ i + n
  | 0, i, _ => Nat.le_refl i
  | n + 1, i, s => by
    have h := eri_le a n (i + 1) (stb s (a i))
    simp only [eri]
    split <;> omega
-- the routes
def srI (m : Nat) (cell : Int32) : Nat → Nat → (Nat → Int32) → (Nat → Int32) → Nat → (Option Int32) × (Nat → Int32) × (Nat → Int32) × Nat
  | 0, _, d, q, n => (none, d, q, n)
  | i + 1, f, d, q, n =>
    if ldg cell (nI (f / 9)) (f % 9 + 1 + m) = nI 84 then (some (d (ix cell) + nI 1), d, q, n)
    else if ldg cell (nI (f / 9)) (f % 9 + 1 + m) = -1 then srI m cell i (f + 1) d q n
    else if ¬ d (ix (ldg cell (nI (f / 9)) (f % 9 + 1 + m))) = -1 then srI m cell i (f + 1) d q n
    else if ¬ n < 169 then srI m cell i (f + 1) d q n
    else srI m cell i (f + 1) (upd d (ix (ldg cell (nI (f / 9)) (f % 9 + 1 + m))) (d (ix cell) + nI 1)) (upd q n (ldg cell (nI (f / 9)) (f % 9 + 1 + m))) (n + 1)
def srO (m : Nat) : Nat → Nat → (Nat → Int32) → (Nat → Int32) → Nat → Int32 × (Nat → Int32) × (Nat → Int32)
  | 0, _, d, q, _ => (-1, d, q)
  | i + 1, k, d, q, n => if ¬ (k < n ∧ k < 169) then (-1, d, q) else match (srI m (q k) 72 0 d q n).1 with
    | some r => (r, (srI m (q k) 72 0 d q n).2.1, (srI m (q k) 72 0 d q n).2.2.1)
    | none => srO m i (k + 1) (srI m (q k) 72 0 d q n).2.1 (srI m (q k) 72 0 d q n).2.2.1 (srI m (q k) 72 0 d q n).2.2.2
def srD (w : Nat) : Nat → Int32 := upd (fun _ => -1) w (nI 0)
def sea (q : Nat → Int32) (w m : Nat) : Int32 × (Nat → Int32) × (Nat → Int32) := srO m 170 0 (srD w) (upd q 0 (nI w)) 1
def cell9 (x : Int32) : Prop := ∃ j : Nat, j < 169 ∧ x = nI j
theorem cat_on {x y : Int32} (h : on x y = true) : cell9 (cat x y) := by
  simp only [on, Bool.and_eq_true, Bool.not_eq_true', decide_eq_false_iff_not] at h
  obtain ⟨⟨h1, h2⟩, h3, h4⟩ := h
  obtain ⟨i, hi, rfl⟩ := nI_of h1
  obtain ⟨j, hj, rfl⟩ := nI_of h3
  have hi2 : i < 13 := Nat.not_le.mp fun q => h2 ((nI_leI (by decide) hi).mpr q)
  have hj2 : j < 13 := Nat.not_le.mp fun q => h4 ((nI_leI (by decide) hj).mpr q)
  exact ⟨13 * j + i, by omega, by rw [cat, pk_mul, nI_add]⟩
theorem ldL_cell : ∀ (n : Nat) (x y u v : Int32) (b : Bool), on x y = true → ldL n x y u v b = -1 ∨ cell9 (ldL n x y u v b)
  | 0, x, y, _, _, _, h => Or.inr (cat_on h)
  | n + 1, x, y, u, v, b, h => by
    simp only [ldL]
    by_cases h1 : on (x + u) (y + v) = true
    · rw [if_pos h1]
      exact ldL_cell n _ _ _ _ _ h1
    · rw [if_neg h1]
      split
      · exact Or.inl rfl
      · split
        · next h2 => exact ldL_cell n _ _ _ _ _ h2
        · exact Or.inl rfl
theorem ldg_cell {q : Int32} (h : cell9 q) (d : Int32) (f : Nat) : ldg q d f = -1 ∨ cell9 (ldg q d f) := by
  obtain ⟨j, hj, rfl⟩ := h
  refine ldL_cell f _ _ _ _ _ ?_
  rw [pk_rem (by omega) (by decide) (by decide), pk_div (by omega) (by decide) (by decide)]
  have h1 : j % 13 < 13 := Nat.mod_lt _ (by decide)
  have h2 : j / 13 < 13 := by omega
  have z1 : ¬ nI (j % 13) < 0 := nI_pos (by omega)
  have z2 : ¬ nI (j / 13) < 0 := nI_pos (by omega)
  have z3 : ¬ nI 13 ≤ nI (j % 13) := fun q => absurd ((nI_leI (by decide) (by omega)).mp q) (by omega)
  have z4 : ¬ nI 13 ≤ nI (j / 13) := fun q => absurd ((nI_leI (by decide) (by omega)).mp q) (by omega)
  simp [on, z1, z2, z3, z4]
theorem cell9_ix {x : Int32} (h : cell9 x) : x = nI (ix x) ∧ ix x < 169 := by
  obtain ⟨j, hj, rfl⟩ := h
  rw [ix_nI (by omega)]
  exact ⟨rfl, hj⟩
end
section
theorem va_up_id {F : Nat → va_E} {k : Nat} {e : va_E} (h : F k = e) : va_up F k e = F := by
  funext i
  by_cases hi : i = k
  · subst hi
    rw [va_up_self, h]
  · rw [va_up_ne _ _ hi]
theorem va_up_up {F : Nat → va_E} {k : Nat} {e e' : va_E} : va_up (va_up F k e) k e' = va_up F k e' := by
  funext i
  by_cases hi : i = k
  · subst hi
    rw [va_up_self, va_up_self]
  · rw [va_up_ne _ _ hi, va_up_ne _ _ hi, va_up_ne _ _ hi]
def fl9 (g : Nat → Int32) (i : Nat) (x : Int32) : Nat → Int32 := fun j => if j < i then x else g j
theorem fl9_0 (g : Nat → Int32) (x : Int32) : fl9 g 0 x = g := by
  funext j
  simp [fl9]
theorem fl9_s (g : Nat → Int32) (i : Nat) (x : Int32) : upd (fl9 g i x) i x = fl9 g (i + 1) x := by
  funext j
  unfold upd fl9
  by_cases h : j = i
  · subst h
    rw [if_pos rfl, if_pos (by omega)]
  · rw [if_neg h]
    by_cases h2 : j < i
    · rw [if_pos h2, if_pos (by omega)]
    · rw [if_neg h2, if_neg (by omega)]
theorem fl9_end {D : va_G} {cl : List vw_C} {ad : Nat → Nat} {N : Nat} {F : Nat → va_E} {H : Heap} {k n : Nat} {cA : ClassId} {g : Nat → Int32} {x : Int32} (h : va_P D cl (iW ad N (va_up F k (.inl (cA, n, .inl (fl9 g n x))))) H) : va_P D cl (iW ad N (va_up F k (.inl (cA, n, .inl (fun _ => x))))) H := by
  refine iW_ext h (fun i _ => ?_)
  by_cases hi : i = k
  · subst hi
    exact Or.inr ⟨cA, n, _, _, va_up_self _ _ _, va_up_self _ _ _, fun j hj => by simp [fl9, hj]⟩
  · exact Or.inl (by rw [va_up_ne _ _ hi, va_up_ne _ _ hi])
theorem srO_hit {m i k n n' : Nat} {d q d' q' : Nat → Int32} {r : Int32} (h1 : k < n) (h2 : k < 169) (h : srI m (q k) 72 0 d q n = (some r, d', q', n')) : srO m (i + 1) k d q n = (r, d', q') := by
  simp only [srO]
  rw [if_neg (fun h9 => h9 ⟨h1, h2⟩), h]
theorem srO_miss {m i k n n' : Nat} {d q d' q' : Nat → Int32} (h1 : k < n) (h2 : k < 169) (h : srI m (q k) 72 0 d q n = (none, d', q', n')) : srO m (i + 1) k d q n = srO m i (k + 1) d' q' n' := by
  simp only [srO]
  rw [if_neg (fun h9 => h9 ⟨h1, h2⟩), h]
theorem srO_end {m i k n : Nat} {d q : Nat → Int32} (h1 : ¬ (k < n ∧ k < 169)) : srO m (i + 1) k d q n = (-1, d, q) := by
  simp only [srO]
  rw [if_pos h1]
def few (a d q : Nat → Int32) (w : Nat) (large : Bool) : (Nat → Int32) × (Nat → Int32) × (Nat → Int32) := if a (if large = true then w else 169 + w) = 0 then (upd a (if large = true then w else 169 + w) (sea q w (if large = true then 0 else 1)).1, (sea q w (if large = true then 0 else 1)).2.1, (sea q w (if large = true then 0 else 1)).2.2) else (a, d, q)
end
section
set_option maxRecDepth 100000 in
set_option maxHeartbeats 4000000 in
theorem tX4_copyFrom (l : Launch) (D : va_G) (cI cQ cL : ClassId) (ad : Nat → Nat) (N : Nat) (F : Nat → va_E) (k : Nat) (hk : k + 7 < N) (c b v g h j : Nat → Int32) (t : Nat) (u z : Int32) (hS0 : stAt cI ad F k c b v g h j (nI t) u z) (k2 : Nat) (hq : k2 + 7 < N) (c2 b2 v2 g2 h2 j2 : Nat → Int32) (t2 : Nat) (u2 z2 : Int32) (hS2 : stAt cI ad F k2 c2 b2 v2 g2 h2 j2 (nI t2) u2 z2) (hd : k + 7 < k2 ∨ k2 + 7 < k) : MX l yX4_copyFrom (Cond.code yX4_copyFrom cX4_copyFrom 2 none :: AW) ({ frames := 2, cells := 0, slots := 0, locals := 39 } : Room) D cI cQ cL ad N F [.ref (ad k), .ref (ad k2)] (dp none (sSet cI ad F k c2 b2 v2 g2 h2 j2 (nI t2) u2 z2)) 0 0 := by
  refine mx_v (by decide +kernel) rfl (Nat.le_of_ble_eq_true rfl) (fun p e s m below meth cd Q ls hx hb hml hown hts hDi hP hK hNW hS hret hl => ?_)
  have hown : s.vm.findClass RX4 = some m.cls := hown
  have hk0 : k < N := by omega
  have hk1 : k + 1 < N := by omega
  have hk11 : k + 1 + 1 < N := by omega
  have hk12 : k + 1 + 2 < N := by omega
  have hk13 : k + 1 + 3 < N := by omega
  have hkm : k + 1 + 3 < N := by omega
  have hk5 : k + 5 < N := by omega
  have hk6 : k + 6 < N := by omega
  have hk7 : k + 7 < N := hk
  have hq0 : k2 < N := by omega
  have hq1 : k2 + 1 < N := by omega
  have hqm : k2 + 1 + 3 < N := by omega
  have hq5 : k2 + 5 < N := by omega
  have hq6 : k2 + 6 < N := by omega
  have hq7 : k2 + 7 < N := hq
  have hP : va_P D vwCl (iW ad N (sSet cI ad F k c b v g h j (nI t) u z)) s.heap := by rw [sSet_self hS0]; exact hP
  have hl : lv_has ls 2 [(0, .ref (ad k)), (1, .ref (ad k2))] := hl
  refine lv_aload_n hx hb (dk kX4_copyFrom_ok 0 rfl) rfl (lv_at hl 0 rfl) ?_
  refine gf hx hb hts (fun w h => List.mem_cons_of_mem _ (acX4 w h)) hown hK hP hk0 (sSet_at hS0).1 rfl 0 (by decide) (hts _ (List.mem_cons_of_mem _ (ac4 _ (List.mem_of_getElem? (i := 3) rfl)))) (fun _ h => h) rfl (dk kX4_copyFrom_ok 1 rfl) ?_
  refine lv_aload_n hx hb (dk kX4_copyFrom_ok 2 rfl) rfl (lv_at hl 1 rfl) ?_
  refine gf hx hb hts (fun w h => List.mem_cons_of_mem _ (acX4 w h)) hown hK hP hq0 (sSet_oth hS2 hd).1 rfl 0 (by decide) (hts _ (List.mem_cons_of_mem _ (ac4 _ (List.mem_of_getElem? (i := 3) rfl)))) (fun _ h => h) rfl (dk kX4_copyFrom_ok 3 rfl) ?_
  refine cvDv (As := [.ref (ad (k2 + 1))]) (rest := []) (sSet cI ad F k c2 b2 v2 g h j (nI t) u z) ⟨hx, hb, hml, hown, hts⟩ (tX1_copyFrom l D cI cQ cL ad N (sSet cI ad F k c b v g h j (nI t) u z) (k + 1) hkm c b v (sSet_at hS0).2.1 (k2 + 1) hqm (by omega) c2 b2 v2 (sSet_oth hS2 hd).2.1) (cwV9 1 hts mcX1_copyFrom (ac4 _ (List.mem_of_getElem? (i := 23) rfl)) miX1_copyFrom meX1_copyFrom mini_RX1 rfl rfl hdX1_copyFrom ⟨Nat.le_of_ble_eq_true rfl, Nat.le_of_ble_eq_true rfl⟩) hDi hK hP hNW hS hk1 (sSet_at hS0).2.1.1 rfl rfl hl.1 rfl (Nat.le_of_ble_eq_true rfl) (by decide) (dk kX4_copyFrom_ok 4 rfl) sSet_m (fun H locs hP hS => ?_)
  refine lv_aload_n hx hb (dk kX4_copyFrom_ok 5 rfl) rfl (lv_at hl 1 rfl) ?_
  refine gf hx hb hts (fun w h => List.mem_cons_of_mem _ (acX4 w h)) hown hK hP hq0 (sSet_oth hS2 hd).1 rfl 1 (by decide) (hts _ (List.mem_cons_of_mem _ (ac4 _ (List.mem_of_getElem? (i := 4) rfl)))) (fun _ h => h) rfl (dk kX4_copyFrom_ok 6 rfl) ?_
  refine lv_iconst (v := nI 0) hx hb (dk kX4_copyFrom_ok 7 rfl) rfl ?_
  refine lv_aload_n hx hb (dk kX4_copyFrom_ok 8 rfl) rfl (lv_at hl 0 rfl) ?_
  refine gf hx hb hts (fun w h => List.mem_cons_of_mem _ (acX4 w h)) hown hK hP hk0 (sSet_at hS0).1 rfl 1 (by decide) (hts _ (List.mem_cons_of_mem _ (ac4 _ (List.mem_of_getElem? (i := 4) rfl)))) (fun _ h => h) rfl (dk kX4_copyFrom_ok 9 rfl) ?_
  refine lv_iconst (v := nI 0) hx hb (dk kX4_copyFrom_ok 10 rfl) rfl ?_
  refine lv_bipush (v := nI 16) hx hb (dk kX4_copyFrom_ok 11 rfl) rfl ?_
  refine cpy (sSet cI ad F k c2 b2 v2 g2 h j (nI t) u z) hx hb (by rw [hml, hl.1]) hown (hts _ (List.mem_cons_of_mem _ (ac4 _ (List.mem_of_getElem? (i := 22) rfl)))) (hts _ (List.mem_cons_of_mem _ (ac1 _ (List.mem_of_getElem? (i := 6) rfl)))) (hts _ (List.mem_cons_of_mem _ (ac1 _ (List.mem_of_getElem? (i := 7) rfl)))) (hts _ (List.mem_cons_of_mem _ (ac1 _ (List.mem_of_getElem? (i := 8) rfl)))) hK hDi hP hS hq5 (sSet_oth hS2 hd).2.2.1 hk5 (sSet_at hS0).2.2.1 (by decide) (Nat.le_of_ble_eq_true rfl) (Nat.le_of_ble_eq_true rfl) (dk kX4_copyFrom_ok 12 rfl) sSet_g (fun H locs hP hS => ?_)
  refine lv_aload_n hx hb (dk kX4_copyFrom_ok 13 rfl) rfl (lv_at hl 1 rfl) ?_
  refine gf hx hb hts (fun w h => List.mem_cons_of_mem _ (acX4 w h)) hown hK hP hq0 (sSet_oth hS2 hd).1 rfl 2 (by decide) (hts _ (List.mem_cons_of_mem _ (ac4 _ (List.mem_of_getElem? (i := 5) rfl)))) (fun _ h => h) rfl (dk kX4_copyFrom_ok 14 rfl) ?_
  refine lv_iconst (v := nI 0) hx hb (dk kX4_copyFrom_ok 15 rfl) rfl ?_
  refine lv_aload_n hx hb (dk kX4_copyFrom_ok 16 rfl) rfl (lv_at hl 0 rfl) ?_
  refine gf hx hb hts (fun w h => List.mem_cons_of_mem _ (acX4 w h)) hown hK hP hk0 (sSet_at hS0).1 rfl 2 (by decide) (hts _ (List.mem_cons_of_mem _ (ac4 _ (List.mem_of_getElem? (i := 5) rfl)))) (fun _ h => h) rfl (dk kX4_copyFrom_ok 17 rfl) ?_
  refine lv_iconst (v := nI 0) hx hb (dk kX4_copyFrom_ok 18 rfl) rfl ?_
  refine lv_iconst (v := nI 4) hx hb (dk kX4_copyFrom_ok 19 rfl) rfl ?_
  refine cpy (sSet cI ad F k c2 b2 v2 g2 h2 j (nI t) u z) hx hb (by rw [hml, hl.1]) hown (hts _ (List.mem_cons_of_mem _ (ac4 _ (List.mem_of_getElem? (i := 22) rfl)))) (hts _ (List.mem_cons_of_mem _ (ac1 _ (List.mem_of_getElem? (i := 6) rfl)))) (hts _ (List.mem_cons_of_mem _ (ac1 _ (List.mem_of_getElem? (i := 7) rfl)))) (hts _ (List.mem_cons_of_mem _ (ac1 _ (List.mem_of_getElem? (i := 8) rfl)))) hK hDi hP hS hq6 (sSet_oth hS2 hd).2.2.2.1 hk6 (sSet_at hS0).2.2.2.1 (by decide) (Nat.le_of_ble_eq_true rfl) (Nat.le_of_ble_eq_true rfl) (dk kX4_copyFrom_ok 20 rfl) sSet_h (fun H locs hP hS => ?_)
  refine lv_aload_n hx hb (dk kX4_copyFrom_ok 21 rfl) rfl (lv_at hl 1 rfl) ?_
  refine gf hx hb hts (fun w h => List.mem_cons_of_mem _ (acX4 w h)) hown hK hP hq0 (sSet_oth hS2 hd).1 rfl 3 (by decide) (hts _ (List.mem_cons_of_mem _ (ac4 _ (List.mem_of_getElem? (i := 6) rfl)))) (fun _ h => h) rfl (dk kX4_copyFrom_ok 22 rfl) ?_
  refine lv_iconst (v := nI 0) hx hb (dk kX4_copyFrom_ok 23 rfl) rfl ?_
  refine lv_aload_n hx hb (dk kX4_copyFrom_ok 24 rfl) rfl (lv_at hl 0 rfl) ?_
  refine gf hx hb hts (fun w h => List.mem_cons_of_mem _ (acX4 w h)) hown hK hP hk0 (sSet_at hS0).1 rfl 3 (by decide) (hts _ (List.mem_cons_of_mem _ (ac4 _ (List.mem_of_getElem? (i := 6) rfl)))) (fun _ h => h) rfl (dk kX4_copyFrom_ok 25 rfl) ?_
  refine lv_iconst (v := nI 0) hx hb (dk kX4_copyFrom_ok 26 rfl) rfl ?_
  refine lv_iconst (v := nI 4) hx hb (dk kX4_copyFrom_ok 27 rfl) rfl ?_
  refine cpy (sSet cI ad F k c2 b2 v2 g2 h2 j2 (nI t) u z) hx hb (by rw [hml, hl.1]) hown (hts _ (List.mem_cons_of_mem _ (ac4 _ (List.mem_of_getElem? (i := 22) rfl)))) (hts _ (List.mem_cons_of_mem _ (ac1 _ (List.mem_of_getElem? (i := 6) rfl)))) (hts _ (List.mem_cons_of_mem _ (ac1 _ (List.mem_of_getElem? (i := 7) rfl)))) (hts _ (List.mem_cons_of_mem _ (ac1 _ (List.mem_of_getElem? (i := 8) rfl)))) hK hDi hP hS hq7 (sSet_oth hS2 hd).2.2.2.2 hk7 (sSet_at hS0).2.2.2.2 (by decide) (Nat.le_of_ble_eq_true rfl) (Nat.le_of_ble_eq_true rfl) (dk kX4_copyFrom_ok 28 rfl) sSet_j (fun H locs hP hS => ?_)
  refine lv_aload_n hx hb (dk kX4_copyFrom_ok 29 rfl) rfl (lv_at hl 0 rfl) ?_
  refine lv_aload_n hx hb (dk kX4_copyFrom_ok 30 rfl) rfl (lv_at hl 1 rfl) ?_
  refine gf hx hb hts (fun w h => List.mem_cons_of_mem _ (acX4 w h)) hown hK hP hq0 (sSet_oth hS2 hd).1 rfl 4 (by decide) (hts _ (List.mem_cons_of_mem _ (ac4 _ (List.mem_of_getElem? (i := 7) rfl)))) (fun _ h => h) rfl (dk kX4_copyFrom_ok 31 rfl) ?_
  refine pf (sSet cI ad F k c2 b2 v2 g2 h2 j2 (nI t2) u z) hx hb hts (fun w h => List.mem_cons_of_mem _ (acX4 w h)) tyX4 tyX4_ok nmX4 hown hK hDi hP hS hk0 (sSet_at hS0).1 rfl 4 (by decide) (hts _ (List.mem_cons_of_mem _ (ac4 _ (List.mem_of_getElem? (i := 7) rfl)))) (fun _ h => h) rfl (ty := .int) rfl rfl rfl (Nat.le_of_ble_eq_true rfl) (dk kX4_copyFrom_ok 32 rfl) sSet_0 (fun H locs hP hS => ?_)
  refine lv_aload_n hx hb (dk kX4_copyFrom_ok 33 rfl) rfl (lv_at hl 0 rfl) ?_
  refine lv_aload_n hx hb (dk kX4_copyFrom_ok 34 rfl) rfl (lv_at hl 1 rfl) ?_
  refine gf hx hb hts (fun w h => List.mem_cons_of_mem _ (acX4 w h)) hown hK hP hq0 (sSet_oth hS2 hd).1 rfl 5 (by decide) (hts _ (List.mem_cons_of_mem _ (ac4 _ (List.mem_of_getElem? (i := 8) rfl)))) (fun _ h => h) rfl (dk kX4_copyFrom_ok 35 rfl) ?_
  refine pf (sSet cI ad F k c2 b2 v2 g2 h2 j2 (nI t2) u2 z) hx hb hts (fun w h => List.mem_cons_of_mem _ (acX4 w h)) tyX4 tyX4_ok nmX4 hown hK hDi hP hS hk0 (sSet_at hS0).1 rfl 5 (by decide) (hts _ (List.mem_cons_of_mem _ (ac4 _ (List.mem_of_getElem? (i := 8) rfl)))) (fun _ h => h) rfl (ty := .int) rfl rfl rfl (Nat.le_of_ble_eq_true rfl) (dk kX4_copyFrom_ok 36 rfl) sSet_0 (fun H locs hP hS => ?_)
  refine lv_aload_n hx hb (dk kX4_copyFrom_ok 37 rfl) rfl (lv_at hl 0 rfl) ?_
  refine lv_aload_n hx hb (dk kX4_copyFrom_ok 38 rfl) rfl (lv_at hl 1 rfl) ?_
  refine gf hx hb hts (fun w h => List.mem_cons_of_mem _ (acX4 w h)) hown hK hP hq0 (sSet_oth hS2 hd).1 rfl 6 (by decide) (hts _ (List.mem_cons_of_mem _ (ac4 _ (List.mem_of_getElem? (i := 9) rfl)))) (fun _ h => h) rfl (dk kX4_copyFrom_ok 39 rfl) ?_
  refine pf (sSet cI ad F k c2 b2 v2 g2 h2 j2 (nI t2) u2 z2) hx hb hts (fun w h => List.mem_cons_of_mem _ (acX4 w h)) tyX4 tyX4_ok nmX4 hown hK hDi hP hS hk0 (sSet_at hS0).1 rfl 6 (by decide) (hts _ (List.mem_cons_of_mem _ (ac4 _ (List.mem_of_getElem? (i := 9) rfl)))) (fun _ h => h) rfl (ty := .int) rfl rfl rfl (Nat.le_of_ble_eq_true rfl) (dk kX4_copyFrom_ok 40 rfl) sSet_0 (fun H locs hP hS => ?_)
  exact hret _ _ _ _ _ _ _ (by exact ⟨rfl, rfl⟩) hP hS (by decide) (by decide) (dk kX4_copyFrom_ok 41 rfl)
set_option maxRecDepth 100000 in
set_option maxHeartbeats 4000000 in
theorem tX0_between (l : Launch) (x a b : Int32) : MP l yX0_between (Cond.code yX0_between cX0_between 3 (some .boolean) :: AW) ({ frames := 0, cells := 0, slots := 0, locals := 0 } : Room) [.int x, .int a, .int b] (.int (bI (btw x a b))) := by
  refine mp_i (ty := .boolean) (by decide +kernel) rfl rfl rfl (bI_nar _) (Nat.le_of_ble_eq_true rfl) (fun p e s m below meth cd Q ls hx hb hml hown hts hret hl => ?_)
  have hown : s.vm.findClass RX0 = some m.cls := hown
  have hl : lv_has ls 3 [(0, .int x), (1, .int a), (2, .int b)] := hl
  refine lv_iload_n hx hb (dk kX0_between_ok 0 rfl) rfl (lv_at hl 0 rfl) ?_
  refine lv_iload_n hx hb (dk kX0_between_ok 1 rfl) rfl (lv_at hl 1 rfl) ?_
  refine lv_icmp_lt (tgt := 14) hx hb (dk kX0_between_ok 2 rfl) (by decide) (fun h1 => ?_) (fun h1 => ?_)
  · skip
    refine lv_iconst (v := nI 0) hx hb (dk kX0_between_ok 8 rfl) rfl ?_
    exact hret _ _ _ (by simp only [btw, (eq_true h1), decide_true, decide_false, not_true_eq_false, not_false_eq_true, and_true, true_and, and_false, false_and, or_true, true_or, or_false, false_or, and_self, or_self, if_true, if_false, Bool.false_eq_true, reduceIte, Bool.not_true, Bool.not_false, Bool.and_true, Bool.true_and, Bool.and_false, Bool.false_and]; rfl) (dk kX0_between_ok 9 rfl)
  · skip
    refine lv_iload_n hx hb (dk kX0_between_ok 3 rfl) rfl (lv_at hl 0 rfl) ?_
    refine lv_iload_n hx hb (dk kX0_between_ok 4 rfl) rfl (lv_at hl 2 rfl) ?_
    refine lv_icmp_gt (tgt := 14) hx hb (dk kX0_between_ok 5 rfl) (by decide) (fun h2 => ?_) (fun h2 => ?_)
    · skip
      refine lv_iconst (v := nI 0) hx hb (dk kX0_between_ok 8 rfl) rfl ?_
      exact hret _ _ _ (by simp only [btw, (eq_false h1), (eq_true h2), decide_true, decide_false, not_true_eq_false, not_false_eq_true, and_true, true_and, and_false, false_and, or_true, true_or, or_false, false_or, and_self, or_self, if_true, if_false, Bool.false_eq_true, reduceIte, Bool.not_true, Bool.not_false, Bool.and_true, Bool.true_and, Bool.and_false, Bool.false_and]; rfl) (dk kX0_between_ok 9 rfl)
    · skip
      refine lv_iconst (v := nI 1) hx hb (dk kX0_between_ok 6 rfl) rfl ?_
      refine lv_goto (tgt := 15) hx hb (dk kX0_between_ok 7 rfl) (by decide) ?_
      exact hret _ _ _ (by simp only [btw, (eq_false h1), (eq_false h2), decide_true, decide_false, not_true_eq_false, not_false_eq_true, and_true, true_and, and_false, false_and, or_true, true_or, or_false, false_or, and_self, or_self, if_true, if_false, Bool.false_eq_true, reduceIte, Bool.not_true, Bool.not_false, Bool.and_true, Bool.true_and, Bool.and_false, Bool.false_and]; rfl) (dk kX0_between_ok 9 rfl)
set_option maxRecDepth 100000 in
set_option maxHeartbeats 4000000 in
theorem tX0_stateBehind (l : Launch) (s9 x : Int32) : MP l yX0_stateBehind (Cond.code yX0_stateBehind cX0_stateBehind 2 (some .int) :: AW) ({ frames := 1, cells := 0, slots := 0, locals := 22 } : Room) [.int s9, .int x] (.int (stb s9 x)) := by
  refine mp_i (ty := .int) (by decide +kernel) rfl rfl rfl rfl (Nat.le_of_ble_eq_true rfl) (fun p e s m below meth cd Q ls hx hb hml hown hts hret hl => ?_)
  have hown : s.vm.findClass RX0 = some m.cls := hown
  have hl : lv_has ls 2 [(0, .int s9), (1, .int x)] := hl
  refine lv_iload_n hx hb (dk kX0_stateBehind_0_ok 0 rfl) rfl (lv_at hl 0 rfl) ?_
  rcases Classical.em (s9 = nI 0) with hs1 | hs1
  · skip
    refine sw_in (off := 51) (tgt := 52) 0 hx hb (dk kX0_stateBehind_0_ok 1 rfl) hs1 rfl rfl rfl (by decide) ?_
    refine lv_iload_n hx hb (dk kX0_stateBehind_0_ok 2 rfl) rfl (lv_at hl 1 rfl) ?_
    refine lv_bipush (v := nI 102) hx hb (dk kX0_stateBehind_0_ok 3 rfl) rfl ?_
    refine lv_icmp_ne (tgt := 62) hx hb (dk kX0_stateBehind_0_ok 4 rfl) (by decide) (fun h2 => ?_) (fun h2 => ?_)
    · skip
      refine lv_iload_n hx hb (dk kX0_stateBehind_0_ok 7 rfl) rfl (lv_at hl 1 rfl) ?_
      refine lv_bipush (v := nI 108) hx hb (dk kX0_stateBehind_0_ok 8 rfl) rfl ?_
      refine lv_icmp_ne (tgt := 72) hx hb (dk kX0_stateBehind_0_ok 9 rfl) (by decide) (fun h3 => ?_) (fun h3 => ?_)
      · skip
        refine lv_iconst (v := -1) hx hb (dk kX0_stateBehind_0_ok 12 rfl) rfl ?_
        exact hret _ _ _ (by simp only [stb, (eq_true hs1), (eq_false h2), (eq_false h3), not_true_eq_false, not_false_eq_true, and_true, true_and, and_false, false_and, or_true, true_or, or_false, false_or, and_self, or_self, if_true, if_false, Bool.false_eq_true, reduceIte]) (dk kX0_stateBehind_0_ok 13 rfl)
      · skip
        refine lv_iconst (v := nI 4) hx hb (dk kX0_stateBehind_0_ok 10 rfl) rfl ?_
        refine lv_goto (tgt := 73) hx hb (dk kX0_stateBehind_0_ok 11 rfl) (by decide) ?_
        exact hret _ _ _ (by simp only [stb, (eq_true hs1), (eq_false h2), (eq_true h3), not_true_eq_false, not_false_eq_true, and_true, true_and, and_false, false_and, or_true, true_or, or_false, false_or, and_self, or_self, if_true, if_false, Bool.false_eq_true, reduceIte]) (dk kX0_stateBehind_0_ok 13 rfl)
    · skip
      refine lv_iconst (v := nI 1) hx hb (dk kX0_stateBehind_0_ok 5 rfl) rfl ?_
      refine lv_goto (tgt := 73) hx hb (dk kX0_stateBehind_0_ok 6 rfl) (by decide) ?_
      exact hret _ _ _ (by simp only [stb, (eq_true hs1), (eq_true h2), not_true_eq_false, not_false_eq_true, and_true, true_and, and_false, false_and, or_true, true_or, or_false, false_or, and_self, or_self, if_true, if_false, Bool.false_eq_true, reduceIte]) (dk kX0_stateBehind_0_ok 13 rfl)
  rcases Classical.em (s9 = nI 1) with hs4 | hs4
  · skip
    refine sw_in (off := 73) (tgt := 74) 1 hx hb (dk kX0_stateBehind_0_ok 1 rfl) hs4 rfl rfl rfl (by decide) ?_
    refine lv_iload_n hx hb (dk kX0_stateBehind_0_ok 14 rfl) rfl (lv_at hl 1 rfl) ?_
    refine lv_bipush (v := nI 48) hx hb (dk kX0_stateBehind_0_ok 15 rfl) rfl ?_
    refine lv_bipush (v := nI 51) hx hb (dk kX0_stateBehind_0_ok 16 rfl) rfl ?_
    refine csP (As := [.int x, .int (nI 48), .int (nI 51)]) (rest := []) ⟨hx, hb, hml, hown, hts⟩ (tX0_between l x (nI 48) (nI 51)) (cwS9 3 hts mcX0_between (ac0 _ (List.mem_of_getElem? (i := 6) rfl)) msX0_between mini_RX0 rfl rfl hdX0_between ⟨Nat.le_of_ble_eq_true rfl, Nat.le_of_ble_eq_true rfl⟩) rfl hl.1 rfl (Nat.le_of_ble_eq_true rfl) (by decide) (dk kX0_stateBehind_0_ok 17 rfl) ?_
    refine b_if_eq (tgt := 89) hx hb (dk kX0_stateBehind_0_ok 18 rfl) (by decide) (fun h5 => ?_) (fun h5 => ?_)
    · skip
      refine lv_iconst (v := -1) hx hb (dk kX0_stateBehind_0_ok 21 rfl) rfl ?_
      exact hret _ _ _ (by simp only [stb, (eq_false hs1), (eq_true hs4), h5, not_true_eq_false, not_false_eq_true, and_true, true_and, and_false, false_and, or_true, true_or, or_false, false_or, and_self, or_self, if_true, if_false, Bool.false_eq_true, reduceIte]) (dk kX0_stateBehind_0_ok 22 rfl)
    · skip
      refine lv_iconst (v := nI 2) hx hb (dk kX0_stateBehind_0_ok 19 rfl) rfl ?_
      refine lv_goto (tgt := 90) hx hb (dk kX0_stateBehind_0_ok 20 rfl) (by decide) ?_
      exact hret _ _ _ (by simp only [stb, (eq_false hs1), (eq_true hs4), h5, not_true_eq_false, not_false_eq_true, and_true, true_and, and_false, false_and, or_true, true_or, or_false, false_or, and_self, or_self, if_true, if_false, Bool.false_eq_true, reduceIte]) (dk kX0_stateBehind_0_ok 22 rfl)
  rcases Classical.em (s9 = nI 2) with hs6 | hs6
  · skip
    refine sw_in (off := 90) (tgt := 91) 2 hx hb (dk kX0_stateBehind_0_ok 1 rfl) hs6 rfl rfl rfl (by decide) ?_
    refine lv_iload_n hx hb (dk kX0_stateBehind_0_ok 23 rfl) rfl (lv_at hl 1 rfl) ?_
    refine lv_bipush (v := nI 48) hx hb (dk kX0_stateBehind_0_ok 24 rfl) rfl ?_
    refine lv_bipush (v := nI 55) hx hb (dk kX0_stateBehind_0_ok 25 rfl) rfl ?_
    refine csP (As := [.int x, .int (nI 48), .int (nI 55)]) (rest := []) ⟨hx, hb, hml, hown, hts⟩ (tX0_between l x (nI 48) (nI 55)) (cwS9 3 hts mcX0_between (ac0 _ (List.mem_of_getElem? (i := 6) rfl)) msX0_between mini_RX0 rfl rfl hdX0_between ⟨Nat.le_of_ble_eq_true rfl, Nat.le_of_ble_eq_true rfl⟩) rfl hl.1 rfl (Nat.le_of_ble_eq_true rfl) (by decide) (dk kX0_stateBehind_0_ok 26 rfl) ?_
    refine b_if_eq (tgt := 106) hx hb (dk kX0_stateBehind_0_ok 27 rfl) (by decide) (fun h7 => ?_) (fun h7 => ?_)
    · skip
      refine lv_iconst (v := -1) hx hb (dk kX0_stateBehind_0_ok 30 rfl) rfl ?_
      exact hret _ _ _ (by simp only [stb, (eq_false hs1), (eq_false hs4), (eq_true hs6), h7, not_true_eq_false, not_false_eq_true, and_true, true_and, and_false, false_and, or_true, true_or, or_false, false_or, and_self, or_self, if_true, if_false, Bool.false_eq_true, reduceIte]) (dk kX0_stateBehind_0_ok 31 rfl)
    · skip
      refine lv_iconst (v := nI 3) hx hb (dk kX0_stateBehind_0_ok 28 rfl) rfl ?_
      refine lv_goto (tgt := 107) hx hb (dk kX0_stateBehind_0_ok 29 rfl) (by decide) ?_
      exact hret _ _ _ (by simp only [stb, (eq_false hs1), (eq_false hs4), (eq_true hs6), h7, not_true_eq_false, not_false_eq_true, and_true, true_and, and_false, false_and, or_true, true_or, or_false, false_or, and_self, or_self, if_true, if_false, Bool.false_eq_true, reduceIte]) (dk kX0_stateBehind_0_ok 31 rfl)
  rcases Classical.em (s9 = nI 3) with hs8 | hs8
  · skip
    refine sw_in (off := 107) (tgt := 108) 3 hx hb (dk kX0_stateBehind_0_ok 1 rfl) hs8 rfl rfl rfl (by decide) ?_
    refine lv_iload_n hx hb (dk kX0_stateBehind_0_ok 32 rfl) rfl (lv_at hl 1 rfl) ?_
    refine lv_bipush (v := nI 49) hx hb (dk kX0_stateBehind_0_ok 33 rfl) rfl ?_
    refine lv_bipush (v := nI 57) hx hb (dk kX0_stateBehind_0_ok 34 rfl) rfl ?_
    refine csP (As := [.int x, .int (nI 49), .int (nI 57)]) (rest := []) ⟨hx, hb, hml, hown, hts⟩ (tX0_between l x (nI 49) (nI 57)) (cwS9 3 hts mcX0_between (ac0 _ (List.mem_of_getElem? (i := 6) rfl)) msX0_between mini_RX0 rfl rfl hdX0_between ⟨Nat.le_of_ble_eq_true rfl, Nat.le_of_ble_eq_true rfl⟩) rfl hl.1 rfl (Nat.le_of_ble_eq_true rfl) (by decide) (dk kX0_stateBehind_0_ok 35 rfl) ?_
    refine b_if_eq (tgt := 124) hx hb (dk kX0_stateBehind_0_ok 36 rfl) (by decide) (fun h9 => ?_) (fun h9 => ?_)
    · skip
      refine lv_iconst (v := -1) hx hb (dk kX0_stateBehind_0_ok 39 rfl) rfl ?_
      exact hret _ _ _ (by simp only [stb, (eq_false hs1), (eq_false hs4), (eq_false hs6), (eq_true hs8), h9, not_true_eq_false, not_false_eq_true, and_true, true_and, and_false, false_and, or_true, true_or, or_false, false_or, and_self, or_self, if_true, if_false, Bool.false_eq_true, reduceIte]) (dk kX0_stateBehind_0_ok 40 rfl)
    · skip
      refine lv_bipush (v := nI 8) hx hb (dk kX0_stateBehind_0_ok 37 rfl) rfl ?_
      refine lv_goto (tgt := 125) hx hb (dk kX0_stateBehind_0_ok 38 rfl) (by decide) ?_
      exact hret _ _ _ (by simp only [stb, (eq_false hs1), (eq_false hs4), (eq_false hs6), (eq_true hs8), h9, not_true_eq_false, not_false_eq_true, and_true, true_and, and_false, false_and, or_true, true_or, or_false, false_or, and_self, or_self, if_true, if_false, Bool.false_eq_true, reduceIte]) (dk kX0_stateBehind_0_ok 40 rfl)
  rcases Classical.em (s9 = nI 4) with hs10 | hs10
  · skip
    refine sw_in (off := 125) (tgt := 126) 4 hx hb (dk kX0_stateBehind_0_ok 1 rfl) hs10 rfl rfl rfl (by decide) ?_
    refine lv_iload_n hx hb (dk kX0_stateBehind_0_ok 41 rfl) rfl (lv_at hl 1 rfl) ?_
    refine lv_bipush (v := nI 97) hx hb (dk kX0_stateBehind_0_ok 42 rfl) rfl ?_
    refine lv_bipush (v := nI 109) hx hb (dk kX0_stateBehind_0_ok 43 rfl) rfl ?_
    refine csP (As := [.int x, .int (nI 97), .int (nI 109)]) (rest := []) ⟨hx, hb, hml, hown, hts⟩ (tX0_between l x (nI 97) (nI 109)) (cwS9 3 hts mcX0_between (ac0 _ (List.mem_of_getElem? (i := 6) rfl)) msX0_between mini_RX0 rfl rfl hdX0_between ⟨Nat.le_of_ble_eq_true rfl, Nat.le_of_ble_eq_true rfl⟩) rfl hl.1 rfl (Nat.le_of_ble_eq_true rfl) (by decide) (dk kX0_stateBehind_0_ok 44 rfl) ?_
    refine b_if_eq (tgt := 141) hx hb (dk kX0_stateBehind_0_ok 45 rfl) (by decide) (fun h11 => ?_) (fun h11 => ?_)
    · skip
      refine lv_iconst (v := -1) hx hb (dk kX0_stateBehind_0_ok 48 rfl) rfl ?_
      exact hret _ _ _ (by simp only [stb, (eq_false hs1), (eq_false hs4), (eq_false hs6), (eq_false hs8), (eq_true hs10), h11, not_true_eq_false, not_false_eq_true, and_true, true_and, and_false, false_and, or_true, true_or, or_false, false_or, and_self, or_self, if_true, if_false, Bool.false_eq_true, reduceIte]) (dk kX0_stateBehind_0_ok 49 rfl)
    · skip
      refine lv_iconst (v := nI 5) hx hb (dk kX0_stateBehind_0_ok 46 rfl) rfl ?_
      refine lv_goto (tgt := 142) hx hb (dk kX0_stateBehind_0_ok 47 rfl) (by decide) ?_
      exact hret _ _ _ (by simp only [stb, (eq_false hs1), (eq_false hs4), (eq_false hs6), (eq_false hs8), (eq_true hs10), h11, not_true_eq_false, not_false_eq_true, and_true, true_and, and_false, false_and, or_true, true_or, or_false, false_or, and_self, or_self, if_true, if_false, Bool.false_eq_true, reduceIte]) (dk kX0_stateBehind_0_ok 49 rfl)
  rcases Classical.em (s9 = nI 5) with hs12 | hs12
  · skip
    refine sw_in (off := 142) (tgt := 143) 5 hx hb (dk kX0_stateBehind_0_ok 1 rfl) hs12 rfl rfl rfl (by decide) ?_
    refine lv_iload_n hx hb (dk kX0_stateBehind_0_ok 50 rfl) rfl (lv_at hl 1 rfl) ?_
    refine lv_bipush (v := nI 97) hx hb (dk kX0_stateBehind_0_ok 51 rfl) rfl ?_
    refine lv_bipush (v := nI 109) hx hb (dk kX0_stateBehind_0_ok 52 rfl) rfl ?_
    refine csP (As := [.int x, .int (nI 97), .int (nI 109)]) (rest := []) ⟨hx, hb, hml, hown, hts⟩ (tX0_between l x (nI 97) (nI 109)) (cwS9 3 hts mcX0_between (ac0 _ (List.mem_of_getElem? (i := 6) rfl)) msX0_between mini_RX0 rfl rfl hdX0_between ⟨Nat.le_of_ble_eq_true rfl, Nat.le_of_ble_eq_true rfl⟩) rfl hl.1 rfl (Nat.le_of_ble_eq_true rfl) (by decide) (dk kX0_stateBehind_0_ok 53 rfl) ?_
    refine b_if_eq (tgt := 159) hx hb (dk kX0_stateBehind_0_ok 54 rfl) (by decide) (fun h13 => ?_) (fun h13 => ?_)
    · skip
      refine lv_iconst (v := -1) hx hb (dk kX0_stateBehind_0_ok 57 rfl) rfl ?_
      exact hret _ _ _ (by simp only [stb, (eq_false hs1), (eq_false hs4), (eq_false hs6), (eq_false hs8), (eq_false hs10), (eq_true hs12), h13, not_true_eq_false, not_false_eq_true, and_true, true_and, and_false, false_and, or_true, true_or, or_false, false_or, and_self, or_self, if_true, if_false, Bool.false_eq_true, reduceIte]) (dk kX0_stateBehind_0_ok 58 rfl)
    · skip
      refine lv_bipush (v := nI 6) hx hb (dk kX0_stateBehind_0_ok 55 rfl) rfl ?_
      refine lv_goto (tgt := 160) hx hb (dk kX0_stateBehind_0_ok 56 rfl) (by decide) ?_
      exact hret _ _ _ (by simp only [stb, (eq_false hs1), (eq_false hs4), (eq_false hs6), (eq_false hs8), (eq_false hs10), (eq_true hs12), h13, not_true_eq_false, not_false_eq_true, and_true, true_and, and_false, false_and, or_true, true_or, or_false, false_or, and_self, or_self, if_true, if_false, Bool.false_eq_true, reduceIte]) (dk kX0_stateBehind_0_ok 58 rfl)
  rcases Classical.em (s9 = nI 6) with hs14 | hs14
  · skip
    refine sw_in (off := 160) (tgt := 161) 6 hx hb (dk kX0_stateBehind_0_ok 1 rfl) hs14 rfl rfl rfl (by decide) ?_
    refine lv_iload_n hx hb (dk kX0_stateBehind_0_ok 59 rfl) rfl (lv_at hl 1 rfl) ?_
    refine lv_bipush (v := nI 49) hx hb (dk kX0_stateBehind_1_ok 0 rfl) rfl ?_
    refine lv_bipush (v := nI 54) hx hb (dk kX0_stateBehind_1_ok 1 rfl) rfl ?_
    refine csP (As := [.int x, .int (nI 49), .int (nI 54)]) (rest := []) ⟨hx, hb, hml, hown, hts⟩ (tX0_between l x (nI 49) (nI 54)) (cwS9 3 hts mcX0_between (ac0 _ (List.mem_of_getElem? (i := 6) rfl)) msX0_between mini_RX0 rfl rfl hdX0_between ⟨Nat.le_of_ble_eq_true rfl, Nat.le_of_ble_eq_true rfl⟩) rfl hl.1 rfl (Nat.le_of_ble_eq_true rfl) (by decide) (dk kX0_stateBehind_1_ok 2 rfl) ?_
    refine b_if_eq (tgt := 177) hx hb (dk kX0_stateBehind_1_ok 3 rfl) (by decide) (fun h15 => ?_) (fun h15 => ?_)
    · skip
      refine lv_iconst (v := -1) hx hb (dk kX0_stateBehind_1_ok 6 rfl) rfl ?_
      exact hret _ _ _ (by simp only [stb, (eq_false hs1), (eq_false hs4), (eq_false hs6), (eq_false hs8), (eq_false hs10), (eq_false hs12), (eq_true hs14), h15, not_true_eq_false, not_false_eq_true, and_true, true_and, and_false, false_and, or_true, true_or, or_false, false_or, and_self, or_self, if_true, if_false, Bool.false_eq_true, reduceIte]) (dk kX0_stateBehind_1_ok 7 rfl)
    · skip
      refine lv_bipush (v := nI 7) hx hb (dk kX0_stateBehind_1_ok 4 rfl) rfl ?_
      refine lv_goto (tgt := 178) hx hb (dk kX0_stateBehind_1_ok 5 rfl) (by decide) ?_
      exact hret _ _ _ (by simp only [stb, (eq_false hs1), (eq_false hs4), (eq_false hs6), (eq_false hs8), (eq_false hs10), (eq_false hs12), (eq_true hs14), h15, not_true_eq_false, not_false_eq_true, and_true, true_and, and_false, false_and, or_true, true_or, or_false, false_or, and_self, or_self, if_true, if_false, Bool.false_eq_true, reduceIte]) (dk kX0_stateBehind_1_ok 7 rfl)
  rcases Classical.em (s9 = nI 7) with hs16 | hs16
  · skip
    refine sw_in (off := 178) (tgt := 179) 7 hx hb (dk kX0_stateBehind_0_ok 1 rfl) hs16 rfl rfl rfl (by decide) ?_
    refine lv_iload_n hx hb (dk kX0_stateBehind_1_ok 8 rfl) rfl (lv_at hl 1 rfl) ?_
    refine lv_bipush (v := nI 48) hx hb (dk kX0_stateBehind_1_ok 9 rfl) rfl ?_
    refine lv_bipush (v := nI 55) hx hb (dk kX0_stateBehind_1_ok 10 rfl) rfl ?_
    refine csP (As := [.int x, .int (nI 48), .int (nI 55)]) (rest := []) ⟨hx, hb, hml, hown, hts⟩ (tX0_between l x (nI 48) (nI 55)) (cwS9 3 hts mcX0_between (ac0 _ (List.mem_of_getElem? (i := 6) rfl)) msX0_between mini_RX0 rfl rfl hdX0_between ⟨Nat.le_of_ble_eq_true rfl, Nat.le_of_ble_eq_true rfl⟩) rfl hl.1 rfl (Nat.le_of_ble_eq_true rfl) (by decide) (dk kX0_stateBehind_1_ok 11 rfl) ?_
    refine b_if_eq (tgt := 195) hx hb (dk kX0_stateBehind_1_ok 12 rfl) (by decide) (fun h17 => ?_) (fun h17 => ?_)
    · skip
      refine lv_iconst (v := -1) hx hb (dk kX0_stateBehind_1_ok 15 rfl) rfl ?_
      exact hret _ _ _ (by simp only [stb, (eq_false hs1), (eq_false hs4), (eq_false hs6), (eq_false hs8), (eq_false hs10), (eq_false hs12), (eq_false hs14), (eq_true hs16), h17, not_true_eq_false, not_false_eq_true, and_true, true_and, and_false, false_and, or_true, true_or, or_false, false_or, and_self, or_self, if_true, if_false, Bool.false_eq_true, reduceIte]) (dk kX0_stateBehind_1_ok 16 rfl)
    · skip
      refine lv_bipush (v := nI 8) hx hb (dk kX0_stateBehind_1_ok 13 rfl) rfl ?_
      refine lv_goto (tgt := 196) hx hb (dk kX0_stateBehind_1_ok 14 rfl) (by decide) ?_
      exact hret _ _ _ (by simp only [stb, (eq_false hs1), (eq_false hs4), (eq_false hs6), (eq_false hs8), (eq_false hs10), (eq_false hs12), (eq_false hs14), (eq_true hs16), h17, not_true_eq_false, not_false_eq_true, and_true, true_and, and_false, false_and, or_true, true_or, or_false, false_or, and_self, or_self, if_true, if_false, Bool.false_eq_true, reduceIte]) (dk kX0_stateBehind_1_ok 16 rfl)
  rcases Classical.em (s9 = nI 8) with hs18 | hs18
  · skip
    refine sw_in (off := 196) (tgt := 197) 8 hx hb (dk kX0_stateBehind_0_ok 1 rfl) hs18 rfl rfl rfl (by decide) ?_
    refine lv_iload_n hx hb (dk kX0_stateBehind_1_ok 17 rfl) rfl (lv_at hl 1 rfl) ?_
    refine lv_bipush (v := nI 59) hx hb (dk kX0_stateBehind_1_ok 18 rfl) rfl ?_
    refine lv_icmp_ne (tgt := 207) hx hb (dk kX0_stateBehind_1_ok 19 rfl) (by decide) (fun h19 => ?_) (fun h19 => ?_)
    · skip
      refine lv_iconst (v := -1) hx hb (dk kX0_stateBehind_1_ok 22 rfl) rfl ?_
      exact hret _ _ _ (by simp only [stb, (eq_false hs1), (eq_false hs4), (eq_false hs6), (eq_false hs8), (eq_false hs10), (eq_false hs12), (eq_false hs14), (eq_false hs16), (eq_true hs18), (eq_false h19), not_true_eq_false, not_false_eq_true, and_true, true_and, and_false, false_and, or_true, true_or, or_false, false_or, and_self, or_self, if_true, if_false, Bool.false_eq_true, reduceIte]) (dk kX0_stateBehind_1_ok 23 rfl)
    · skip
      refine lv_iconst (v := nI 0) hx hb (dk kX0_stateBehind_1_ok 20 rfl) rfl ?_
      refine lv_goto (tgt := 208) hx hb (dk kX0_stateBehind_1_ok 21 rfl) (by decide) ?_
      exact hret _ _ _ (by simp only [stb, (eq_false hs1), (eq_false hs4), (eq_false hs6), (eq_false hs8), (eq_false hs10), (eq_false hs12), (eq_false hs14), (eq_false hs16), (eq_true hs18), (eq_true h19), not_true_eq_false, not_false_eq_true, and_true, true_and, and_false, false_and, or_true, true_or, or_false, false_or, and_self, or_self, if_true, if_false, Bool.false_eq_true, reduceIte]) (dk kX0_stateBehind_1_ok 23 rfl)
  refine lv_tableOut (tgt := 209) hx hb (dk kX0_stateBehind_0_ok 1 rfl) (sw_out 9 (by intro k9 hk9; rcases k9 with _ | _ | _ | _ | _ | _ | _ | _ | _ | _ <;> first | assumption | omega)) (by decide) ?_
  refine lv_iconst (v := -1) hx hb (dk kX0_stateBehind_1_ok 24 rfl) rfl ?_
  exact hret _ _ _ (by simp only [stb, (eq_false hs1), (eq_false hs4), (eq_false hs6), (eq_false hs8), (eq_false hs10), (eq_false hs12), (eq_false hs14), (eq_false hs16), (eq_false hs18), not_true_eq_false, not_false_eq_true, and_true, true_and, and_false, false_and, or_true, true_or, or_false, false_or, and_self, or_self, if_true, if_false, Bool.false_eq_true, reduceIte]) (dk kX0_stateBehind_1_ok 25 rfl)
set_option maxRecDepth 100000 in
set_option maxHeartbeats 4000000 in
theorem tX0_codeAt (l : Launch) (D : va_G) (cI cQ cL : ClassId) (ad : Nat → Nat) (N : Nat) (F : Nat → va_E) (k : Nat) (hk : k + 1 < N) (a : Nat → Int32) (n : Nat) (hn60 : n ≤ 60) (hT : gtAt cI ad F k a n) (x : Int32) (i : Nat) (hxi : x = nI i) (hi : i < 2 ^ 31) : MR l yX0_codeAt (Cond.code yX0_codeAt cX0_codeAt 2 (some .int) :: AW) ({ frames := 0, cells := 0, slots := 0, locals := 0 } : Room) D cI cQ cL ad N F [.ref (ad k), .int x] (.int (cod a n i)) := by
  refine mr_i (ty := .int) (by decide +kernel) rfl rfl rfl rfl (Nat.le_of_ble_eq_true rfl) (fun p e s m below meth cd Q ls hx hb hml hown hts hP hK hNW hret hl => ?_)
  have hown : s.vm.findClass RX0 = some m.cls := hown
  subst hxi
  have hk0 : k < N := by omega
  have hk1 : k + 1 < N := hk
  have hl : lv_has ls 2 [(0, .ref (ad k)), (1, .int (nI i))] := hl
  refine lv_iload_n hx hb (dk kX0_codeAt_ok 0 rfl) rfl (lv_at hl 1 rfl) ?_
  refine n_if_lt (tgt := 21) hx hb (by omega) (dk kX0_codeAt_ok 1 rfl) (by decide) ?_
  refine lv_iload_n hx hb (dk kX0_codeAt_ok 2 rfl) rfl (lv_at hl 1 rfl) ?_
  refine lv_aload_n hx hb (dk kX0_codeAt_ok 3 rfl) rfl (lv_at hl 0 rfl) ?_
  refine gf hx hb hts (fun w h => List.mem_cons_of_mem _ (acX0 w h)) hown hK hP hk0 hT.1 rfl 1 (by decide) (hts _ (List.mem_cons_of_mem _ (ac0 _ (List.mem_of_getElem? (i := 5) rfl)))) (fun _ h => h) rfl (dk kX0_codeAt_ok 4 rfl) ?_
  refine n_icmp_ge (tgt := 21) hx hb (by omega) (by omega) (dk kX0_codeAt_ok 5 rfl) (by decide) (fun h1 => ?_) (fun h1 => ?_)
  · skip
    refine lv_iconst (v := nI 0) hx hb (dk kX0_codeAt_ok 11 rfl) rfl ?_
    exact hret _ _ _ (by first | (rw [cod, if_pos (by omega)]) | (rw [cod, if_neg (by omega)])) (dk kX0_codeAt_ok 12 rfl)
  · skip
    refine lv_aload_n hx hb (dk kX0_codeAt_ok 6 rfl) rfl (lv_at hl 0 rfl) ?_
    refine gf hx hb hts (fun w h => List.mem_cons_of_mem _ (acX0 w h)) hown hK hP hk0 hT.1 rfl 0 (by decide) (hts _ (List.mem_cons_of_mem _ (ac0 _ (List.mem_of_getElem? (i := 4) rfl)))) (fun _ h => h) rfl (dk kX0_codeAt_ok 7 rfl) ?_
    refine lv_iload_n hx hb (dk kX0_codeAt_ok 8 rfl) rfl (lv_at hl 1 rfl) ?_
    refine ald (j := i) hx hb hK hP hk1 hT.2 rfl (by omega) (by decide) (dk kX0_codeAt_ok 9 rfl) ?_
    refine lv_goto (tgt := 22) hx hb (dk kX0_codeAt_ok 10 rfl) (by decide) ?_
    exact hret _ _ _ (by first | (rw [cod, if_pos (by omega)]) | (rw [cod, if_neg (by omega)])) (dk kX0_codeAt_ok 12 rfl)
set_option maxRecDepth 100000 in
set_option maxHeartbeats 4000000 in
theorem tX0_errorIndex (l : Launch) (D : va_G) (cI cQ cL : ClassId) (ad : Nat → Nat) (N : Nat) (F : Nat → va_E) (k : Nat) (hk : k + 1 < N) (a : Nat → Int32) (n : Nat) (hn60 : n ≤ 60) (hT : gtAt cI ad F k a n) : MR l yX0_errorIndex (Cond.code yX0_errorIndex cX0_errorIndex 3 (some .int) :: AW) ({ frames := 2, cells := 0, slots := 0, locals := 43 } : Room) D cI cQ cL ad N F [.ref (ad k)] (.int (nI (eri a n 0 (nI 0)))) := by
  refine mr_i (ty := .int) (by decide +kernel) rfl rfl rfl rfl (Nat.le_of_ble_eq_true rfl) (fun p e s m below meth cd Q ls hx hb hml hown hts hP hK hNW hret hl => ?_)
  have hown : s.vm.findClass RX0 = some m.cls := hown
  have hk0 : k < N := by omega
  have hk1 : k + 1 < N := hk
  have hl : lv_has ls 3 [(0, .ref (ad k))] := hl
  refine lv_iconst (v := nI 0) hx hb (dk kX0_errorIndex_ok 0 rfl) rfl ?_
  refine lv_istore_n (lv' := [(1, .int (nI 0)), (0, .ref (ad k))]) hx hb (dk kX0_errorIndex_ok 1 rfl) rfl hl (by decide) rfl (fun ls hl => ?_)
  refine lv_iconst (v := nI 0) hx hb (dk kX0_errorIndex_ok 2 rfl) rfl ?_
  refine lv_istore_n (lv' := [(2, .int (nI 0)), (1, .int (nI 0)), (0, .ref (ad k))]) hx hb (dk kX0_errorIndex_ok 3 rfl) rfl hl (by decide) rfl (fun ls hl => ?_)
  have L4 : ∀ (fu : Nat) (i : Nat) (x : Int32), i ≤ n → eri a n 0 (nI 0) = eri a (n - i) i x → n - i < fu → ∀ ls : Array Slot, lv_has ls 3 [(0, .ref (ad k)), (1, .int x), (2, .int (nI i))] → W p l e ({ frames := 2, cells := 0, slots := 0, locals := 43 } : Room) s m ([.ref (ad k)] : List Value).toArray below meth cd s.heap [] 0 0 Q (F0 m 4 ls []) := by
    intro fu
    induction fu with
    | zero => intros; omega
    | succ fu ih4 =>
      intro i x hi hr hm4 ls hl
      refine lv_iload_n hx hb (dk kX0_errorIndex_ok 4 rfl) rfl (lv_at hl 2 rfl) ?_
      refine lv_aload_n hx hb (dk kX0_errorIndex_ok 5 rfl) rfl (lv_at hl 0 rfl) ?_
      refine gf hx hb hts (fun w h => List.mem_cons_of_mem _ (acX0 w h)) hown hK hP hk0 hT.1 rfl 1 (by decide) (hts _ (List.mem_cons_of_mem _ (ac0 _ (List.mem_of_getElem? (i := 5) rfl)))) (fun _ h => h) rfl (dk kX0_errorIndex_ok 6 rfl) ?_
      refine n_icmp_ge (tgt := 35) hx hb (by omega) (by omega) (dk kX0_errorIndex_ok 7 rfl) (by decide) (fun h1 => ?_) (fun h1 => ?_)
      · skip
        refine lv_aload_n hx hb (dk kX0_errorIndex_ok 21 rfl) rfl (lv_at hl 0 rfl) ?_
        refine gf hx hb hts (fun w h => List.mem_cons_of_mem _ (acX0 w h)) hown hK hP hk0 hT.1 rfl 1 (by decide) (hts _ (List.mem_cons_of_mem _ (ac0 _ (List.mem_of_getElem? (i := 5) rfl)))) (fun _ h => h) rfl (dk kX0_errorIndex_ok 22 rfl) ?_
        exact hret _ _ _ (by first | (rw [hr, show n - i = (n - (i + 1)) + 1 by omega]; simp only [eri]; rw [if_pos (by rw [show cod a n i = a i from if_pos (by omega)] at h2; exact h2)]) | (rw [hr, show n - i = 0 by omega]; simp only [eri]; rw [show n = i by omega])) (dk kX0_errorIndex_ok 23 rfl)
      · skip
        refine lv_iload_n hx hb (dk kX0_errorIndex_ok 8 rfl) rfl (lv_at hl 1 rfl) ?_
        refine lv_aload_n hx hb (dk kX0_errorIndex_ok 9 rfl) rfl (lv_at hl 0 rfl) ?_
        refine lv_iload_n hx hb (dk kX0_errorIndex_ok 10 rfl) rfl (lv_at hl 2 rfl) ?_
        refine cvR (As := [.int (nI i)]) (rest := [.int x]) ⟨hx, hb, hml, hown, hts⟩ (tX0_codeAt l D cI cQ cL ad N F k hk a n hn60 hT (nI i) i rfl (by omega)) (cwV9 1 hts mcX0_codeAt (ac0 _ (List.mem_of_getElem? (i := 10) rfl)) miX0_codeAt meX0_codeAt mini_RX0 rfl rfl hdX0_codeAt ⟨Nat.le_of_ble_eq_true rfl, Nat.le_of_ble_eq_true rfl⟩) hK hP hNW hk0 hT.1 rfl rfl hl.1 rfl (Nat.le_of_ble_eq_true rfl) (by decide) (dk kX0_errorIndex_ok 11 rfl) ?_
        refine csP (As := [.int x, .int (cod a n i)]) (rest := []) ⟨hx, hb, hml, hown, hts⟩ (tX0_stateBehind l x (cod a n i)) (cwS9 2 hts mcX0_stateBehind (ac0 _ (List.mem_of_getElem? (i := 14) rfl)) msX0_stateBehind mini_RX0 rfl rfl hdX0_stateBehind ⟨Nat.le_of_ble_eq_true rfl, Nat.le_of_ble_eq_true rfl⟩) rfl hl.1 rfl (Nat.le_of_ble_eq_true rfl) (by decide) (dk kX0_errorIndex_ok 12 rfl) ?_
        refine lv_istore_n (lv' := [(1, .int (stb x (cod a n i))), (0, .ref (ad k)), (2, .int (nI i))]) hx hb (dk kX0_errorIndex_ok 13 rfl) rfl hl (by decide) rfl (fun ls hl => ?_)
        refine lv_iload_n hx hb (dk kX0_errorIndex_ok 14 rfl) rfl (lv_at hl 0 rfl) ?_
        refine lv_iconst (v := -1) hx hb (dk kX0_errorIndex_ok 15 rfl) rfl ?_
        refine lv_icmp_ne (tgt := 29) hx hb (dk kX0_errorIndex_ok 16 rfl) (by decide) (fun h2 => ?_) (fun h2 => ?_)
        · skip
          refine lv_iinc (v := nI (i + 1)) (lv' := [(2, .int (nI (i + 1))), (1, .int (stb x (cod a n i))), (0, .ref (ad k))]) hx hb (dk kX0_errorIndex_ok 19 rfl) hl (k := 2) rfl (n_inc _) (by decide) rfl (fun ls hl => ?_)
          refine lv_goto (tgt := 4) hx hb (dk kX0_errorIndex_ok 20 rfl) (by decide) ?_
          exact ih4 (i + 1) (stb x (cod a n i)) (by omega) (by rw [hr, show n - i = (n - (i + 1)) + 1 by omega, show cod a n i = a i from if_pos (by omega)]; simp only [eri]; rw [if_neg (by rw [show cod a n i = a i from if_pos (by omega)] at h2; exact h2)]) (by omega) ls (lv_sub hl [2, 1, 0] rfl)
        · skip
          refine lv_iload_n hx hb (dk kX0_errorIndex_ok 17 rfl) rfl (lv_at hl 2 rfl) ?_
          exact hret _ _ _ (by first | (rw [hr, show n - i = (n - (i + 1)) + 1 by omega]; simp only [eri]; rw [if_pos (by rw [show cod a n i = a i from if_pos (by omega)] at h2; exact h2)]) | (rw [hr, show n - i = 0 by omega]; simp only [eri]; rw [show n = i by omega])) (dk kX0_errorIndex_ok 18 rfl)
  exact L4 _ 0 (nI 0) (by first | omega | rfl) (by first | omega | rfl) (Nat.lt_succ_self _) ls (lv_sub hl [2, 1, 0] rfl)
set_option maxRecDepth 100000 in
set_option maxHeartbeats 4000000 in
theorem tX0_isComplete (l : Launch) (D : va_G) (cI cQ cL : ClassId) (ad : Nat → Nat) (N : Nat) (F : Nat → va_E) (k : Nat) (hk : k + 1 < N) (a : Nat → Int32) (n : Nat) (hn60 : n ≤ 60) (hT : gtAt cI ad F k a n) : MR l yX0_isComplete (Cond.code yX0_isComplete cX0_isComplete 3 (some .boolean) :: AW) ({ frames := 2, cells := 0, slots := 0, locals := 43 } : Room) D cI cQ cL ad N F [.ref (ad k)] (.int (bI (decide (sta a n = nI 8)))) := by
  refine mr_i (ty := .boolean) (by decide +kernel) rfl rfl rfl (bI_nar _) (Nat.le_of_ble_eq_true rfl) (fun p e s m below meth cd Q ls hx hb hml hown hts hP hK hNW hret hl => ?_)
  have hown : s.vm.findClass RX0 = some m.cls := hown
  have hk0 : k < N := by omega
  have hk1 : k + 1 < N := hk
  have hl : lv_has ls 3 [(0, .ref (ad k))] := hl
  refine lv_iconst (v := nI 0) hx hb (dk kX0_isComplete_ok 0 rfl) rfl ?_
  refine lv_istore_n (lv' := [(1, .int (nI 0)), (0, .ref (ad k))]) hx hb (dk kX0_isComplete_ok 1 rfl) rfl hl (by decide) rfl (fun ls hl => ?_)
  refine lv_iconst (v := nI 0) hx hb (dk kX0_isComplete_ok 2 rfl) rfl ?_
  refine lv_istore_n (lv' := [(2, .int (nI 0)), (1, .int (nI 0)), (0, .ref (ad k))]) hx hb (dk kX0_isComplete_ok 3 rfl) rfl hl (by decide) rfl (fun ls hl => ?_)
  have L4 : ∀ (fu : Nat) (i : Nat) (x1 : Int32), x1 = sta a i → i ≤ n → n - i < fu → ∀ ls : Array Slot, lv_has ls 3 [(0, .ref (ad k)), (1, .int x1), (2, .int (nI i))] → W p l e ({ frames := 2, cells := 0, slots := 0, locals := 43 } : Room) s m ([.ref (ad k)] : List Value).toArray below meth cd s.heap [] 0 0 Q (F0 m 4 ls []) := by
    intro fu
    induction fu with
    | zero => intros; omega
    | succ fu ih4 =>
      intro i x1 ex1 hi hm4 ls hl
      subst ex1
      refine lv_iload_n hx hb (dk kX0_isComplete_ok 4 rfl) rfl (lv_at hl 2 rfl) ?_
      refine lv_aload_n hx hb (dk kX0_isComplete_ok 5 rfl) rfl (lv_at hl 0 rfl) ?_
      refine gf hx hb hts (fun w h => List.mem_cons_of_mem _ (acX0 w h)) hown hK hP hk0 hT.1 rfl 1 (by decide) (hts _ (List.mem_cons_of_mem _ (ac0 _ (List.mem_of_getElem? (i := 5) rfl)))) (fun _ h => h) rfl (dk kX0_isComplete_ok 6 rfl) ?_
      refine n_icmp_ge (tgt := 28) hx hb (by omega) (by omega) (dk kX0_isComplete_ok 7 rfl) (by decide) (fun h1 => ?_) (fun h1 => ?_)
      · skip
        refine lv_iload_n hx hb (dk kX0_isComplete_ok 16 rfl) rfl (lv_at hl 1 rfl) ?_
        refine lv_bipush (v := nI 8) hx hb (dk kX0_isComplete_ok 17 rfl) rfl ?_
        refine lv_icmp_ne (tgt := 38) hx hb (dk kX0_isComplete_ok 18 rfl) (by decide) (fun h2 => ?_) (fun h2 => ?_)
        · skip
          refine lv_iconst (v := nI 0) hx hb (dk kX0_isComplete_ok 21 rfl) rfl ?_
          exact hret _ _ _ (by rw [← show i = n by omega]; simp only [(eq_true h1), (eq_false (Nat.not_lt.mpr h1)), (eq_false h2), decide_true, decide_false]; rfl) (dk kX0_isComplete_ok 22 rfl)
        · skip
          refine lv_iconst (v := nI 1) hx hb (dk kX0_isComplete_ok 19 rfl) rfl ?_
          refine lv_goto (tgt := 39) hx hb (dk kX0_isComplete_ok 20 rfl) (by decide) ?_
          exact hret _ _ _ (by rw [← show i = n by omega]; simp only [(eq_true h1), (eq_false (Nat.not_lt.mpr h1)), (eq_true h2), decide_true, decide_false]; rfl) (dk kX0_isComplete_ok 22 rfl)
      · skip
        refine lv_iload_n hx hb (dk kX0_isComplete_ok 8 rfl) rfl (lv_at hl 1 rfl) ?_
        refine lv_aload_n hx hb (dk kX0_isComplete_ok 9 rfl) rfl (lv_at hl 0 rfl) ?_
        refine lv_iload_n hx hb (dk kX0_isComplete_ok 10 rfl) rfl (lv_at hl 2 rfl) ?_
        refine cvR (As := [.int (nI i)]) (rest := [.int (sta a i)]) ⟨hx, hb, hml, hown, hts⟩ (tX0_codeAt l D cI cQ cL ad N F k hk a n hn60 hT (nI i) i rfl (by omega)) (cwV9 1 hts mcX0_codeAt (ac0 _ (List.mem_of_getElem? (i := 10) rfl)) miX0_codeAt meX0_codeAt mini_RX0 rfl rfl hdX0_codeAt ⟨Nat.le_of_ble_eq_true rfl, Nat.le_of_ble_eq_true rfl⟩) hK hP hNW hk0 hT.1 rfl rfl hl.1 rfl (Nat.le_of_ble_eq_true rfl) (by decide) (dk kX0_isComplete_ok 11 rfl) ?_
        refine csP (As := [.int (sta a i), .int (cod a n i)]) (rest := []) ⟨hx, hb, hml, hown, hts⟩ (tX0_stateBehind l (sta a i) (cod a n i)) (cwS9 2 hts mcX0_stateBehind (ac0 _ (List.mem_of_getElem? (i := 14) rfl)) msX0_stateBehind mini_RX0 rfl rfl hdX0_stateBehind ⟨Nat.le_of_ble_eq_true rfl, Nat.le_of_ble_eq_true rfl⟩) rfl hl.1 rfl (Nat.le_of_ble_eq_true rfl) (by decide) (dk kX0_isComplete_ok 12 rfl) ?_
        refine lv_istore_n (lv' := [(1, .int (stb (sta a i) (cod a n i))), (0, .ref (ad k)), (2, .int (nI i))]) hx hb (dk kX0_isComplete_ok 13 rfl) rfl hl (by decide) rfl (fun ls hl => ?_)
        refine lv_iinc (v := nI (i + 1)) (lv' := [(2, .int (nI (i + 1))), (1, .int (stb (sta a i) (cod a n i))), (0, .ref (ad k))]) hx hb (dk kX0_isComplete_ok 14 rfl) hl (k := 2) rfl (n_inc _) (by decide) rfl (fun ls hl => ?_)
        refine lv_goto (tgt := 4) hx hb (dk kX0_isComplete_ok 15 rfl) (by decide) ?_
        exact ih4 (i + 1) _ (by rw [show cod a n i = a i from if_pos (by omega)]; rfl) (by omega) (by omega) ls (lv_sub hl [2, 1, 0] rfl)
  exact L4 _ 0 _ (by first | rfl | omega) (by first | rfl | omega) (Nat.lt_succ_self _) ls (lv_sub hl [2, 1, 0] rfl)
set_option maxRecDepth 100000 in
set_option maxHeartbeats 4000000 in
theorem tX0_add (l : Launch) (D : va_G) (cI cQ cL : ClassId) (ad : Nat → Nat) (N : Nat) (F : Nat → va_E) (k : Nat) (hk : k + 1 < N) (a : Nat → Int32) (n : Nat) (hn60 : n ≤ 60) (hT : gtAt cI ad F k a n) (x : Int32) : MX l yX0_add (Cond.code yX0_add cX0_add 2 none :: AW) ({ frames := 0, cells := 0, slots := 0, locals := 0 } : Room) D cI cQ cL ad N F [.ref (ad k), .int x] (dp none (if n < 60 then gtSet cI ad F k (upd a n x) (n + 1) else F)) 0 0 := by
  refine mx_v (by decide +kernel) rfl (Nat.le_of_ble_eq_true rfl) (fun p e s m below meth cd Q ls hx hb hml hown hts hDi hP hK hNW hS hret hl => ?_)
  have hown : s.vm.findClass RX0 = some m.cls := hown
  have hk0 : k < N := by omega
  have hk1 : k + 1 < N := hk
  have hP : va_P D vwCl (iW ad N (gtSet cI ad F k a n)) s.heap := by rw [gtSet_self hT]; exact hP
  have hl : lv_has ls 2 [(0, .ref (ad k)), (1, .int x)] := hl
  refine lv_aload_n hx hb (dk kX0_add_ok 0 rfl) rfl (lv_at hl 0 rfl) ?_
  refine gf hx hb hts (fun w h => List.mem_cons_of_mem _ (acX0 w h)) hown hK hP hk0 gtSet_at.1 rfl 1 (by decide) (hts _ (List.mem_cons_of_mem _ (ac0 _ (List.mem_of_getElem? (i := 5) rfl)))) (fun _ h => h) rfl (dk kX0_add_ok 1 rfl) ?_
  refine lv_bipush (v := nI 60) hx hb (dk kX0_add_ok 2 rfl) rfl ?_
  refine n_icmp_ge (tgt := 29) hx hb (by omega) (by decide) (dk kX0_add_ok 3 rfl) (by decide) (fun h1 => ?_) (fun h1 => ?_)
  · skip
    exact hret _ _ _ _ _ _ _ (by refine ⟨rfl, ?_⟩; first | (rw [if_pos (by omega)]) | (rw [if_neg (by omega), gtSet_self hT])) hP hS (by decide) (by decide) (dk kX0_add_ok 16 rfl)
  · skip
    refine lv_aload_n hx hb (dk kX0_add_ok 4 rfl) rfl (lv_at hl 0 rfl) ?_
    refine gf hx hb hts (fun w h => List.mem_cons_of_mem _ (acX0 w h)) hown hK hP hk0 gtSet_at.1 rfl 0 (by decide) (hts _ (List.mem_cons_of_mem _ (ac0 _ (List.mem_of_getElem? (i := 4) rfl)))) (fun _ h => h) rfl (dk kX0_add_ok 5 rfl) ?_
    refine lv_aload_n hx hb (dk kX0_add_ok 6 rfl) rfl (lv_at hl 0 rfl) ?_
    refine gf hx hb hts (fun w h => List.mem_cons_of_mem _ (acX0 w h)) hown hK hP hk0 gtSet_at.1 rfl 1 (by decide) (hts _ (List.mem_cons_of_mem _ (ac0 _ (List.mem_of_getElem? (i := 5) rfl)))) (fun _ h => h) rfl (dk kX0_add_ok 7 rfl) ?_
    refine lv_iload_n hx hb (dk kX0_add_ok 8 rfl) rfl (lv_at hl 1 rfl) ?_
    refine ast (gtSet cI ad F k (upd a n x) n) (j := n) hx hb hK hDi hP hS hk1 gtSet_at.2 rfl (by omega) (by decide) (dk kX0_add_ok 9 rfl) gtSet_u1 (fun H locs hP hS => ?_)
    refine lv_aload_n hx hb (dk kX0_add_ok 10 rfl) rfl (lv_at hl 0 rfl) ?_
    refine lv_dup hx hb (dk kX0_add_ok 11 rfl) rfl ?_
    refine gf hx hb hts (fun w h => List.mem_cons_of_mem _ (acX0 w h)) hown hK hP hk0 gtSet_at.1 rfl 1 (by decide) (hts _ (List.mem_cons_of_mem _ (ac0 _ (List.mem_of_getElem? (i := 5) rfl)))) (fun _ h => h) rfl (dk kX0_add_ok 12 rfl) ?_
    refine lv_iconst (v := nI 1) hx hb (dk kX0_add_ok 13 rfl) rfl ?_
    refine n_iadd hx hb (dk kX0_add_ok 14 rfl) ?_
    refine pf (gtSet cI ad F k (upd a n x) (n + 1)) hx hb hts (fun w h => List.mem_cons_of_mem _ (acX0 w h)) tyX0 tyX0_ok nmX0 hown hK hDi hP hS hk0 gtSet_at.1 rfl 1 (by decide) (hts _ (List.mem_cons_of_mem _ (ac0 _ (List.mem_of_getElem? (i := 5) rfl)))) (fun _ h => h) rfl (ty := .int) rfl rfl rfl (Nat.le_of_ble_eq_true rfl) (dk kX0_add_ok 15 rfl) gtSet_u0 (fun H locs hP hS => ?_)
    exact hret _ _ _ _ _ _ _ (by refine ⟨rfl, ?_⟩; first | (rw [if_pos (by omega)]) | (rw [if_neg (by omega), gtSet_self hT])) hP hS (by decide) (by decide) (dk kX0_add_ok 16 rfl)
set_option maxRecDepth 100000 in
set_option maxHeartbeats 4000000 in
theorem tJ7_fill_53178 (l : Launch) (D : va_G) (cI cQ cL : ClassId) (ad : Nat → Nat) (N : Nat) (F : Nat → va_E) (k : Nat) (hk : k < N) (g : Nat → Int32) (hA : F k = .inl (cI, 169, .inl g)) (x : Int32) : MX l yJ7_fill_53178 (Cond.code yJ7_fill_53178 cJ7_fill_53178 4 none :: AW) ({ frames := 0, cells := 0, slots := 0, locals := 0 } : Room) D cI cQ cL ad N F [.ref (ad k), .int x] (dp none (va_up F k (.inl (cI, 169, .inl (fun _ => x))))) 0 0 := by
  refine mx_v (by decide +kernel) rfl (Nat.le_of_ble_eq_true rfl) (fun p e s m below meth cd Q ls hx hb hml hown hts hDi hP hK hNW hS hret hl => ?_)
  have hown : s.vm.findClass RJ7 = some m.cls := hown
  have hP : va_P D vwCl (iW ad N (va_up F k (.inl (cI, 169, .inl g)))) s.heap := by rw [va_up_id hA]; exact hP
  have hl : lv_has ls 4 [(0, .ref (ad k)), (1, .int x)] := hl
  refine lv_iconst (v := nI 0) hx hb (dk kJ7_fill_53178_ok 0 rfl) rfl ?_
  refine lv_istore_n (lv' := [(2, .int (nI 0)), (0, .ref (ad k)), (1, .int x)]) hx hb (dk kJ7_fill_53178_ok 1 rfl) rfl hl (by decide) rfl (fun ls hl => ?_)
  refine lv_aload_n hx hb (dk kJ7_fill_53178_ok 2 rfl) rfl (lv_at hl 1 rfl) ?_
  refine alen hx hb hK hP hk (va_up_self _ _ _) (dk kJ7_fill_53178_ok 3 rfl) ?_
  refine lv_istore_n (lv' := [(3, .int (nI 169)), (2, .int (nI 0)), (0, .ref (ad k)), (1, .int x)]) hx hb (dk kJ7_fill_53178_ok 4 rfl) rfl hl (by decide) rfl (fun ls hl => ?_)
  have L5 : ∀ (fu : Nat) (i : Nat) (H : Heap) (locs : List Loc), va_P D vwCl (iW ad N (va_up F k (.inl (cI, 169, .inl (fl9 g i x))))) H → va_S (iA ad N s.heap.size) s.heap H locs → i ≤ 169 → 169 - i < fu → ∀ ls : Array Slot, lv_has ls 4 [(0, .ref (ad k)), (1, .int x), (2, .int (nI i)), (3, .int (nI 169))] → W p l e ({ frames := 0, cells := 0, slots := 0, locals := 0 } : Room) s m ([.ref (ad k), .int x] : List Value).toArray below meth cd H locs 0 0 Q (F0 m 5 ls []) := by
    intro fu
    induction fu with
    | zero => intros; omega
    | succ fu ih5 =>
      intro i H locs hP hS hi hm5 ls hl
      refine lv_iload_n hx hb (dk kJ7_fill_53178_ok 5 rfl) rfl (lv_at hl 2 rfl) ?_
      refine lv_iload_n hx hb (dk kJ7_fill_53178_ok 6 rfl) rfl (lv_at hl 3 rfl) ?_
      refine n_icmp_ge (tgt := 20) hx hb (by omega) (by decide) (dk kJ7_fill_53178_ok 7 rfl) (by decide) (fun h1 => ?_) (fun h1 => ?_)
      · skip
        exact hret _ _ _ _ _ _ _ (by exact ⟨rfl, rfl⟩) (fl9_end (g := g) (by rw [show i = 169 by omega] at hP; exact hP)) hS (by decide) (by decide) (dk kJ7_fill_53178_ok 14 rfl)
      · skip
        refine lv_aload_n hx hb (dk kJ7_fill_53178_ok 8 rfl) rfl (lv_at hl 0 rfl) ?_
        refine lv_iload_n hx hb (dk kJ7_fill_53178_ok 9 rfl) rfl (lv_at hl 2 rfl) ?_
        refine lv_iload_n hx hb (dk kJ7_fill_53178_ok 10 rfl) rfl (lv_at hl 1 rfl) ?_
        refine ast (va_up F k (.inl (cI, 169, .inl (upd (fl9 g i x) i x)))) (j := i) hx hb hK hDi hP hS hk (va_up_self _ _ _) rfl (by omega) (by decide) (dk kJ7_fill_53178_ok 11 rfl) va_up_up (fun H locs hP hS => ?_)
        refine lv_iinc (v := nI (i + 1)) (lv' := [(2, .int (nI (i + 1))), (0, .ref (ad k)), (1, .int x), (3, .int (nI 169))]) hx hb (dk kJ7_fill_53178_ok 12 rfl) hl (k := 2) rfl (n_inc _) (by decide) rfl (fun ls hl => ?_)
        refine lv_goto (tgt := 5) hx hb (dk kJ7_fill_53178_ok 13 rfl) (by decide) ?_
        exact ih5 (i + 1) _ _ (by first | (rw [fl9_0]; exact hP) | (rw [← fl9_s]; exact hP)) hS (by omega) (by omega) ls (lv_sub hl [1, 2, 0, 3] rfl)
  exact L5 _ 0 _ _ (by first | (rw [fl9_0]; exact hP) | (rw [← fl9_s]; exact hP)) hS (by first | omega | rfl) (Nat.lt_succ_self _) ls (lv_sub hl [2, 3, 1, 0] rfl)
set_option maxRecDepth 100000 in
set_option maxHeartbeats 4000000 in
theorem tX3_search (l : Launch) (D : va_G) (cI cQ cL : ClassId) (ad : Nat → Nat) (N : Nat) (F : Nat → va_E) (k : Nat) (hk : k + 3 < N) (a d q : Nat → Int32) (hO : roAt cI ad F k a d q) (x : Int32) (w : Nat) (hxw : x = nI w) (hw : w < 169) (y : Int32) (m9 : Nat) (hym : y = nI m9) (hm9 : m9 ≤ 1) : MX l yX3_search (Cond.code yX3_search cX3_search 8 (some .int) :: AW) ({ frames := 2, cells := 0, slots := 0, locals := 49 } : Room) D cI cQ cL ad N F [.ref (ad k), .int x, .int y] (dp (some (.int (sea q w m9).1)) (roSet cI ad F k a (sea q w m9).2.1 (sea q w m9).2.2)) 0 0 := by
  refine mx_i (ty := .int) (by decide +kernel) rfl (Nat.le_of_ble_eq_true rfl) (fun p e s m below meth cd Q ls hx hb hml hown hts hDi hP hK hNW hS hret hl => ?_)
  have hown : s.vm.findClass RX3 = some m.cls := hown
  subst hxw
  subst hym
  have hk0 : k < N := by omega
  have hk1 : k + 1 < N := by omega
  have hk2 : k + 2 < N := by omega
  have hk3 : k + 3 < N := hk
  have hP : va_P D vwCl (iW ad N (roSet cI ad F k a d q)) s.heap := by rw [roSet_self hO]; exact hP
  have hl : lv_has ls 8 [(0, .ref (ad k)), (1, .int (nI w)), (2, .int (nI m9))] := hl
  refine lv_aload_n hx hb (dk kX3_search_0_ok 0 rfl) rfl (lv_at hl 0 rfl) ?_
  refine gf hx hb hts (fun w h => List.mem_cons_of_mem _ (acX3 w h)) hown hK hP hk0 roSet_at.1 rfl 1 (by decide) (hts _ (List.mem_cons_of_mem _ (ac5 _ (List.mem_of_getElem? (i := 12) rfl)))) (fun _ h => h) rfl (dk kX3_search_0_ok 1 rfl) ?_
  refine lv_iconst (v := -1) hx hb (dk kX3_search_0_ok 2 rfl) rfl ?_
  refine csDv (As := [.ref (ad (k + 2)), .int (-1)]) (rest := []) (roSet cI ad F k a (fun _ => -1) q) ⟨hx, hb, hml, hown, hts⟩ (tJ7_fill_53178 l D cI cQ cL ad N (roSet cI ad F k a d q) (k + 2) hk2 d roSet_at.2.2.1 (-1)) (cwS9 2 hts mcJ7_fill_53178 (ac5 _ (List.mem_of_getElem? (i := 23) rfl)) msJ7_fill_53178 (ac6 _ (List.mem_of_getElem? (i := 1) rfl)) rfl rfl hdJ7_fill_53178 ⟨Nat.le_of_ble_eq_true rfl, Nat.le_of_ble_eq_true rfl⟩) hDi hK hP hNW hS rfl hl.1 rfl (Nat.le_of_ble_eq_true rfl) (by decide) (dk kX3_search_0_ok 3 rfl) roSet_u2 (fun H locs hP hS => ?_)
  refine lv_aload_n hx hb (dk kX3_search_0_ok 4 rfl) rfl (lv_at hl 0 rfl) ?_
  refine gf hx hb hts (fun w h => List.mem_cons_of_mem _ (acX3 w h)) hown hK hP hk0 roSet_at.1 rfl 1 (by decide) (hts _ (List.mem_cons_of_mem _ (ac5 _ (List.mem_of_getElem? (i := 12) rfl)))) (fun _ h => h) rfl (dk kX3_search_0_ok 5 rfl) ?_
  refine lv_iload_n hx hb (dk kX3_search_0_ok 6 rfl) rfl (lv_at hl 1 rfl) ?_
  refine lv_iconst (v := nI 0) hx hb (dk kX3_search_0_ok 7 rfl) rfl ?_
  refine ast (roSet cI ad F k a (upd (fun _ => -1) w (nI 0)) q) (j := w) hx hb hK hDi hP hS hk2 roSet_at.2.2.1 rfl (by omega) (by decide) (dk kX3_search_0_ok 8 rfl) roSet_u2 (fun H locs hP hS => ?_)
  refine lv_aload_n hx hb (dk kX3_search_0_ok 9 rfl) rfl (lv_at hl 0 rfl) ?_
  refine gf hx hb hts (fun w h => List.mem_cons_of_mem _ (acX3 w h)) hown hK hP hk0 roSet_at.1 rfl 2 (by decide) (hts _ (List.mem_cons_of_mem _ (ac5 _ (List.mem_of_getElem? (i := 13) rfl)))) (fun _ h => h) rfl (dk kX3_search_0_ok 10 rfl) ?_
  refine lv_iconst (v := nI 0) hx hb (dk kX3_search_0_ok 11 rfl) rfl ?_
  refine lv_iload_n hx hb (dk kX3_search_0_ok 12 rfl) rfl (lv_at hl 1 rfl) ?_
  refine ast (roSet cI ad F k a (upd (fun _ => -1) w (nI 0)) (upd q 0 (nI w))) (j := 0) hx hb hK hDi hP hS hk3 roSet_at.2.2.2 rfl (by omega) (by decide) (dk kX3_search_0_ok 13 rfl) roSet_u3 (fun H locs hP hS => ?_)
  refine lv_iconst (v := nI 1) hx hb (dk kX3_search_0_ok 14 rfl) rfl ?_
  refine lv_istore_n (lv' := [(3, .int (nI 1)), (0, .ref (ad k)), (1, .int (nI w)), (2, .int (nI m9))]) hx hb (dk kX3_search_0_ok 15 rfl) rfl hl (by decide) rfl (fun ls hl => ?_)
  refine lv_iconst (v := nI 0) hx hb (dk kX3_search_0_ok 16 rfl) rfl ?_
  refine lv_istore (lv' := [(4, .int (nI 0)), (3, .int (nI 1)), (0, .ref (ad k)), (1, .int (nI w)), (2, .int (nI m9))]) hx hb (dk kX3_search_0_ok 17 rfl) hl (by decide) rfl (fun ls hl => ?_)
  have L27 : ∀ (fu : Nat) (kk n : Nat) (d2 q2 : Nat → Int32) (H : Heap) (locs : List Loc), va_P D vwCl (iW ad N (roSet cI ad F k a d2 q2)) H → va_S (iA ad N s.heap.size) s.heap H locs → kk ≤ 169 → n ≤ 169 → (∀ i, i < n → cell9 (q2 i)) → sea q w m9 = srO m9 (170 - kk) kk d2 q2 n → 170 - kk < fu → ∀ ls : Array Slot, lv_has ls 8 [(0, .ref (ad k)), (1, .int (nI w)), (2, .int (nI m9)), (3, .int (nI n)), (4, .int (nI kk))] → W p l e ({ frames := 2, cells := 0, slots := 0, locals := 49 } : Room) s m ([.ref (ad k), .int (nI w), .int (nI m9)] : List Value).toArray below meth cd H locs 0 0 Q (F0 m 27 ls []) := by
    intro fu
    induction fu with
    | zero => intros; omega
    | succ fu ih27 =>
      intro kk n d2 q2 H locs hP hS hkk hn hq2 hr hm27 ls hl
      refine lv_iload hx hb (dk kX3_search_0_ok 18 rfl) (lv_at hl 4 rfl) ?_
      refine lv_iload_n hx hb (dk kX3_search_0_ok 19 rfl) rfl (lv_at hl 3 rfl) ?_
      refine n_icmp_ge (tgt := 161) hx hb (by omega) (by omega) (dk kX3_search_0_ok 20 rfl) (by decide) (fun h1 => ?_) (fun h1 => ?_)
      · skip
        refine lv_iconst (v := -1) hx hb (dk kX3_search_1_ok 29 rfl) rfl ?_
        exact hret _ _ _ _ _ _ _ _ rfl (by first | (have e9 := srO_hit (i := 170 - (kk + 1)) (r := d3 (ix (q2 kk)) + nI 1) (d' := d3) (q' := q3) (n' := n3) h1 h2 (hri.trans (by rw [show 72 - f = (72 - (f + 1)) + 1 by omega]; simp only [srI, (eq_true h1), (eq_false (Nat.not_lt.mpr h1)), not_true_eq_false, not_false_eq_true, and_true, true_and, and_false, false_and, or_true, true_or, or_false, false_or, and_self, or_self, if_true, if_false, Bool.false_eq_true, reduceIte])); rw [← show 170 - kk = (170 - (kk + 1)) + 1 by omega, ← hr] at e9; rw [e9]; exact ⟨rfl, rfl⟩) | (have e9 := srO_end (m := m9) (i := 170 - (kk + 1)) (k := kk) (n := n) (d := d2) (q := q2) (by omega); rw [← show 170 - kk = (170 - (kk + 1)) + 1 by omega, ← hr] at e9; rw [e9]; exact ⟨rfl, rfl⟩)) hP hS (by decide) (by decide) (dk kX3_search_1_ok 30 rfl)
      · skip
        refine lv_iload hx hb (dk kX3_search_0_ok 21 rfl) (lv_at hl 4 rfl) ?_
        refine lv_sipush (v := nI 169) hx hb (dk kX3_search_0_ok 22 rfl) rfl ?_
        refine n_icmp_ge (tgt := 161) hx hb (by omega) (by decide) (dk kX3_search_0_ok 23 rfl) (by decide) (fun h2 => ?_) (fun h2 => ?_)
        · skip
          refine lv_iconst (v := -1) hx hb (dk kX3_search_1_ok 29 rfl) rfl ?_
          exact hret _ _ _ _ _ _ _ _ rfl (by first | (have e9 := srO_hit (i := 170 - (kk + 1)) (r := d3 (ix (q2 kk)) + nI 1) (d' := d3) (q' := q3) (n' := n3) h1 h2 (hri.trans (by rw [show 72 - f = (72 - (f + 1)) + 1 by omega]; simp only [srI, (eq_true h1), (eq_false (Nat.not_le.mpr h1)), (eq_true h2), (eq_false (Nat.not_lt.mpr h2)), not_true_eq_false, not_false_eq_true, and_true, true_and, and_false, false_and, or_true, true_or, or_false, false_or, and_self, or_self, if_true, if_false, Bool.false_eq_true, reduceIte])); rw [← show 170 - kk = (170 - (kk + 1)) + 1 by omega, ← hr] at e9; rw [e9]; exact ⟨rfl, rfl⟩) | (have e9 := srO_end (m := m9) (i := 170 - (kk + 1)) (k := kk) (n := n) (d := d2) (q := q2) (by omega); rw [← show 170 - kk = (170 - (kk + 1)) + 1 by omega, ← hr] at e9; rw [e9]; exact ⟨rfl, rfl⟩)) hP hS (by decide) (by decide) (dk kX3_search_1_ok 30 rfl)
        · skip
          refine lv_aload_n hx hb (dk kX3_search_0_ok 24 rfl) rfl (lv_at hl 0 rfl) ?_
          refine gf hx hb hts (fun w h => List.mem_cons_of_mem _ (acX3 w h)) hown hK hP hk0 roSet_at.1 rfl 2 (by decide) (hts _ (List.mem_cons_of_mem _ (ac5 _ (List.mem_of_getElem? (i := 13) rfl)))) (fun _ h => h) rfl (dk kX3_search_0_ok 25 rfl) ?_
          refine lv_iload hx hb (dk kX3_search_0_ok 26 rfl) (lv_at hl 4 rfl) ?_
          refine ald (j := kk) hx hb hK hP hk3 roSet_at.2.2.2 rfl (by omega) (by decide) (dk kX3_search_0_ok 27 rfl) ?_
          refine lv_istore (lv' := [(5, .int (q2 kk)), (0, .ref (ad k)), (1, .int (nI w)), (2, .int (nI m9)), (3, .int (nI n)), (4, .int (nI kk))]) hx hb (dk kX3_search_0_ok 28 rfl) hl (by decide) rfl (fun ls hl => ?_)
          refine lv_iconst (v := nI 0) hx hb (dk kX3_search_0_ok 29 rfl) rfl ?_
          refine lv_istore (lv' := [(6, .int (nI 0)), (5, .int (q2 kk)), (0, .ref (ad k)), (1, .int (nI w)), (2, .int (nI m9)), (3, .int (nI n)), (4, .int (nI kk))]) hx hb (dk kX3_search_0_ok 30 rfl) hl (by decide) rfl (fun ls hl => ?_)
          have L53 : ∀ (fu : Nat) (f n3 : Nat) (d3 q3 : Nat → Int32) (H : Heap) (locs : List Loc), va_P D vwCl (iW ad N (roSet cI ad F k a d3 q3)) H → va_S (iA ad N s.heap.size) s.heap H locs → f ≤ 72 → n3 ≤ 169 → (∀ i, i < n3 → cell9 (q3 i)) → srI m9 (q2 kk) 72 0 d2 q2 n = srI m9 (q2 kk) (72 - f) f d3 q3 n3 → 72 - f < fu → ∀ ls : Array Slot, lv_has ls 8 [(0, .ref (ad k)), (1, .int (nI w)), (2, .int (nI m9)), (3, .int (nI n3)), (4, .int (nI kk)), (5, .int (q2 kk)), (6, .int (nI f))] → W p l e ({ frames := 2, cells := 0, slots := 0, locals := 49 } : Room) s m ([.ref (ad k), .int (nI w), .int (nI m9)] : List Value).toArray below meth cd H locs 0 0 Q (F0 m 53 ls []) := by
            intro fu
            induction fu with
            | zero => intros; omega
            | succ fu ih53 =>
              intro f n3 d3 q3 H locs hP hS hf hn3 hq3 hri hm53 ls hl
              have hc : cell9 (q2 kk) := hq2 kk h1
              refine lv_iload hx hb (dk kX3_search_0_ok 31 rfl) (lv_at hl 6 rfl) ?_
              refine lv_bipush (v := nI 72) hx hb (dk kX3_search_0_ok 32 rfl) rfl ?_
              refine n_icmp_ge (tgt := 155) hx hb (by omega) (by decide) (dk kX3_search_0_ok 33 rfl) (by decide) (fun h3 => ?_) (fun h3 => ?_)
              · skip
                refine lv_iinc (v := nI (kk + 1)) (lv' := [(4, .int (nI (kk + 1))), (0, .ref (ad k)), (1, .int (nI w)), (2, .int (nI m9)), (3, .int (nI n3)), (5, .int (q2 kk)), (6, .int (nI f))]) hx hb (dk kX3_search_1_ok 27 rfl) hl (k := 4) rfl (n_inc _) (by decide) rfl (fun ls hl => ?_)
                refine lv_goto (tgt := 27) hx hb (dk kX3_search_1_ok 28 rfl) (by decide) ?_
                exact ih27 (kk + 1) n3 d3 q3 _ _ hP hS (by omega) (by omega) (by exact hq3) (by rw [hr, show 170 - kk = (170 - (kk + 1)) + 1 by omega]; exact srO_miss h1 h2 (hri.trans (by rw [show 72 - f = 0 by omega]; rfl))) (by omega) ls (lv_sub hl [1, 2, 3, 4, 0] rfl)
              · skip
                refine lv_iload hx hb (dk kX3_search_0_ok 34 rfl) (lv_at hl 5 rfl) ?_
                refine lv_iload hx hb (dk kX3_search_0_ok 35 rfl) (lv_at hl 6 rfl) ?_
                refine lv_bipush (v := nI 9) hx hb (dk kX3_search_0_ok 36 rfl) rfl ?_
                refine n_idiv hx hb (by omega) (by decide) (by decide) (dk kX3_search_0_ok 37 rfl) ?_
                refine lv_iload hx hb (dk kX3_search_0_ok 38 rfl) (lv_at hl 6 rfl) ?_
                refine lv_bipush (v := nI 9) hx hb (dk kX3_search_0_ok 39 rfl) rfl ?_
                refine n_irem hx hb (by omega) (by decide) (by decide) (dk kX3_search_0_ok 40 rfl) ?_
                refine lv_iconst (v := nI 1) hx hb (dk kX3_search_0_ok 41 rfl) rfl ?_
                refine n_iadd hx hb (dk kX3_search_0_ok 42 rfl) ?_
                refine lv_iload_n hx hb (dk kX3_search_0_ok 43 rfl) rfl (lv_at hl 2 rfl) ?_
                refine n_iadd hx hb (dk kX3_search_0_ok 44 rfl) ?_
                refine csPN (As := [.int (q2 kk), .int (nI (f / 9)), .int (nI (((f % 9) + 1) + m9))]) (rest := []) ⟨hx, hb, hml, hown, hts⟩ (tX5_landing l (q2 kk) (nI (f / 9)) (nI (((f % 9) + 1) + m9)) (((f % 9) + 1) + m9) rfl (by omega)) (cwN9 3 hts mcX5_landing (nm8 hNW) mini_RX5 rfl rfl hdX5_landing ⟨Nat.le_of_ble_eq_true rfl, Nat.le_of_ble_eq_true rfl⟩) (hts _ (List.mem_cons_of_mem _ msX5_landing)) rfl hl.1 rfl (Nat.le_of_ble_eq_true rfl) (by decide) (dk kX3_search_0_ok 45 rfl) ?_
                refine lv_istore (lv' := [(7, .int (ldg (q2 kk) (nI (f / 9)) (((f % 9) + 1) + m9))), (0, .ref (ad k)), (1, .int (nI w)), (2, .int (nI m9)), (3, .int (nI n3)), (4, .int (nI kk)), (5, .int (q2 kk)), (6, .int (nI f))]) hx hb (dk kX3_search_0_ok 46 rfl) hl (by decide) rfl (fun ls hl => ?_)
                refine lv_iload hx hb (dk kX3_search_0_ok 47 rfl) (lv_at hl 0 rfl) ?_
                refine lv_bipush (v := nI 84) hx hb (dk kX3_search_0_ok 48 rfl) rfl ?_
                refine lv_icmp_ne (tgt := 98) hx hb (dk kX3_search_0_ok 49 rfl) (by decide) (fun h4 => ?_) (fun h4 => ?_)
                · skip
                  refine lv_iload hx hb (dk kX3_search_0_ok 57 rfl) (lv_at hl 0 rfl) ?_
                  refine lv_iconst (v := -1) hx hb (dk kX3_search_0_ok 58 rfl) rfl ?_
                  refine lv_icmp_eq (tgt := 149) hx hb (dk kX3_search_0_ok 59 rfl) (by decide) (fun h5 => ?_) (fun h5 => ?_)
                  · skip
                    refine lv_iinc (v := nI (f + 1)) (lv' := [(6, .int (nI (f + 1))), (7, .int (ldg (q2 kk) (nI (f / 9)) (((f % 9) + 1) + m9))), (0, .ref (ad k)), (1, .int (nI w)), (2, .int (nI m9)), (3, .int (nI n3)), (4, .int (nI kk)), (5, .int (q2 kk))]) hx hb (dk kX3_search_1_ok 25 rfl) hl (k := 7) rfl (n_inc _) (by decide) rfl (fun ls hl => ?_)
                    refine lv_goto (tgt := 53) hx hb (dk kX3_search_1_ok 26 rfl) (by decide) ?_
                    exact ih53 (f + 1) n3 d3 q3 _ _ hP hS (by omega) (by omega) (by first | exact hq3 | (intro i hi; unfold upd; split; exact (ldg_cell hc _ _).resolve_left (by assumption); exact hq3 i (by omega))) (by rw [hri, show 72 - f = (72 - (f + 1)) + 1 by omega]; simp only [srI, (eq_true h1), (eq_false (Nat.not_le.mpr h1)), (eq_true h2), (eq_false (Nat.not_le.mpr h2)), (eq_true h3), (eq_false (Nat.not_le.mpr h3)), (eq_false h4), (eq_true h5), not_true_eq_false, not_false_eq_true, and_true, true_and, and_false, false_and, or_true, true_or, or_false, false_or, and_self, or_self, if_true, if_false, Bool.false_eq_true, reduceIte]) (by omega) ls (lv_sub hl [2, 3, 4, 5, 6, 7, 0] rfl)
                  · skip
                    refine lv_aload_n hx hb (dk kX3_search_1_ok 0 rfl) rfl (lv_at hl 1 rfl) ?_
                    refine gf hx hb hts (fun w h => List.mem_cons_of_mem _ (acX3 w h)) hown hK hP hk0 roSet_at.1 rfl 1 (by decide) (hts _ (List.mem_cons_of_mem _ (ac5 _ (List.mem_of_getElem? (i := 12) rfl)))) (fun _ h => h) rfl (dk kX3_search_1_ok 1 rfl) ?_
                    refine lv_iload hx hb (dk kX3_search_1_ok 2 rfl) (lv_at hl 0 rfl) ?_
                    refine ald (j := (ix (ldg (q2 kk) (nI (f / 9)) (((f % 9) + 1) + m9)))) hx hb hK hP hk2 roSet_at.2.2.1 (cell9_ix ((ldg_cell hc _ _).resolve_left h5)).1 (cell9_ix ((ldg_cell hc _ _).resolve_left h5)).2 (by decide) (dk kX3_search_1_ok 3 rfl) ?_
                    refine lv_iconst (v := -1) hx hb (dk kX3_search_1_ok 4 rfl) rfl ?_
                    refine lv_icmp_ne (tgt := 149) hx hb (dk kX3_search_1_ok 5 rfl) (by decide) (fun h6 => ?_) (fun h6 => ?_)
                    · skip
                      refine lv_iinc (v := nI (f + 1)) (lv' := [(6, .int (nI (f + 1))), (7, .int (ldg (q2 kk) (nI (f / 9)) (((f % 9) + 1) + m9))), (0, .ref (ad k)), (1, .int (nI w)), (2, .int (nI m9)), (3, .int (nI n3)), (4, .int (nI kk)), (5, .int (q2 kk))]) hx hb (dk kX3_search_1_ok 25 rfl) hl (k := 7) rfl (n_inc _) (by decide) rfl (fun ls hl => ?_)
                      refine lv_goto (tgt := 53) hx hb (dk kX3_search_1_ok 26 rfl) (by decide) ?_
                      exact ih53 (f + 1) n3 d3 q3 _ _ hP hS (by omega) (by omega) (by first | exact hq3 | (intro i hi; unfold upd; split; exact (ldg_cell hc _ _).resolve_left (by assumption); exact hq3 i (by omega))) (by rw [hri, show 72 - f = (72 - (f + 1)) + 1 by omega]; simp only [srI, (eq_true h1), (eq_false (Nat.not_le.mpr h1)), (eq_true h2), (eq_false (Nat.not_le.mpr h2)), (eq_true h3), (eq_false (Nat.not_le.mpr h3)), (eq_false h4), (eq_false h5), (eq_false h6), not_true_eq_false, not_false_eq_true, and_true, true_and, and_false, false_and, or_true, true_or, or_false, false_or, and_self, or_self, if_true, if_false, Bool.false_eq_true, reduceIte]) (by omega) ls (lv_sub hl [2, 3, 4, 5, 6, 7, 0] rfl)
                    · skip
                      refine lv_iload_n hx hb (dk kX3_search_1_ok 6 rfl) rfl (lv_at hl 4 rfl) ?_
                      refine lv_sipush (v := nI 169) hx hb (dk kX3_search_1_ok 7 rfl) rfl ?_
                      refine n_icmp_ge (tgt := 149) hx hb (by omega) (by decide) (dk kX3_search_1_ok 8 rfl) (by decide) (fun h7 => ?_) (fun h7 => ?_)
                      · skip
                        refine lv_iinc (v := nI (f + 1)) (lv' := [(6, .int (nI (f + 1))), (7, .int (ldg (q2 kk) (nI (f / 9)) (((f % 9) + 1) + m9))), (0, .ref (ad k)), (1, .int (nI w)), (2, .int (nI m9)), (3, .int (nI n3)), (4, .int (nI kk)), (5, .int (q2 kk))]) hx hb (dk kX3_search_1_ok 25 rfl) hl (k := 7) rfl (n_inc _) (by decide) rfl (fun ls hl => ?_)
                        refine lv_goto (tgt := 53) hx hb (dk kX3_search_1_ok 26 rfl) (by decide) ?_
                        exact ih53 (f + 1) n3 d3 q3 _ _ hP hS (by omega) (by omega) (by first | exact hq3 | (intro i hi; unfold upd; split; exact (ldg_cell hc _ _).resolve_left (by assumption); exact hq3 i (by omega))) (by rw [hri, show 72 - f = (72 - (f + 1)) + 1 by omega]; simp only [srI, (eq_true h1), (eq_false (Nat.not_le.mpr h1)), (eq_true h2), (eq_false (Nat.not_le.mpr h2)), (eq_true h3), (eq_false (Nat.not_le.mpr h3)), (eq_false h4), (eq_false h5), (eq_true h6), (eq_true h7), (eq_false (Nat.not_lt.mpr h7)), not_true_eq_false, not_false_eq_true, and_true, true_and, and_false, false_and, or_true, true_or, or_false, false_or, and_self, or_self, if_true, if_false, Bool.false_eq_true, reduceIte]) (by omega) ls (lv_sub hl [2, 3, 4, 5, 6, 7, 0] rfl)
                      · skip
                        refine lv_aload_n hx hb (dk kX3_search_1_ok 9 rfl) rfl (lv_at hl 1 rfl) ?_
                        refine gf hx hb hts (fun w h => List.mem_cons_of_mem _ (acX3 w h)) hown hK hP hk0 roSet_at.1 rfl 1 (by decide) (hts _ (List.mem_cons_of_mem _ (ac5 _ (List.mem_of_getElem? (i := 12) rfl)))) (fun _ h => h) rfl (dk kX3_search_1_ok 10 rfl) ?_
                        refine lv_iload hx hb (dk kX3_search_1_ok 11 rfl) (lv_at hl 0 rfl) ?_
                        refine lv_aload_n hx hb (dk kX3_search_1_ok 12 rfl) rfl (lv_at hl 1 rfl) ?_
                        refine gf hx hb hts (fun w h => List.mem_cons_of_mem _ (acX3 w h)) hown hK hP hk0 roSet_at.1 rfl 1 (by decide) (hts _ (List.mem_cons_of_mem _ (ac5 _ (List.mem_of_getElem? (i := 12) rfl)))) (fun _ h => h) rfl (dk kX3_search_1_ok 13 rfl) ?_
                        refine lv_iload hx hb (dk kX3_search_1_ok 14 rfl) (lv_at hl 6 rfl) ?_
                        refine ald (j := (ix (q2 kk))) hx hb hK hP hk2 roSet_at.2.2.1 (cell9_ix hc).1 (cell9_ix hc).2 (by decide) (dk kX3_search_1_ok 15 rfl) ?_
                        refine lv_iconst (v := nI 1) hx hb (dk kX3_search_1_ok 16 rfl) rfl ?_
                        refine lv_iadd hx hb (dk kX3_search_1_ok 17 rfl) ?_
                        refine ast (roSet cI ad F k a (upd d3 (ix (ldg (q2 kk) (nI (f / 9)) (((f % 9) + 1) + m9))) ((d3 (ix (q2 kk))) + (nI 1))) q3) (j := (ix (ldg (q2 kk) (nI (f / 9)) (((f % 9) + 1) + m9)))) hx hb hK hDi hP hS hk2 roSet_at.2.2.1 (cell9_ix ((ldg_cell hc _ _).resolve_left h5)).1 (cell9_ix ((ldg_cell hc _ _).resolve_left h5)).2 (by decide) (dk kX3_search_1_ok 18 rfl) roSet_u2 (fun H locs hP hS => ?_)
                        refine lv_aload_n hx hb (dk kX3_search_1_ok 19 rfl) rfl (lv_at hl 1 rfl) ?_
                        refine gf hx hb hts (fun w h => List.mem_cons_of_mem _ (acX3 w h)) hown hK hP hk0 roSet_at.1 rfl 2 (by decide) (hts _ (List.mem_cons_of_mem _ (ac5 _ (List.mem_of_getElem? (i := 13) rfl)))) (fun _ h => h) rfl (dk kX3_search_1_ok 20 rfl) ?_
                        refine lv_iload_n hx hb (dk kX3_search_1_ok 21 rfl) rfl (lv_at hl 4 rfl) ?_
                        refine lv_iload hx hb (dk kX3_search_1_ok 22 rfl) (lv_at hl 0 rfl) ?_
                        refine ast (roSet cI ad F k a (upd d3 (ix (ldg (q2 kk) (nI (f / 9)) (((f % 9) + 1) + m9))) ((d3 (ix (q2 kk))) + (nI 1))) (upd q3 n3 (ldg (q2 kk) (nI (f / 9)) (((f % 9) + 1) + m9)))) (j := n3) hx hb hK hDi hP hS hk3 roSet_at.2.2.2 rfl (by omega) (by decide) (dk kX3_search_1_ok 23 rfl) roSet_u3 (fun H locs hP hS => ?_)
                        refine lv_iinc (v := nI (n3 + 1)) (lv' := [(3, .int (nI (n3 + 1))), (7, .int (ldg (q2 kk) (nI (f / 9)) (((f % 9) + 1) + m9))), (0, .ref (ad k)), (1, .int (nI w)), (2, .int (nI m9)), (4, .int (nI kk)), (5, .int (q2 kk)), (6, .int (nI f))]) hx hb (dk kX3_search_1_ok 24 rfl) hl (k := 4) rfl (n_inc _) (by decide) rfl (fun ls hl => ?_)
                        refine lv_iinc (v := nI (f + 1)) (lv' := [(6, .int (nI (f + 1))), (3, .int (nI (n3 + 1))), (7, .int (ldg (q2 kk) (nI (f / 9)) (((f % 9) + 1) + m9))), (0, .ref (ad k)), (1, .int (nI w)), (2, .int (nI m9)), (4, .int (nI kk)), (5, .int (q2 kk))]) hx hb (dk kX3_search_1_ok 25 rfl) hl (k := 7) rfl (n_inc _) (by decide) rfl (fun ls hl => ?_)
                        refine lv_goto (tgt := 53) hx hb (dk kX3_search_1_ok 26 rfl) (by decide) ?_
                        exact ih53 (f + 1) (n3 + 1) (upd d3 (ix (ldg (q2 kk) (nI (f / 9)) (((f % 9) + 1) + m9))) ((d3 (ix (q2 kk))) + (nI 1))) (upd q3 n3 (ldg (q2 kk) (nI (f / 9)) (((f % 9) + 1) + m9))) _ _ hP hS (by omega) (by omega) (by first | exact hq3 | (intro i hi; unfold upd; split; exact (ldg_cell hc _ _).resolve_left (by assumption); exact hq3 i (by omega))) (by rw [hri, show 72 - f = (72 - (f + 1)) + 1 by omega]; simp only [srI, (eq_true h1), (eq_false (Nat.not_le.mpr h1)), (eq_true h2), (eq_false (Nat.not_le.mpr h2)), (eq_true h3), (eq_false (Nat.not_le.mpr h3)), (eq_false h4), (eq_false h5), (eq_true h6), (eq_true h7), (eq_false (Nat.not_le.mpr h7)), not_true_eq_false, not_false_eq_true, and_true, true_and, and_false, false_and, or_true, true_or, or_false, false_or, and_self, or_self, if_true, if_false, Bool.false_eq_true, reduceIte]) (by omega) ls (lv_sub hl [3, 4, 5, 1, 6, 7, 0] rfl)
                · skip
                  refine lv_aload_n hx hb (dk kX3_search_0_ok 50 rfl) rfl (lv_at hl 1 rfl) ?_
                  refine gf hx hb hts (fun w h => List.mem_cons_of_mem _ (acX3 w h)) hown hK hP hk0 roSet_at.1 rfl 1 (by decide) (hts _ (List.mem_cons_of_mem _ (ac5 _ (List.mem_of_getElem? (i := 12) rfl)))) (fun _ h => h) rfl (dk kX3_search_0_ok 51 rfl) ?_
                  refine lv_iload hx hb (dk kX3_search_0_ok 52 rfl) (lv_at hl 6 rfl) ?_
                  refine ald (j := (ix (q2 kk))) hx hb hK hP hk2 roSet_at.2.2.1 (cell9_ix hc).1 (cell9_ix hc).2 (by decide) (dk kX3_search_0_ok 53 rfl) ?_
                  refine lv_iconst (v := nI 1) hx hb (dk kX3_search_0_ok 54 rfl) rfl ?_
                  refine lv_iadd hx hb (dk kX3_search_0_ok 55 rfl) ?_
                  exact hret _ _ _ _ _ _ _ _ rfl (by first | (have e9 := srO_hit (i := 170 - (kk + 1)) (r := d3 (ix (q2 kk)) + nI 1) (d' := d3) (q' := q3) (n' := n3) h1 h2 (hri.trans (by rw [show 72 - f = (72 - (f + 1)) + 1 by omega]; simp only [srI, (eq_true h1), (eq_false (Nat.not_le.mpr h1)), (eq_true h2), (eq_false (Nat.not_le.mpr h2)), (eq_true h3), (eq_false (Nat.not_le.mpr h3)), (eq_true h4), not_true_eq_false, not_false_eq_true, and_true, true_and, and_false, false_and, or_true, true_or, or_false, false_or, and_self, or_self, if_true, if_false, Bool.false_eq_true, reduceIte])); rw [← show 170 - kk = (170 - (kk + 1)) + 1 by omega, ← hr] at e9; rw [e9]; exact ⟨rfl, rfl⟩) | (have e9 := srO_end (m := m9) (i := 170 - (kk + 1)) (k := kk) (n := n) (d := d2) (q := q2) (by omega); rw [← show 170 - kk = (170 - (kk + 1)) + 1 by omega, ← hr] at e9; rw [e9]; exact ⟨rfl, rfl⟩)) hP hS (by decide) (by decide) (dk kX3_search_0_ok 56 rfl)
          exact L53 _ 0 n d2 q2 _ _ hP hS (by omega) (by omega) (by exact hq2) (by rfl) (Nat.lt_succ_self _) ls (lv_sub hl [2, 3, 4, 5, 6, 1, 0] rfl)
  exact L27 _ 0 1 (srD w) (upd q 0 (nI w)) _ _ hP hS (by omega) (by omega) (by intro i hi; rw [show i = 0 by omega]; exact ⟨w, hw, by simp [upd]⟩) (by rfl) (Nat.lt_succ_self _) ls (lv_sub hl [2, 3, 4, 1, 0] rfl)
end
section
set_option maxRecDepth 100000 in
set_option maxHeartbeats 4000000 in
theorem tX3_fewest (l : Launch) (D : va_G) (cI cQ cL : ClassId) (ad : Nat → Nat) (N : Nat) (F : Nat → va_E) (k : Nat) (hk : k + 3 < N) (a d q : Nat → Int32) (hO : roAt cI ad F k a d q) (x : Int32) (w : Nat) (hxw : x = nI w) (hw : w < 169) (g : Bool) : MX l yX3_fewest (Cond.code yX3_fewest cX3_fewest 4 (some .int) :: AW) ({ frames := 3, cells := 0, slots := 0, locals := 76 } : Room) D cI cQ cL ad N F [.ref (ad k), .int x, .int (bI g)] (dp (some (.int ((few a d q w g).1 (if g = true then w else 169 + w)))) (roSet cI ad F k (few a d q w g).1 (few a d q w g).2.1 (few a d q w g).2.2)) 0 0 := by
  refine mx_i (ty := .int) (by decide +kernel) rfl (Nat.le_of_ble_eq_true rfl) (fun p e s m below meth cd Q ls hx hb hml hown hts hDi hP hK hNW hS hret hl => ?_)
  have hown : s.vm.findClass RX3 = some m.cls := hown
  subst hxw
  have hk0 : k < N := by omega
  have hk1 : k + 1 < N := by omega
  have hk2 : k + 2 < N := by omega
  have hk3 : k + 3 < N := hk
  have hP : va_P D vwCl (iW ad N (roSet cI ad F k a d q)) s.heap := by rw [roSet_self hO]; exact hP
  have hl : lv_has ls 4 [(0, .ref (ad k)), (1, .int (nI w)), (2, .int (bI g))] := hl
  refine lv_iload_n hx hb (dk kX3_fewest_ok 0 rfl) rfl (lv_at hl 1 rfl) ?_
  refine n_if_lt (tgt := 11) hx hb (by omega) (dk kX3_fewest_ok 1 rfl) (by decide) ?_
  refine lv_iload_n hx hb (dk kX3_fewest_ok 2 rfl) rfl (lv_at hl 1 rfl) ?_
  refine lv_sipush (v := nI 169) hx hb (dk kX3_fewest_ok 3 rfl) rfl ?_
  refine n_icmp_lt (tgt := 13) hx hb (by omega) (by decide) (dk kX3_fewest_ok 4 rfl) (by decide) (fun h1 => ?_) (fun h1 => ?_)
  · skip
    refine lv_iload_n hx hb (dk kX3_fewest_ok 7 rfl) rfl (lv_at hl 2 rfl) ?_
    refine b_if_eq (tgt := 21) hx hb (dk kX3_fewest_ok 8 rfl) (by decide) (fun h2 => ?_) (fun h2 => ?_)
    · skip
      refine lv_sipush (v := nI 169) hx hb (dk kX3_fewest_ok 11 rfl) rfl ?_
      refine lv_iload_n hx hb (dk kX3_fewest_ok 12 rfl) rfl (lv_at hl 1 rfl) ?_
      refine n_iadd hx hb (dk kX3_fewest_ok 13 rfl) ?_
      refine lv_istore_n (lv' := [(3, .int (nI (169 + w))), (0, .ref (ad k)), (1, .int (nI w)), (2, .int (bI g))]) hx hb (dk kX3_fewest_ok 14 rfl) rfl hl (by decide) rfl (fun ls hl => ?_)
      refine lv_aload_n hx hb (dk kX3_fewest_ok 15 rfl) rfl (lv_at hl 1 rfl) ?_
      refine gf hx hb hts (fun w h => List.mem_cons_of_mem _ (acX3 w h)) hown hK hP hk0 roSet_at.1 rfl 0 (by decide) (hts _ (List.mem_cons_of_mem _ (ac5 _ (List.mem_of_getElem? (i := 11) rfl)))) (fun _ h => h) rfl (dk kX3_fewest_ok 16 rfl) ?_
      refine lv_iload_n hx hb (dk kX3_fewest_ok 17 rfl) rfl (lv_at hl 0 rfl) ?_
      refine ald (j := (169 + w)) hx hb hK hP hk1 roSet_at.2.1 rfl (by omega) (by decide) (dk kX3_fewest_ok 18 rfl) ?_
      refine lv_if_ne (tgt := 56) hx hb (dk kX3_fewest_ok 19 rfl) (by decide) (fun h3 => ?_) (fun h3 => ?_)
      · skip
        refine lv_aload_n hx hb (dk kX3_fewest_ok 32 rfl) rfl (lv_at hl 1 rfl) ?_
        refine gf hx hb hts (fun w h => List.mem_cons_of_mem _ (acX3 w h)) hown hK hP hk0 roSet_at.1 rfl 0 (by decide) (hts _ (List.mem_cons_of_mem _ (ac5 _ (List.mem_of_getElem? (i := 11) rfl)))) (fun _ h => h) rfl (dk kX3_fewest_ok 33 rfl) ?_
        refine lv_iload_n hx hb (dk kX3_fewest_ok 34 rfl) rfl (lv_at hl 0 rfl) ?_
        refine ald (j := (169 + w)) hx hb hK hP hk1 roSet_at.2.1 rfl (by omega) (by decide) (dk kX3_fewest_ok 35 rfl) ?_
        exact hret _ _ _ _ _ _ _ _ rfl (by first | (exfalso; omega) | (simp only [few, dp, (eq_true h1), (eq_false (Nat.not_le.mpr h1)), h2, (eq_false h3), not_true_eq_false, not_false_eq_true, and_true, true_and, and_false, false_and, or_true, true_or, or_false, false_or, and_self, or_self, if_true, if_false, Bool.false_eq_true, reduceIte, upd]; first | done | exact ⟨rfl, rfl⟩)) hP hS (by decide) (by decide) (dk kX3_fewest_ok 36 rfl)
      · skip
        refine lv_aload_n hx hb (dk kX3_fewest_ok 20 rfl) rfl (lv_at hl 1 rfl) ?_
        refine gf hx hb hts (fun w h => List.mem_cons_of_mem _ (acX3 w h)) hown hK hP hk0 roSet_at.1 rfl 0 (by decide) (hts _ (List.mem_cons_of_mem _ (ac5 _ (List.mem_of_getElem? (i := 11) rfl)))) (fun _ h => h) rfl (dk kX3_fewest_ok 21 rfl) ?_
        refine lv_iload_n hx hb (dk kX3_fewest_ok 22 rfl) rfl (lv_at hl 0 rfl) ?_
        refine lv_aload_n hx hb (dk kX3_fewest_ok 23 rfl) rfl (lv_at hl 1 rfl) ?_
        refine lv_iload_n hx hb (dk kX3_fewest_ok 24 rfl) rfl (lv_at hl 2 rfl) ?_
        refine lv_iload_n hx hb (dk kX3_fewest_ok 25 rfl) rfl (lv_at hl 3 rfl) ?_
        refine b_if_eq (tgt := 51) hx hb (dk kX3_fewest_ok 26 rfl) (by decide) (fun h4 => ?_) (fun h4 => ?_)
        · skip
          refine lv_iconst (v := nI 1) hx hb (dk kX3_fewest_ok 29 rfl) rfl ?_
          refine cvD (As := [.int (nI w), .int (nI 1)]) (rest := [.int (nI (169 + w)), .ref (ad (k + 1))]) (roSet cI ad F k a ((sea q w 1).2.1) ((sea q w 1).2.2)) ⟨hx, hb, hml, hown, hts⟩ (tX3_search l D cI cQ cL ad N (roSet cI ad F k a d q) k hk a d q (roSet_at) (nI w) w rfl (by omega) (nI 1) 1 rfl (by omega)) (cwV9 2 hts mcX3_search (ac6 _ (List.mem_of_getElem? (i := 5) rfl)) miX3_search meX3_search mini_RX3 rfl rfl hdX3_search ⟨Nat.le_of_ble_eq_true rfl, Nat.le_of_ble_eq_true rfl⟩) hDi hK hP hNW hS hk0 roSet_at.1 rfl rfl hl.1 rfl (Nat.le_of_ble_eq_true rfl) (by decide) (dk kX3_fewest_ok 30 rfl) roSet_roSet (fun H locs hP hS => ?_)
          refine ast (roSet cI ad F k (upd a (169 + w) ((sea q w 1).1)) ((sea q w 1).2.1) ((sea q w 1).2.2)) (j := (169 + w)) hx hb hK hDi hP hS hk1 roSet_at.2.1 rfl (by omega) (by decide) (dk kX3_fewest_ok 31 rfl) roSet_u1 (fun H locs hP hS => ?_)
          refine lv_aload_n hx hb (dk kX3_fewest_ok 32 rfl) rfl (lv_at hl 1 rfl) ?_
          refine gf hx hb hts (fun w h => List.mem_cons_of_mem _ (acX3 w h)) hown hK hP hk0 roSet_at.1 rfl 0 (by decide) (hts _ (List.mem_cons_of_mem _ (ac5 _ (List.mem_of_getElem? (i := 11) rfl)))) (fun _ h => h) rfl (dk kX3_fewest_ok 33 rfl) ?_
          refine lv_iload_n hx hb (dk kX3_fewest_ok 34 rfl) rfl (lv_at hl 0 rfl) ?_
          refine ald (j := (169 + w)) hx hb hK hP hk1 roSet_at.2.1 rfl (by omega) (by decide) (dk kX3_fewest_ok 35 rfl) ?_
          exact hret _ _ _ _ _ _ _ _ rfl (by first | (exfalso; omega) | (simp only [few, dp, (eq_true h1), (eq_false (Nat.not_le.mpr h1)), h2, (eq_true h3), h4, not_true_eq_false, not_false_eq_true, and_true, true_and, and_false, false_and, or_true, true_or, or_false, false_or, and_self, or_self, if_true, if_false, Bool.false_eq_true, reduceIte, upd]; first | done | exact ⟨rfl, rfl⟩)) hP hS (by decide) (by decide) (dk kX3_fewest_ok 36 rfl)
        · exact absurd (h2.symm.trans h4) (by decide)
    · skip
      refine lv_iload_n hx hb (dk kX3_fewest_ok 9 rfl) rfl (lv_at hl 1 rfl) ?_
      refine lv_goto (tgt := 26) hx hb (dk kX3_fewest_ok 10 rfl) (by decide) ?_
      refine lv_istore_n (lv' := [(3, .int (nI w)), (0, .ref (ad k)), (1, .int (nI w)), (2, .int (bI g))]) hx hb (dk kX3_fewest_ok 14 rfl) rfl hl (by decide) rfl (fun ls hl => ?_)
      refine lv_aload_n hx hb (dk kX3_fewest_ok 15 rfl) rfl (lv_at hl 1 rfl) ?_
      refine gf hx hb hts (fun w h => List.mem_cons_of_mem _ (acX3 w h)) hown hK hP hk0 roSet_at.1 rfl 0 (by decide) (hts _ (List.mem_cons_of_mem _ (ac5 _ (List.mem_of_getElem? (i := 11) rfl)))) (fun _ h => h) rfl (dk kX3_fewest_ok 16 rfl) ?_
      refine lv_iload_n hx hb (dk kX3_fewest_ok 17 rfl) rfl (lv_at hl 0 rfl) ?_
      refine ald (j := w) hx hb hK hP hk1 roSet_at.2.1 rfl (by omega) (by decide) (dk kX3_fewest_ok 18 rfl) ?_
      refine lv_if_ne (tgt := 56) hx hb (dk kX3_fewest_ok 19 rfl) (by decide) (fun h5 => ?_) (fun h5 => ?_)
      · skip
        refine lv_aload_n hx hb (dk kX3_fewest_ok 32 rfl) rfl (lv_at hl 1 rfl) ?_
        refine gf hx hb hts (fun w h => List.mem_cons_of_mem _ (acX3 w h)) hown hK hP hk0 roSet_at.1 rfl 0 (by decide) (hts _ (List.mem_cons_of_mem _ (ac5 _ (List.mem_of_getElem? (i := 11) rfl)))) (fun _ h => h) rfl (dk kX3_fewest_ok 33 rfl) ?_
        refine lv_iload_n hx hb (dk kX3_fewest_ok 34 rfl) rfl (lv_at hl 0 rfl) ?_
        refine ald (j := w) hx hb hK hP hk1 roSet_at.2.1 rfl (by omega) (by decide) (dk kX3_fewest_ok 35 rfl) ?_
        exact hret _ _ _ _ _ _ _ _ rfl (by first | (exfalso; omega) | (simp only [few, dp, (eq_true h1), (eq_false (Nat.not_le.mpr h1)), h2, (eq_false h5), not_true_eq_false, not_false_eq_true, and_true, true_and, and_false, false_and, or_true, true_or, or_false, false_or, and_self, or_self, if_true, if_false, Bool.false_eq_true, reduceIte, upd]; first | done | exact ⟨rfl, rfl⟩)) hP hS (by decide) (by decide) (dk kX3_fewest_ok 36 rfl)
      · skip
        refine lv_aload_n hx hb (dk kX3_fewest_ok 20 rfl) rfl (lv_at hl 1 rfl) ?_
        refine gf hx hb hts (fun w h => List.mem_cons_of_mem _ (acX3 w h)) hown hK hP hk0 roSet_at.1 rfl 0 (by decide) (hts _ (List.mem_cons_of_mem _ (ac5 _ (List.mem_of_getElem? (i := 11) rfl)))) (fun _ h => h) rfl (dk kX3_fewest_ok 21 rfl) ?_
        refine lv_iload_n hx hb (dk kX3_fewest_ok 22 rfl) rfl (lv_at hl 0 rfl) ?_
        refine lv_aload_n hx hb (dk kX3_fewest_ok 23 rfl) rfl (lv_at hl 1 rfl) ?_
        refine lv_iload_n hx hb (dk kX3_fewest_ok 24 rfl) rfl (lv_at hl 2 rfl) ?_
        refine lv_iload_n hx hb (dk kX3_fewest_ok 25 rfl) rfl (lv_at hl 3 rfl) ?_
        refine b_if_eq (tgt := 51) hx hb (dk kX3_fewest_ok 26 rfl) (by decide) (fun h6 => ?_) (fun h6 => ?_)
        · exact absurd (h2.symm.trans h6) (by decide)
        · skip
          refine lv_iconst (v := nI 0) hx hb (dk kX3_fewest_ok 27 rfl) rfl ?_
          refine lv_goto (tgt := 52) hx hb (dk kX3_fewest_ok 28 rfl) (by decide) ?_
          refine cvD (As := [.int (nI w), .int (nI 0)]) (rest := [.int (nI w), .ref (ad (k + 1))]) (roSet cI ad F k a ((sea q w 0).2.1) ((sea q w 0).2.2)) ⟨hx, hb, hml, hown, hts⟩ (tX3_search l D cI cQ cL ad N (roSet cI ad F k a d q) k hk a d q (roSet_at) (nI w) w rfl (by omega) (nI 0) 0 rfl (by omega)) (cwV9 2 hts mcX3_search (ac6 _ (List.mem_of_getElem? (i := 5) rfl)) miX3_search meX3_search mini_RX3 rfl rfl hdX3_search ⟨Nat.le_of_ble_eq_true rfl, Nat.le_of_ble_eq_true rfl⟩) hDi hK hP hNW hS hk0 roSet_at.1 rfl rfl hl.1 rfl (Nat.le_of_ble_eq_true rfl) (by decide) (dk kX3_fewest_ok 30 rfl) roSet_roSet (fun H locs hP hS => ?_)
          refine ast (roSet cI ad F k (upd a w ((sea q w 0).1)) ((sea q w 0).2.1) ((sea q w 0).2.2)) (j := w) hx hb hK hDi hP hS hk1 roSet_at.2.1 rfl (by omega) (by decide) (dk kX3_fewest_ok 31 rfl) roSet_u1 (fun H locs hP hS => ?_)
          refine lv_aload_n hx hb (dk kX3_fewest_ok 32 rfl) rfl (lv_at hl 1 rfl) ?_
          refine gf hx hb hts (fun w h => List.mem_cons_of_mem _ (acX3 w h)) hown hK hP hk0 roSet_at.1 rfl 0 (by decide) (hts _ (List.mem_cons_of_mem _ (ac5 _ (List.mem_of_getElem? (i := 11) rfl)))) (fun _ h => h) rfl (dk kX3_fewest_ok 33 rfl) ?_
          refine lv_iload_n hx hb (dk kX3_fewest_ok 34 rfl) rfl (lv_at hl 0 rfl) ?_
          refine ald (j := w) hx hb hK hP hk1 roSet_at.2.1 rfl (by omega) (by decide) (dk kX3_fewest_ok 35 rfl) ?_
          exact hret _ _ _ _ _ _ _ _ rfl (by first | (exfalso; omega) | (simp only [few, dp, (eq_true h1), (eq_false (Nat.not_le.mpr h1)), h2, (eq_true h5), h6, not_true_eq_false, not_false_eq_true, and_true, true_and, and_false, false_and, or_true, true_or, or_false, false_or, and_self, or_self, if_true, if_false, Bool.false_eq_true, reduceIte, upd]; first | done | exact ⟨rfl, rfl⟩)) hP hS (by decide) (by decide) (dk kX3_fewest_ok 36 rfl)
  · skip
    refine lv_iconst (v := -1) hx hb (dk kX3_fewest_ok 5 rfl) rfl ?_
    exact hret _ _ _ _ _ _ _ _ rfl (by first | (exfalso; omega) | (simp only [few, dp, (eq_true h1), (eq_false (Nat.not_lt.mpr h1)), not_true_eq_false, not_false_eq_true, and_true, true_and, and_false, false_and, or_true, true_or, or_false, false_or, and_self, or_self, if_true, if_false, Bool.false_eq_true, reduceIte, upd]; first | done | exact ⟨rfl, rfl⟩)) hP hS (by decide) (by decide) (dk kX3_fewest_ok 6 rfl)
set_option maxRecDepth 100000 in
set_option maxHeartbeats 4000000 in
theorem tX2_save (l : Launch) (D : va_G) (cI cQ cL : ClassId) (ad : Nat → Nat) (N : Nat) (F : Nat → va_E) (k : Nat) (n m9 : Nat) (hn : n < 6) (hm9 : m9 ≤ 6) (hk : k + 1 < N) (hPa : paAt cQ ad F k n m9) (c b v g h j : Nat → Int32) (t : Nat) (u z : Int32) (hS0 : stAt cI ad F (k + 2 + 8 * n) c b v g h j (nI t) u z) (hks7 : k + 2 + 8 * n + 7 < N) (k2 : Nat) (hq : k2 + 7 < N) (c2 b2 v2 g2 h2 j2 : Nat → Int32) (t2 : Nat) (u2 z2 : Int32) (hS2 : stAt cI ad F k2 c2 b2 v2 g2 h2 j2 (nI t2) u2 z2) (hd : k2 + 7 < k ∨ k + 2 + 8 * 5 + 7 < k2) : MX l yX2_save (Cond.code yX2_save cX2_save 2 none :: AW) ({ frames := 3, cells := 0, slots := 0, locals := 60 } : Room) D cI cQ cL ad N F [.ref (ad k), .ref (ad k2)] (dp none (paSet cQ ad (sSet cI ad F (k + 2 + 8 * n) c2 b2 v2 g2 h2 j2 (nI t2) u2 z2) k ((n + 1) % 6) (min (m9 + 1) 6))) 0 0 := by
  refine mx_v (by decide +kernel) rfl (Nat.le_of_ble_eq_true rfl) (fun p e s m below meth cd Q ls hx hb hml hown hts hDi hP hK hNW hS hret hl => ?_)
  have hown : s.vm.findClass RX2 = some m.cls := hown
  have hk0 : k < N := by omega
  have hk1 : k + 1 < N := hk
  have hks : k + 2 + 8 * n < N := by omega
  have hq0 : k2 < N := by omega
  have hl : lv_has ls 2 [(0, .ref (ad k)), (1, .ref (ad k2))] := hl
  refine lv_aload_n hx hb (dk kX2_save_ok 0 rfl) rfl (lv_at hl 0 rfl) ?_
  refine gf hx hb hts (fun w h => List.mem_cons_of_mem _ (acX2 w h)) hown hK hP hk0 hPa.1 rfl 0 (by decide) (hts _ (List.mem_cons_of_mem _ (ac4 _ (List.mem_of_getElem? (i := 15) rfl)))) (fun _ h => h) rfl (dk kX2_save_ok 1 rfl) ?_
  refine lv_aload_n hx hb (dk kX2_save_ok 2 rfl) rfl (lv_at hl 0 rfl) ?_
  refine gf hx hb hts (fun w h => List.mem_cons_of_mem _ (acX2 w h)) hown hK hP hk0 hPa.1 rfl 1 (by decide) (hts _ (List.mem_cons_of_mem _ (ac4 _ (List.mem_of_getElem? (i := 16) rfl)))) (fun _ h => h) rfl (dk kX2_save_ok 3 rfl) ?_
  refine aldq hx hb hK hP hk1 hPa.2 (by omega) (by decide) rfl (dk kX2_save_ok 4 rfl) ?_
  refine lv_ifnull hx hb (dk kX2_save_ok 5 rfl) ?_
  refine lv_aload_n hx hb (dk kX2_save_ok 6 rfl) rfl (lv_at hl 0 rfl) ?_
  refine gf hx hb hts (fun w h => List.mem_cons_of_mem _ (acX2 w h)) hown hK hP hk0 hPa.1 rfl 0 (by decide) (hts _ (List.mem_cons_of_mem _ (ac4 _ (List.mem_of_getElem? (i := 15) rfl)))) (fun _ h => h) rfl (dk kX2_save_ok 7 rfl) ?_
  refine lv_aload_n hx hb (dk kX2_save_ok 8 rfl) rfl (lv_at hl 0 rfl) ?_
  refine gf hx hb hts (fun w h => List.mem_cons_of_mem _ (acX2 w h)) hown hK hP hk0 hPa.1 rfl 1 (by decide) (hts _ (List.mem_cons_of_mem _ (ac4 _ (List.mem_of_getElem? (i := 16) rfl)))) (fun _ h => h) rfl (dk kX2_save_ok 9 rfl) ?_
  refine aldq hx hb hK hP hk1 hPa.2 (by omega) (by decide) rfl (dk kX2_save_ok 10 rfl) ?_
  refine lv_aload_n hx hb (dk kX2_save_ok 11 rfl) rfl (lv_at hl 1 rfl) ?_
  refine cvDv (As := [.ref (ad k2)]) (rest := []) (paSet cQ ad (sSet cI ad F (k + 2 + 8 * n) c2 b2 v2 g2 h2 j2 (nI t2) u2 z2) k n m9) ⟨hx, hb, hml, hown, hts⟩ (tX4_copyFrom l D cI cQ cL ad N F (k + 2 + 8 * n) (by omega) c b v g h j t u z hS0 k2 hq c2 b2 v2 g2 h2 j2 t2 u2 z2 hS2 (by omega)) (cwV9 1 hts mcX4_copyFrom (ac5 _ (List.mem_of_getElem? (i := 6) rfl)) miX4_copyFrom meX4_copyFrom mini_RX4 rfl rfl hdX4_copyFrom ⟨Nat.le_of_ble_eq_true rfl, Nat.le_of_ble_eq_true rfl⟩) hDi hK hP hNW hS hks hS0.1 rfl rfl hl.1 rfl (Nat.le_of_ble_eq_true rfl) (by decide) (dk kX2_save_ok 12 rfl) (paSet_self (paAt_keep hPa (fun i _ _ => sSet_out (by omega)))).symm (fun H locs hP hS => ?_)
  refine lv_aload_n hx hb (dk kX2_save_ok 13 rfl) rfl (lv_at hl 0 rfl) ?_
  refine lv_aload_n hx hb (dk kX2_save_ok 14 rfl) rfl (lv_at hl 0 rfl) ?_
  refine gf hx hb hts (fun w h => List.mem_cons_of_mem _ (acX2 w h)) hown hK hP hk0 paSet_at.1 rfl 1 (by decide) (hts _ (List.mem_cons_of_mem _ (ac4 _ (List.mem_of_getElem? (i := 16) rfl)))) (fun _ h => h) rfl (dk kX2_save_ok 15 rfl) ?_
  refine lv_iconst (v := nI 1) hx hb (dk kX2_save_ok 16 rfl) rfl ?_
  refine n_iadd hx hb (dk kX2_save_ok 17 rfl) ?_
  refine lv_bipush (v := nI 6) hx hb (dk kX2_save_ok 18 rfl) rfl ?_
  refine n_irem hx hb (by omega) (by decide) (by decide) (dk kX2_save_ok 19 rfl) ?_
  refine pf (paSet cQ ad (sSet cI ad F (k + 2 + 8 * n) c2 b2 v2 g2 h2 j2 (nI t2) u2 z2) k ((n + 1) % 6) m9) hx hb hts (fun w h => List.mem_cons_of_mem _ (acX2 w h)) tyX2 tyX2_ok nmX2 hown hK hDi hP hS hk0 paSet_at.1 rfl 1 (by decide) (hts _ (List.mem_cons_of_mem _ (ac4 _ (List.mem_of_getElem? (i := 16) rfl)))) (fun _ h => h) rfl (ty := .int) rfl rfl rfl (Nat.le_of_ble_eq_true rfl) (dk kX2_save_ok 20 rfl) paSet_u0 (fun H locs hP hS => ?_)
  refine lv_aload_n hx hb (dk kX2_save_ok 21 rfl) rfl (lv_at hl 0 rfl) ?_
  refine lv_aload_n hx hb (dk kX2_save_ok 22 rfl) rfl (lv_at hl 0 rfl) ?_
  refine gf hx hb hts (fun w h => List.mem_cons_of_mem _ (acX2 w h)) hown hK hP hk0 paSet_at.1 rfl 2 (by decide) (hts _ (List.mem_cons_of_mem _ (ac4 _ (List.mem_of_getElem? (i := 17) rfl)))) (fun _ h => h) rfl (dk kX2_save_ok 23 rfl) ?_
  refine lv_iconst (v := nI 1) hx hb (dk kX2_save_ok 24 rfl) rfl ?_
  refine n_iadd hx hb (dk kX2_save_ok 25 rfl) ?_
  refine lv_bipush (v := nI 6) hx hb (dk kX2_save_ok 26 rfl) rfl ?_
  refine n_mmin (by omega) (by decide) hx hb (by rw [hml, hl.1]) hown (hts _ (List.mem_cons_of_mem _ (ac5 _ (List.mem_of_getElem? (i := 3) rfl)))) (hts _ (List.mem_cons_of_mem _ (ac5 _ (List.mem_of_getElem? (i := 4) rfl)))) (hts _ (List.mem_cons_of_mem _ (ac2 _ (List.mem_of_getElem? (i := 10) rfl)))) (hts _ (List.mem_cons_of_mem _ (ac5 _ (List.mem_of_getElem? (i := 5) rfl)))) (Nat.le_of_ble_eq_true rfl) (Nat.le_of_ble_eq_true rfl) (Nat.le_of_ble_eq_true rfl) (Nat.le_of_ble_eq_true rfl) (dk kX2_save_ok 27 rfl) ?_
  refine pf (paSet cQ ad (sSet cI ad F (k + 2 + 8 * n) c2 b2 v2 g2 h2 j2 (nI t2) u2 z2) k ((n + 1) % 6) (min (m9 + 1) 6)) hx hb hts (fun w h => List.mem_cons_of_mem _ (acX2 w h)) tyX2 tyX2_ok nmX2 hown hK hDi hP hS hk0 paSet_at.1 rfl 2 (by decide) (hts _ (List.mem_cons_of_mem _ (ac4 _ (List.mem_of_getElem? (i := 17) rfl)))) (fun _ h => h) rfl (ty := .int) rfl rfl rfl (Nat.le_of_ble_eq_true rfl) (dk kX2_save_ok 28 rfl) paSet_u0 (fun H locs hP hS => ?_)
  exact hret _ _ _ _ _ _ _ (by exact ⟨rfl, rfl⟩) hP hS (by decide) (by decide) (dk kX2_save_ok 29 rfl)
set_option maxRecDepth 100000 in
set_option maxHeartbeats 4000000 in
theorem tX2_restore (l : Launch) (D : va_G) (cI cQ cL : ClassId) (ad : Nat → Nat) (N : Nat) (F : Nat → va_E) (k : Nat) (n m9 : Nat) (hn : n < 6) (hm9 : m9 ≤ 6) (hm0 : 1 ≤ m9) (hk : k + 1 < N) (hPa : paAt cQ ad F k n m9) (c b v g h j : Nat → Int32) (t : Nat) (u z : Int32) (hS0 : stAt cI ad F (k + 2 + 8 * ((n + 6 - 1) % 6)) c b v g h j (nI t) u z) (hks7 : k + 2 + 8 * ((n + 6 - 1) % 6) + 7 < N) (k2 : Nat) (hq : k2 + 7 < N) (c2 b2 v2 g2 h2 j2 : Nat → Int32) (t2 : Nat) (u2 z2 : Int32) (hS2 : stAt cI ad F k2 c2 b2 v2 g2 h2 j2 (nI t2) u2 z2) (hd : k2 + 7 < k ∨ k + 2 + 8 * 5 + 7 < k2) : MX l yX2_restore (Cond.code yX2_restore cX2_restore 2 none :: AW) ({ frames := 3, cells := 0, slots := 0, locals := 60 } : Room) D cI cQ cL ad N F [.ref (ad k), .ref (ad k2)] (dp none (sSet cI ad (paSet cQ ad F k ((n + 6 - 1) % 6) (m9 - 1)) k2 c b v g h j (nI t) u z)) 0 0 := by
  refine mx_v (by decide +kernel) rfl (Nat.le_of_ble_eq_true rfl) (fun p e s m below meth cd Q ls hx hb hml hown hts hDi hP hK hNW hS hret hl => ?_)
  have hown : s.vm.findClass RX2 = some m.cls := hown
  have hk0 : k < N := by omega
  have hk1 : k + 1 < N := hk
  have hq0 : k2 < N := by omega
  have hP : va_P D vwCl (iW ad N (paSet cQ ad F k n m9)) s.heap := by rw [paSet_self hPa]; exact hP
  have hl : lv_has ls 2 [(0, .ref (ad k)), (1, .ref (ad k2))] := hl
  refine lv_aload_n hx hb (dk kX2_restore_ok 0 rfl) rfl (lv_at hl 0 rfl) ?_
  refine lv_aload_n hx hb (dk kX2_restore_ok 1 rfl) rfl (lv_at hl 0 rfl) ?_
  refine gf hx hb hts (fun w h => List.mem_cons_of_mem _ (acX2 w h)) hown hK hP hk0 paSet_at.1 rfl 1 (by decide) (hts _ (List.mem_cons_of_mem _ (ac4 _ (List.mem_of_getElem? (i := 16) rfl)))) (fun _ h => h) rfl (dk kX2_restore_ok 2 rfl) ?_
  refine lv_bipush (v := nI 6) hx hb (dk kX2_restore_ok 3 rfl) rfl ?_
  refine n_iadd hx hb (dk kX2_restore_ok 4 rfl) ?_
  refine lv_iconst (v := nI 1) hx hb (dk kX2_restore_ok 5 rfl) rfl ?_
  refine n_isub hx hb (by omega) (dk kX2_restore_ok 6 rfl) ?_
  refine lv_bipush (v := nI 6) hx hb (dk kX2_restore_ok 7 rfl) rfl ?_
  refine n_irem hx hb (by omega) (by decide) (by decide) (dk kX2_restore_ok 8 rfl) ?_
  refine pf (paSet cQ ad F k (((n + 6) - 1) % 6) m9) hx hb hts (fun w h => List.mem_cons_of_mem _ (acX2 w h)) tyX2 tyX2_ok nmX2 hown hK hDi hP hS hk0 paSet_at.1 rfl 1 (by decide) (hts _ (List.mem_cons_of_mem _ (ac4 _ (List.mem_of_getElem? (i := 16) rfl)))) (fun _ h => h) rfl (ty := .int) rfl rfl rfl (Nat.le_of_ble_eq_true rfl) (dk kX2_restore_ok 9 rfl) paSet_u0 (fun H locs hP hS => ?_)
  refine lv_aload_n hx hb (dk kX2_restore_ok 10 rfl) rfl (lv_at hl 0 rfl) ?_
  refine lv_dup hx hb (dk kX2_restore_ok 11 rfl) rfl ?_
  refine gf hx hb hts (fun w h => List.mem_cons_of_mem _ (acX2 w h)) hown hK hP hk0 paSet_at.1 rfl 2 (by decide) (hts _ (List.mem_cons_of_mem _ (ac4 _ (List.mem_of_getElem? (i := 17) rfl)))) (fun _ h => h) rfl (dk kX2_restore_ok 12 rfl) ?_
  refine lv_iconst (v := nI 1) hx hb (dk kX2_restore_ok 13 rfl) rfl ?_
  refine n_isub hx hb (by omega) (dk kX2_restore_ok 14 rfl) ?_
  refine pf (paSet cQ ad F k (((n + 6) - 1) % 6) (m9 - 1)) hx hb hts (fun w h => List.mem_cons_of_mem _ (acX2 w h)) tyX2 tyX2_ok nmX2 hown hK hDi hP hS hk0 paSet_at.1 rfl 2 (by decide) (hts _ (List.mem_cons_of_mem _ (ac4 _ (List.mem_of_getElem? (i := 17) rfl)))) (fun _ h => h) rfl (ty := .int) rfl rfl rfl (Nat.le_of_ble_eq_true rfl) (dk kX2_restore_ok 15 rfl) paSet_u0 (fun H locs hP hS => ?_)
  refine lv_aload_n hx hb (dk kX2_restore_ok 16 rfl) rfl (lv_at hl 0 rfl) ?_
  refine gf hx hb hts (fun w h => List.mem_cons_of_mem _ (acX2 w h)) hown hK hP hk0 paSet_at.1 rfl 0 (by decide) (hts _ (List.mem_cons_of_mem _ (ac4 _ (List.mem_of_getElem? (i := 15) rfl)))) (fun _ h => h) rfl (dk kX2_restore_ok 17 rfl) ?_
  refine lv_aload_n hx hb (dk kX2_restore_ok 18 rfl) rfl (lv_at hl 0 rfl) ?_
  refine gf hx hb hts (fun w h => List.mem_cons_of_mem _ (acX2 w h)) hown hK hP hk0 paSet_at.1 rfl 1 (by decide) (hts _ (List.mem_cons_of_mem _ (ac4 _ (List.mem_of_getElem? (i := 16) rfl)))) (fun _ h => h) rfl (dk kX2_restore_ok 19 rfl) ?_
  refine aldq hx hb hK hP hk1 paSet_at.2 (by omega) (by decide) rfl (dk kX2_restore_ok 20 rfl) ?_
  refine lv_ifnull hx hb (dk kX2_restore_ok 21 rfl) ?_
  refine lv_aload_n hx hb (dk kX2_restore_ok 22 rfl) rfl (lv_at hl 1 rfl) ?_
  refine lv_aload_n hx hb (dk kX2_restore_ok 23 rfl) rfl (lv_at hl 0 rfl) ?_
  refine gf hx hb hts (fun w h => List.mem_cons_of_mem _ (acX2 w h)) hown hK hP hk0 paSet_at.1 rfl 0 (by decide) (hts _ (List.mem_cons_of_mem _ (ac4 _ (List.mem_of_getElem? (i := 15) rfl)))) (fun _ h => h) rfl (dk kX2_restore_ok 24 rfl) ?_
  refine lv_aload_n hx hb (dk kX2_restore_ok 25 rfl) rfl (lv_at hl 0 rfl) ?_
  refine gf hx hb hts (fun w h => List.mem_cons_of_mem _ (acX2 w h)) hown hK hP hk0 paSet_at.1 rfl 1 (by decide) (hts _ (List.mem_cons_of_mem _ (ac4 _ (List.mem_of_getElem? (i := 16) rfl)))) (fun _ h => h) rfl (dk kX2_restore_ok 26 rfl) ?_
  refine aldq hx hb hK hP hk1 paSet_at.2 (by omega) (by decide) rfl (dk kX2_restore_ok 27 rfl) ?_
  refine cvDv (As := [.ref (ad (k + 2 + 8 * ((n + 6 - 1) % 6)))]) (rest := []) (sSet cI ad (paSet cQ ad F k (((n + 6) - 1) % 6) (m9 - 1)) k2 c b v g h j (nI t) u z) ⟨hx, hb, hml, hown, hts⟩ (tX4_copyFrom l D cI cQ cL ad N (paSet cQ ad F k (((n + 6) - 1) % 6) (m9 - 1)) k2 hq c2 b2 v2 g2 h2 j2 t2 u2 z2 (stAt_keep hS2 (fun i _ _ => paSet_out (by omega))) (k + 2 + 8 * ((n + 6 - 1) % 6)) (by omega) c b v g h j t u z (stAt_keep hS0 (fun i _ _ => paSet_out (by omega))) (by omega)) (cwV9 1 hts mcX4_copyFrom (ac5 _ (List.mem_of_getElem? (i := 6) rfl)) miX4_copyFrom meX4_copyFrom mini_RX4 rfl rfl hdX4_copyFrom ⟨Nat.le_of_ble_eq_true rfl, Nat.le_of_ble_eq_true rfl⟩) hDi hK hP hNW hS hq0 (stAt_keep hS2 (fun i _ _ => paSet_out (by omega))).1 rfl rfl hl.1 rfl (Nat.le_of_ble_eq_true rfl) (by decide) (dk kX2_restore_ok 28 rfl) rfl (fun H locs hP hS => ?_)
  exact hret _ _ _ _ _ _ _ (by exact ⟨rfl, rfl⟩) hP hS (by decide) (by decide) (dk kX2_restore_ok 29 rfl)
end
section
abbrev eS : String := "java/lang/IllegalStateException"
abbrev eA : String := "java/lang/IllegalArgumentException"
abbrev eI : String := "java/lang/IndexOutOfBoundsException"
abbrev eN : List String := ["java/lang/RuntimeException", "java/lang/Exception"]
def thrW : List (Nat × Nat × String) := [(63, 67, eS), (104, 108, eA), (196, 200, eI)]
def strW : List (Nat × String) := [(65, "the wink can not fly"), (88, "the pile can not be lifted"), (106, "the setting is 1 to 6"), (121, "the wink can not be put"), (126, "a character code is 33 to 126"), (131, "the buffer is full"), (143, "the buffer is not a complete game"), (154, "there is no snapshot"), (159, "there is no saved state"), (180, "what is 0 to 6"), (191, "what is 0 to 3"), (198, "a colour is 0 to 3"), (246, "what is 0 to 13"), (260, "what is 0 or 1"), (355, "a wink is 0 to 15"), (361, "x and y are 0 to 12"), (366, "a force is 1 to 9"), (368, "1 to 6 winks are lifted"), (370, "a direction is 0 to 7")]
def xbD : List MethodName := [Bundle.initS "java/lang/RuntimeException", Bundle.initS "java/lang/Exception", Bundle.initS Bundle.tN]
def xbC : List String := [eS, eA, eI]
/-- what a throw needs beyond the words -/
def XW (ad : Nat → Nat) (N sz : Nat) (U : State) : Prop := (∀ y ∈ xbD, va_Nw (.declares y) U) ∧ (∀ c ∈ xbC, va_Nw (.castable c c) U) ∧ (∀ q ∈ strW, ∃ a, vk_R RX5 q.1 q.2 a U) ∧ vx_Zq Bundle.tN "UNASSIGNED_STACK" Bundle.steD (iA ad N sz) U U.heap ∧ vx_Zq Bundle.tN "SUPPRESSED_SENTINEL" Bundle.listD (iA ad N sz) U U.heap
theorem XW.same {ad : Nat → Nat} {N sz : Nat} {u U : State} (e : u.vm = U.vm) (eh : u.heap = U.heap) (h : XW ad N sz u) : XW ad N sz U := by
  obtain ⟨h1, h2, h3, h4, h5⟩ := h
  refine ⟨fun y hy => va_Nw.same rfl e (h1 y hy), fun c hc => va_Nw.same rfl e (h2 c hc), fun q hq => ?_, ?_, ?_⟩
  · obtain ⟨a, ha⟩ := h3 q hq
    exact ⟨a, vk_R.same e.symm ha⟩
  · rw [← eh]
    exact vx_Zq.moved (by rw [e]; exact Vm.Alike.refl U.vm) h4
  · rw [← eh]
    exact vx_Zq.moved (by rw [e]; exact Vm.Alike.refl U.vm) h5
theorem XW.go {ad : Nat → Nat} {N : Nat} {s U : State} {H : Heap} {locs : List Loc} (hS : va_S (iA ad N s.heap.size) s.heap H locs) (hU : U.heap = H) (hW : s.WarmedH U.vm) (h : XW ad N s.heap.size s) : XW ad N H.size U := by
  obtain ⟨h1, h2, h3, h4, h5⟩ := h
  refine ⟨fun y hy => va_Nw.warmD hW (h1 y hy), fun c hc => va_Nw.warmC hW (h2 c hc), fun q hq => ?_, ?_, ?_⟩
  · obtain ⟨a, ha⟩ := h3 q hq
    exact ⟨a, vk_R.warm hW ha⟩
  · rw [hU]
    exact (vx_Zq.moved hW.alike (h4.kept hS.2.1)).narrow (iA_up hS)
  · rw [hU]
    exact (vx_Zq.moved hW.alike (h5.kept hS.2.1)).narrow (iA_up hS)
/-- a method that throws E, and changes nothing -/
def MT (l : Launch) (y : MethodName) (ws : List Cond) (rm : Room) (D : va_G) (cI cQ cL : ClassId) (ad : Nat → Nat) (N : Nat) (F : Nat → va_E) (args : List Value) (E : String) (mc ms : Nat) : Prop :=
  ∀ sz : Nat, vx_Met l y ws rm (va_Pc args (fun U => U.heap.size = sz ∧ iD ad N ∧ rW D cI cQ cL ad N F U ∧ XW ad N sz U)) (fun _ _ _ _ => False) (fun E' st t => E' = E ∧ va_P D vwCl (iW ad N F) t.heap ∧ va_F (iA ad N sz) st t) mc ms (iA ad N sz)
theorem MT_blind {D : va_G} {cI cQ cL : ClassId} {ad : Nat → Nat} {N : Nat} {F : Nat → va_E} {args : List Value} {sz : Nat} : FrameBlind (va_Pc args (fun U => U.heap.size = sz ∧ iD ad N ∧ rW D cI cQ cL ad N F U ∧ XW ad N sz U)) :=
  fun a U g mk q => ⟨q.1, q.2.1, q.2.2.1, ⟨q.2.2.2.1.1, va_K.moved (u := U) (U := U.calling g mk a) (Vm.Alike.refl U.vm) q.2.2.2.1.2.1, NW.same rfl q.2.2.2.1.2.2⟩, XW.same rfl rfl q.2.2.2.2⟩
theorem thr_hat {args : Array Value} {s : State} {x : Cond} {ad : Nat → Nat} {N sz : Nat} {ik ic : Nat} {cls : String} (hin : (ik, ic, cls) ∈ thrW) (hts : ∀ w ∈ x :: AW, w.before args s = true) (hX : XW ad N sz s) : (Cond.classLink RX5 ik cls).before args s = true ∧ (Cond.initialized cls).before args s = true ∧ (∀ w ∈ vx_atS RX5 ic cls eN, w.before args s = true) ∧ (∀ w ∈ Cond.classLink RX5 ik cls :: Cond.initialized cls :: vx_atS RX5 ic cls eN, vx_ot w = true) ∧ Bundle.fit cls = true := by
  have hB : ∀ w ∈ (xbD.map Cond.declares ++ xbC.map (fun c => Cond.castable c c)), w.before args s = true := by
    intro w hw
    rcases List.mem_append.mp hw with h | h
    · obtain ⟨y, hy, rfl⟩ := List.mem_map.mp h
      exact va_Nw.use rfl (hX.1 y hy)
    · obtain ⟨c, hc, rfl⟩ := List.mem_map.mp h
      exact va_Nw.use rfl (hX.2.1 c hc)
  have hin2 : (ik, ic, cls) = (63, 67, eS) ∨ (ik, ic, cls) = (104, 108, eA) ∨ (ik, ic, cls) = (196, 200, eI) := by
    simpa [thrW] using hin
  rcases hin2 with h | h | h
  · cases h
    refine ⟨(hts _ (List.mem_cons_of_mem _ (ac9 _ (List.mem_of_getElem? (i := 4) rfl)))), (hts _ (List.mem_cons_of_mem _ (ac9 _ (List.mem_of_getElem? (i := 5) rfl)))), vx_hat (B := xbD.map Cond.declares ++ xbC.map (fun c => Cond.castable c c)) (fun w hw => hts _ (List.mem_cons_of_mem _ (acV0 w hw))) (by decide +kernel) hB, by decide +kernel, by decide +kernel⟩
  · cases h
    refine ⟨(hts _ (List.mem_cons_of_mem _ (ac8 _ (List.mem_of_getElem? (i := 23) rfl)))), (hts _ (List.mem_cons_of_mem _ (ac9 _ (List.mem_of_getElem? (i := 0) rfl)))), vx_hat (B := xbD.map Cond.declares ++ xbC.map (fun c => Cond.castable c c)) (fun w hw => hts _ (List.mem_cons_of_mem _ (acV2 w hw))) (by decide +kernel) hB, by decide +kernel, by decide +kernel⟩
  · cases h
    refine ⟨(hts _ (List.mem_cons_of_mem _ (ac8 _ (List.mem_of_getElem? (i := 20) rfl)))), (hts _ (List.mem_cons_of_mem _ (ac8 _ (List.mem_of_getElem? (i := 21) rfl)))), vx_hat (B := xbD.map Cond.declares ++ xbC.map (fun c => Cond.castable c c)) (fun w hw => hts _ (List.mem_cons_of_mem _ (acV1 w hw))) (by decide +kernel) hB, by decide +kernel, by decide +kernel⟩
section MTS
variable {l : Launch} {y : MethodName} {rm : Room} {cc : ByteArray} {maxL : Nat} {D : va_G} {cI cQ cL : ClassId} {ad : Nat → Nat} {N : Nat} {F : Nat → va_E} {args : List Value} {E : String} {mc ms : Nat}
theorem mt_of {ret : Option FieldType} (hst : l.stackTraces = false) (hy : plainName y.cls = true) (hy5 : y.cls = RX5) (hlen : (lg_sl args).length ≤ maxL)
    (body : ∀ (p : Program) (e : Env) (s : State) (m : MethodId) (below : List Frame) (meth : Method) (c : Code) (Q : State → Prop) (ls : Array Slot),
      p.tables.exec = Jvm.exec → c.code = cc → c.maxLocals = maxL → s.vm.findClass y.cls = some m.cls → (∀ w ∈ Cond.code y cc maxL ret :: AW, w.before args.toArray s = true) → iD ad N → va_P D vwCl (iW ad N F) s.heap → va_K D vwCl (iT cI cQ cL) s → NW s → va_S (iA ad N s.heap.size) s.heap s.heap [] → XW ad N s.heap.size s →
      (∀ (ik ic is pc : Nat) (text : String) (ls : Array Slot) (rest : List Value) (H : Heap) (locs : List Loc) (k n : Nat), (ik, ic, E) ∈ thrW → (is, text) ∈ strW → va_P D vwCl (iW ad N F) H → va_S (iA ad N s.heap.size) s.heap H locs → ls.size = maxL →
        decode cc pc = .ok (.new ik, 3) → decode cc (pc + 3) = .ok (.dup, 1) → decode cc (pc + 4) = .ok (.ldc is, 2) → decode cc (pc + 6) = .ok (.invokespecial ic, 3) → decode cc (pc + 9) = .ok (.athrow, 1) → 5 < rm.frames → (rest.map fun v => v.category).sum + 82 ≤ rm.locals → k + 1 ≤ rm.cells → n + 6 ≤ rm.slots → k + 1 ≤ mc → n + 6 ≤ ms → W p l e rm s m args.toArray below meth c H locs k n Q (F0 m pc ls rest)) →
      (∀ (ik ic is pc : Nat) (text : String) (ls : Array Slot) (rest : List Value) (H : Heap) (locs : List Loc) (k n : Nat), (ik, ic, E) ∈ thrW → (is, text) ∈ strW → va_P D vwCl (iW ad N F) H → va_S (iA ad N s.heap.size) s.heap H locs → ls.size = maxL →
        decode cc pc = .ok (.new ik, 3) → decode cc (pc + 3) = .ok (.dup, 1) → decode cc (pc + 4) = .ok (.ldc_w is, 3) → decode cc (pc + 7) = .ok (.invokespecial ic, 3) → decode cc (pc + 10) = .ok (.athrow, 1) → 5 < rm.frames → (rest.map fun v => v.category).sum + 82 ≤ rm.locals → k + 1 ≤ rm.cells → n + 6 ≤ rm.slots → k + 1 ≤ mc → n + 6 ≤ ms → W p l e rm s m args.toArray below meth c H locs k n Q (F0 m pc ls rest)) →
      (∀ (pc : Nat) (ls : Array Slot) (rest : List Value) (H : Heap) (locs : List Loc) (q : Addr) (ce : Cell) (k n : Nat), va_P D vwCl (iW ad N F) H → va_S (iA ad N s.heap.size) s.heap H locs → H[q]? = some ce → ce.vm = .none → s.vm.findClass E = some ce.cls → k ≤ mc → n ≤ ms → vx_W p l e rm s m args.toArray below meth c H locs k n Q (F0 m pc ls rest) q) →
      lv_has ls maxL (lv_args 0 args) → W p l e rm s m args.toArray below meth c s.heap [] 0 0 Q (F0 m 0 ls [])) : MT l y (Cond.code y cc maxL ret :: AW) rm D cI cQ cL ad N F args E mc ms := by
  intro sz
  refine vx_ofW (cc := cc) (maxL := maxL) (ret := ret) hy rfl ?_
  intro p e s m args9 below meth c s₁ B hml htab hv
  obtain ⟨rfl, hsz, hDi, ⟨hP, hK, hNW⟩, hX⟩ := hv
  subst hsz
  have hl := lv_entry args (n := maxL) hlen
  have hown : s.vm.findClass RX5 = some m.cls := by rw [← hy5]; exact findClass_of_methodNamed B.named
  rw [lg_entry_eq]
  refine body p e s m below meth c _ _ B.exec B.bytes hml (findClass_of_methodNamed B.named) (atoms_spec B.pre) hDi hP hK hNW va_S.rf hX ?_ ?_ ?_ hl
  · intro ik ic is pc text ls rest H locs k n h1 h2 hP1 hS hsz d0 d3 d4 d6 d9 hfr hlo hc0 hs0 hc hs
    obtain ⟨q1, q2, q3, q4, q5⟩ := thr_hat h1 (atoms_spec B.pre) hX
    obtain ⟨sa, hsa⟩ := hX.2.2.1 _ h2
    exact vx_throwS (names := eN) B.exec B.bytes hst hown q5 (by decide +kernel) q1 q2 hsa q3 q4 hX.2.2.2.1 hX.2.2.2.2 hS (by rw [hml]; exact hsz) d0 d3 d4 d6 d9 (fun x hx => (htab x hx).elim) hfr hlo hc0 hs0 B.notSynchronized (fun t _ hz hk => ⟨rfl, hP1.kept (fun k q hq => hk _ ((hP1 k q hq).lt)), Nat.le_trans hS.1 hz, fun q hq hA => (hk q (Nat.lt_of_lt_of_le hq hS.1)).trans (hS.2.1 q hq hA)⟩) hS.2.2 hc hs
  · intro ik ic is pc text ls rest H locs k n h1 h2 hP1 hS hsz d0 d3 d4 d6 d9 hfr hlo hc0 hs0 hc hs
    obtain ⟨q1, q2, q3, q4, q5⟩ := thr_hat h1 (atoms_spec B.pre) hX
    obtain ⟨sa, hsa⟩ := hX.2.2.1 _ h2
    exact vx_throwSW (names := eN) B.exec B.bytes hst hown q5 (by decide +kernel) q1 q2 hsa q3 q4 hX.2.2.2.1 hX.2.2.2.2 hS (by rw [hml]; exact hsz) d0 d3 d4 d6 d9 (fun x hx => (htab x hx).elim) hfr hlo hc0 hs0 B.notSynchronized (fun t _ hz hk => ⟨rfl, hP1.kept (fun k q hq => hk _ ((hP1 k q hq).lt)), Nat.le_trans hS.1 hz, fun q hq hA => (hk q (Nat.lt_of_lt_of_le hq hS.1)).trans (hS.2.1 q hq hA)⟩) hS.2.2 hc hs
  · intro pc ls rest H locs q ce k n hP1 hS h1 h2 h3 hc hs
    exact vx_out (fun x hx => (htab x hx).elim) B.notSynchronized h1 h2 h3 (fun t ht _ => ⟨rfl, by rw [ht]; exact hP1, hS.F ht⟩) hS.2.2 hc hs
end MTS
section TROWS
variable {p : Program} {l : Launch} {e : Env} {R : Room} {s : State} {m : MethodId} {args : Array Value} {below : List Frame} {meth : Method} {c : Code} {H : Heap} {locs : List Loc} {cells slots : Nat} {Q : State → Prop}
variable {cc : ByteArray} {pc : Nat} {ls : Array Slot} {rest st0 : List Value} {D : va_G} {cI cQ cL : ClassId} {ad : Nat → Nat} {N : Nat} {F : Nat → va_E} {Ts : List Cond}
theorem MT_pre {argl : List Value} {U : State} (hDi : iD ad N) (hK : va_K D vwCl (iT cI cQ cL) s) (hP : va_P D vwCl (iW ad N F) H) (hNW : NW s) (hS : va_S (iA ad N s.heap.size) s.heap H locs) (hX : XW ad N s.heap.size s) (hU : U.heap = H) (hW : s.WarmedH U.vm) : va_Pc argl (fun U => U.heap.size = H.size ∧ iD ad N ∧ rW D cI cQ cL ad N F U ∧ XW ad N H.size U) argl.toArray U :=
  ⟨rfl, by rw [hU], hDi, ⟨by rw [hU]; exact hP, va_K.moved hW.alike hK, hNW.warm hW⟩, hX.go hS hU hW⟩
/-- a call of a static method that throws -/
theorem csT {nL index na mc ms : Nat} {own : String} {y : MethodName} {bytes : ByteArray} {maxL : Nat} {ret : Option FieldType} {ws : List Cond} {rm : Room} {As : List Value} {E : String}
    (S : CallFix p m c cc nL s args Ts own) (hM : MT l y ws rm D cI cQ cL ad N F As E mc ms) (cw : CallB R s args own index y bytes maxL ret ws rm mc ms na ∧ (Cond.static y).before args s = true) (hDi : iD ad N) (hK : va_K D vwCl (iT cI cQ cL) s) (hP : va_P D vwCl (iW ad N F) H) (hNW : NW s) (hS : va_S (iA ad N s.heap.size) s.heap H locs) (hX : XW ad N s.heap.size s)
    (hn : As.length = na) (hsize : ls.size = nL) (hstack : st0 = As.reverse ++ rest) (hW : (rest.map fun v => v.category).sum ≤ 8) (hf : cells + mc ≤ R.cells ∧ slots + ms ≤ R.slots) (hdg : decode cc pc = .ok (.invokestatic index, 3))
    (kx : ∀ (H1 : Heap) (locs1 : List Loc) (q : Addr) (ce : Cell), va_P D vwCl (iW ad N F) H1 → va_S (iA ad N s.heap.size) s.heap H1 locs1 → H1[q]? = some ce → ce.vm = .none → s.vm.findClass E = some ce.cls → vx_W p l e R s m args below meth c H1 locs1 (cells + mc) (slots + ms) Q (F0 m pc ls rest) q) : W p l e R s m args below meth c H locs cells slots Q (F0 m pc ls st0) := by
  have hr := vx_runS (g := F0 m pc ls st0) (p := p) (l := l) (e := e) (R := R) (m := m) (meth := meth) (below := below) (H := H) (locs := locs) (cells := cells) (slots := slots) S (hM H.size) cw ⟨MT_blind, fun U hU hW => MT_pre hDi hK hP hNW hS hX hU hW⟩ rfl hn hsize hstack (lv_room hW) hdg hf
  intro T hT X
  rcases hr T hT X with ⟨v, st₀, t, T', L, h0, X', hL, e1, e2, hfalse, st⟩ | ⟨q, st₀, t, T', L, E9, ce, h0, X', hL, e1, e2, ⟨rfl, hb, hF⟩, hce, hcv, hcl, st⟩
  · exact hfalse.elim
  · obtain ⟨-, -, k3⟩ := vx_keep h0 e1 hS (fun q _ h => iA_up hS q h) (iA_up hS) hL hF
    obtain ⟨t2, a1, b1⟩ := kx T'.heap (locs ++ L) q ce (by rw [e1]; exact hb) k3 (by rw [e1]; exact hce) hcv hcl T' rfl X'
    exact ⟨t2, st.trans a1, b1⟩
end TROWS
/-- a void static method of its arguments alone -/
def MPv (l : Launch) (y : MethodName) (ws : List Cond) (rm : Room) (args : List Value) : Prop :=
  Met l y ws rm (va_Pc args (fun _ => True)) (fun _ st o t => o = .returned none ∧ t.heap = st.heap) 0 0 (fun _ => False)
section MPV
variable {l : Launch} {y : MethodName} {ws ws' : List Cond} {rm : Room} {cc : ByteArray} {maxL : Nat} {args : List Value}
theorem mp_v (hy : plainName y.cls = true) (hw : ws = Cond.code y cc maxL none :: ws') (hlen : (lg_sl args).length ≤ maxL)
    (body : ∀ (p : Program) (e : Env) (s : State) (m : MethodId) (below : List Frame) (meth : Method) (c : Code) (Q : State → Prop) (ls : Array Slot),
      p.tables.exec = Jvm.exec → c.code = cc → c.maxLocals = maxL → s.vm.findClass y.cls = some m.cls → (∀ w ∈ ws, w.before args.toArray s = true) →
      (∀ (pc : Nat) (ls : Array Slot), decode cc pc = .ok (.return_, 1) → W p l e rm s m args.toArray below meth c s.heap [] 0 0 Q (F0 m pc ls [])) →
      lv_has ls maxL (lv_args 0 args) → W p l e rm s m args.toArray below meth c s.heap [] 0 0 Q (F0 m 0 ls [])) : MPv l y ws rm args := by
  refine Met.ofW (cc := cc) (maxL := maxL) (ret := none) hy hw ?_
  intro p e s m args9 below meth c s₁ B hml hv
  obtain ⟨rfl, -⟩ := hv
  have hl := lv_entry args (n := maxL) hlen
  rw [lg_entry_eq]
  exact body p e s m below meth c _ _ B.exec B.bytes hml (findClass_of_methodNamed B.named) (atoms_spec B.pre) (fun pc ls hd => W.vret B.exec B.bytes B.returns (fun t ht _ => ⟨rfl, ht⟩) (fun _ h => nomatch h) hd B.notSynchronized) hl
end MPV
section PVROWS
variable {p : Program} {l : Launch} {e : Env} {R : Room} {s : State} {m : MethodId} {args : Array Value} {below : List Frame} {meth : Method} {c : Code} {H : Heap} {locs : List Loc} {cells slots : Nat} {Q : State → Prop}
variable {cc : ByteArray} {pc : Nat} {ls : Array Slot} {rest st0 : List Value} {Ts : List Cond}
theorem csPv {nL index na : Nat} {own : String} {y : MethodName} {bytes : ByteArray} {maxL : Nat} {ret : Option FieldType} {ws : List Cond} {rm : Room} {As : List Value}
    (S : CallFix p m c cc nL s args Ts own) (hM : MPv l y ws rm As) (cw : CallB R s args own index y bytes maxL ret ws rm 0 0 na ∧ (Cond.static y).before args s = true)
    (hn : As.length = na) (hsize : ls.size = nL) (hstack : st0 = As.reverse ++ rest) (hW : (rest.map fun v => v.category).sum ≤ 8) (hf : cells + 0 ≤ R.cells ∧ slots + 0 ≤ R.slots) (hdg : decode cc pc = .ok (.invokestatic index, 3))
    (kk : W p l e R s m args below meth c H locs cells slots Q (F0 m (pc + 3) ls rest)) : W p l e R s m args below meth c H locs cells slots Q (F0 m pc ls st0) := by
  have hr := va_runS (g := F0 m pc ls st0) (p := p) (l := l) (e := e) (R := R) (m := m) (meth := meth) (below := below) (locs := locs) (cells := cells) (slots := slots) (H := H) S hM cw ⟨MP_blind, fun U hU hW => ⟨rfl, trivial⟩⟩ rfl hn hsize hstack (lv_room hW) hdg hf
  intro T hT X
  obtain ⟨v, st₀, t, T', L, h0, X', hL, e1, e2, ⟨hv, hh⟩, st⟩ := hr T hT X
  cases hv
  have hLn : L = [] := by
    cases L with
    | nil => rfl
    | cons a L => exact (hL a List.mem_cons_self).elim
  subst hLn
  rw [List.append_nil] at X'
  obtain ⟨t2, a1, b1⟩ := kk T' (by rw [e1, hh, h0]) X'
  exact ⟨t2, st t2 a1, b1⟩
end PVROWS
end
