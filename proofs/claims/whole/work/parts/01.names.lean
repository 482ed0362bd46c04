-- ===== PART A: goes FIRST, ahead of the names: the tables' words, and 'selects' of the private methods out of them =====
/-- a private method of a class that the tables say can be made, by its rows of tables_1 -/
def lw_okq (q : MethodName × Nat) : Prop := (q.1.cls ≠ "java/lang/invoke/MethodHandle" ∧ q.1.cls ≠ "java/lang/invoke/VarHandle") ∧ Cond.instantiable q.1.cls q.2 ∈ tables_1 ∧ Cond.privateMethod q.1 ∈ tables_1 ∧ Cond.instanceMethod q.1 ∈ tables_1
theorem lw_p0 : lw_okq (⟨"CensusNight", "refuse", "(I)I"⟩, 10) := ⟨⟨by decide +kernel, by decide +kernel⟩, List.mem_of_getElem? (i := 20) (by decide +kernel), List.mem_of_getElem? (i := 237) (by decide +kernel), List.mem_of_getElem? (i := 238) (by decide +kernel)⟩
theorem lw_p1 : lw_okq (⟨"CensusNight$Shelf", "lowestBits", "(J)J"⟩, 4) := ⟨⟨by decide +kernel, by decide +kernel⟩, List.mem_of_getElem? (i := 173) (by decide +kernel), List.mem_of_getElem? (i := 352) (by decide +kernel), List.mem_of_getElem? (i := 353) (by decide +kernel)⟩
theorem lw_p2 : lw_okq (⟨"CensusNight", "isDoor", "(I)Z"⟩, 10) := ⟨⟨by decide +kernel, by decide +kernel⟩, List.mem_of_getElem? (i := 20) (by decide +kernel), List.mem_of_getElem? (i := 377) (by decide +kernel), List.mem_of_getElem? (i := 378) (by decide +kernel)⟩
theorem lw_p3 : lw_okq (⟨"CensusNight", "doorAt", "(I)LCensusNight$Door;"⟩, 10) := ⟨⟨by decide +kernel, by decide +kernel⟩, List.mem_of_getElem? (i := 20) (by decide +kernel), List.mem_of_getElem? (i := 402) (by decide +kernel), List.mem_of_getElem? (i := 403) (by decide +kernel)⟩
theorem lw_p4 : lw_okq (⟨"CensusNight$Door", "startReturn", "(I)V"⟩, 14) := ⟨⟨by decide +kernel, by decide +kernel⟩, List.mem_of_getElem? (i := 243) (by decide +kernel), List.mem_of_getElem? (i := 499) (by decide +kernel), List.mem_of_getElem? (i := 500) (by decide +kernel)⟩
theorem lw_p5 : lw_okq (⟨"CensusNight$Door", "addHead", "(I)V"⟩, 14) := ⟨⟨by decide +kernel, by decide +kernel⟩, List.mem_of_getElem? (i := 243) (by decide +kernel), List.mem_of_getElem? (i := 503) (by decide +kernel), List.mem_of_getElem? (i := 504) (by decide +kernel)⟩
theorem lw_p6 : lw_okq (⟨"CensusNight", "fillDoor", "(I)Z"⟩, 10) := ⟨⟨by decide +kernel, by decide +kernel⟩, List.mem_of_getElem? (i := 20) (by decide +kernel), List.mem_of_getElem? (i := 547) (by decide +kernel), List.mem_of_getElem? (i := 548) (by decide +kernel)⟩
theorem lw_p7 : lw_okq (⟨"CensusNight$Chances", "isGreater", "(II)Z"⟩, 4) := ⟨⟨by decide +kernel, by decide +kernel⟩, List.mem_of_getElem? (i := 56) (by decide +kernel), List.mem_of_getElem? (i := 604) (by decide +kernel), List.mem_of_getElem? (i := 605) (by decide +kernel)⟩
theorem lw_p8 : lw_okq (⟨"CensusNight$Walks", "judge", "(I)V"⟩, 10) := ⟨⟨by decide +kernel, by decide +kernel⟩, List.mem_of_getElem? (i := 77) (by decide +kernel), List.mem_of_getElem? (i := 627) (by decide +kernel), List.mem_of_getElem? (i := 628) (by decide +kernel)⟩
theorem lw_p9 : lw_okq (⟨"CensusNight$Walks", "workOf", "(I)I"⟩, 10) := ⟨⟨by decide +kernel, by decide +kernel⟩, List.mem_of_getElem? (i := 77) (by decide +kernel), List.mem_of_getElem? (i := 631) (by decide +kernel), List.mem_of_getElem? (i := 632) (by decide +kernel)⟩
theorem lw_p10 : lw_okq (⟨"CensusNight$Walks", "allTogether", "(I)Z"⟩, 10) := ⟨⟨by decide +kernel, by decide +kernel⟩, List.mem_of_getElem? (i := 77) (by decide +kernel), List.mem_of_getElem? (i := 638) (by decide +kernel), List.mem_of_getElem? (i := 639) (by decide +kernel)⟩
theorem lw_p11 : lw_okq (⟨"CensusNight$Walks", "isTogether", "(I)Z"⟩, 10) := ⟨⟨by decide +kernel, by decide +kernel⟩, List.mem_of_getElem? (i := 77) (by decide +kernel), List.mem_of_getElem? (i := 642) (by decide +kernel), List.mem_of_getElem? (i := 643) (by decide +kernel)⟩
theorem lw_p12 : lw_okq (⟨"CensusNight$Walks", "nearOnes", "(I)I"⟩, 10) := ⟨⟨by decide +kernel, by decide +kernel⟩, List.mem_of_getElem? (i := 77) (by decide +kernel), List.mem_of_getElem? (i := 646) (by decide +kernel), List.mem_of_getElem? (i := 647) (by decide +kernel)⟩
theorem lw_p13 : lw_okq (⟨"CensusNight", "doorsOf", "(I)I"⟩, 10) := ⟨⟨by decide +kernel, by decide +kernel⟩, List.mem_of_getElem? (i := 20) (by decide +kernel), List.mem_of_getElem? (i := 663) (by decide +kernel), List.mem_of_getElem? (i := 664) (by decide +kernel)⟩
theorem lw_p14 : lw_okq (⟨"CensusNight", "keepSecond", "(ILCensusNight$Shelf;)I"⟩, 10) := ⟨⟨by decide +kernel, by decide +kernel⟩, List.mem_of_getElem? (i := 20) (by decide +kernel), List.mem_of_getElem? (i := 668) (by decide +kernel), List.mem_of_getElem? (i := 669) (by decide +kernel)⟩
theorem lw_p15 : lw_okq (⟨"CensusNight", "countedHeads", "()I"⟩, 10) := ⟨⟨by decide +kernel, by decide +kernel⟩, List.mem_of_getElem? (i := 20) (by decide +kernel), List.mem_of_getElem? (i := 681) (by decide +kernel), List.mem_of_getElem? (i := 682) (by decide +kernel)⟩
def lw_privs_1 : List (MethodName × Nat) := [(⟨"CensusNight", "refuse", "(I)I"⟩, 10), (⟨"CensusNight$Shelf", "lowestBits", "(J)J"⟩, 4), (⟨"CensusNight", "isDoor", "(I)Z"⟩, 10), (⟨"CensusNight", "doorAt", "(I)LCensusNight$Door;"⟩, 10), (⟨"CensusNight$Door", "startReturn", "(I)V"⟩, 14), (⟨"CensusNight$Door", "addHead", "(I)V"⟩, 14), (⟨"CensusNight", "fillDoor", "(I)Z"⟩, 10), (⟨"CensusNight$Chances", "isGreater", "(II)Z"⟩, 4), (⟨"CensusNight$Walks", "judge", "(I)V"⟩, 10), (⟨"CensusNight$Walks", "workOf", "(I)I"⟩, 10), (⟨"CensusNight$Walks", "allTogether", "(I)Z"⟩, 10), (⟨"CensusNight$Walks", "isTogether", "(I)Z"⟩, 10), (⟨"CensusNight$Walks", "nearOnes", "(I)I"⟩, 10), (⟨"CensusNight", "doorsOf", "(I)I"⟩, 10), (⟨"CensusNight", "keepSecond", "(ILCensusNight$Shelf;)I"⟩, 10), (⟨"CensusNight", "countedHeads", "()I"⟩, 10)]
theorem lw_r1 : ∀ q ∈ lw_privs_1, lw_okq q := List.forall_mem_cons.mpr ⟨lw_p0, List.forall_mem_cons.mpr ⟨lw_p1, List.forall_mem_cons.mpr ⟨lw_p2, List.forall_mem_cons.mpr ⟨lw_p3, List.forall_mem_cons.mpr ⟨lw_p4, List.forall_mem_cons.mpr ⟨lw_p5, List.forall_mem_cons.mpr ⟨lw_p6, List.forall_mem_cons.mpr ⟨lw_p7, List.forall_mem_cons.mpr ⟨lw_p8, List.forall_mem_cons.mpr ⟨lw_p9, List.forall_mem_cons.mpr ⟨lw_p10, List.forall_mem_cons.mpr ⟨lw_p11, List.forall_mem_cons.mpr ⟨lw_p12, List.forall_mem_cons.mpr ⟨lw_p13, List.forall_mem_cons.mpr ⟨lw_p14, List.forall_mem_cons.mpr ⟨lw_p15, fun _ h => absurd h List.not_mem_nil⟩⟩⟩⟩⟩⟩⟩⟩⟩⟩⟩⟩⟩⟩⟩⟩
theorem lw_p16 : lw_okq (⟨"CensusNight$Hiding", "noneFollows", "(I)Z"⟩, 2) := ⟨⟨by decide +kernel, by decide +kernel⟩, List.mem_of_getElem? (i := 123) (by decide +kernel), List.mem_of_getElem? (i := 727) (by decide +kernel), List.mem_of_getElem? (i := 728) (by decide +kernel)⟩
theorem lw_p17 : lw_okq (⟨"CensusNight$Hiding", "canShrink", "(III)Z"⟩, 2) := ⟨⟨by decide +kernel, by decide +kernel⟩, List.mem_of_getElem? (i := 123) (by decide +kernel), List.mem_of_getElem? (i := 731) (by decide +kernel), List.mem_of_getElem? (i := 732) (by decide +kernel)⟩
theorem lw_p18 : lw_okq (⟨"CensusNight$Hiding", "canGrow", "(III)Z"⟩, 2) := ⟨⟨by decide +kernel, by decide +kernel⟩, List.mem_of_getElem? (i := 123) (by decide +kernel), List.mem_of_getElem? (i := 741) (by decide +kernel), List.mem_of_getElem? (i := 742) (by decide +kernel)⟩
theorem lw_p19 : lw_okq (⟨"CensusNight$Table", "isHidden", "(II)Z"⟩, 6) := ⟨⟨by decide +kernel, by decide +kernel⟩, List.mem_of_getElem? (i := 117) (by decide +kernel), List.mem_of_getElem? (i := 760) (by decide +kernel), List.mem_of_getElem? (i := 761) (by decide +kernel)⟩
theorem lw_p20 : lw_okq (⟨"CensusNight$Table", "sum", "(II)I"⟩, 6) := ⟨⟨by decide +kernel, by decide +kernel⟩, List.mem_of_getElem? (i := 117) (by decide +kernel), List.mem_of_getElem? (i := 764) (by decide +kernel), List.mem_of_getElem? (i := 765) (by decide +kernel)⟩
theorem lw_p21 : lw_okq (⟨"CensusNight$Shifts", "findWay", "(II)Z"⟩, 4) := ⟨⟨by decide +kernel, by decide +kernel⟩, List.mem_of_getElem? (i := 136) (by decide +kernel), List.mem_of_getElem? (i := 782) (by decide +kernel), List.mem_of_getElem? (i := 783) (by decide +kernel)⟩
theorem lw_p22 : lw_okq (⟨"CensusNight$Shifts", "canStep", "(II)Z"⟩, 4) := ⟨⟨by decide +kernel, by decide +kernel⟩, List.mem_of_getElem? (i := 136) (by decide +kernel), List.mem_of_getElem? (i := 787) (by decide +kernel), List.mem_of_getElem? (i := 788) (by decide +kernel)⟩
theorem lw_p23 : lw_okq (⟨"CensusNight$Shifts", "wayRoom", "(II)I"⟩, 4) := ⟨⟨by decide +kernel, by decide +kernel⟩, List.mem_of_getElem? (i := 136) (by decide +kernel), List.mem_of_getElem? (i := 796) (by decide +kernel), List.mem_of_getElem? (i := 797) (by decide +kernel)⟩
theorem lw_p24 : lw_okq (⟨"CensusNight$Shifts", "moveAlong", "(III)V"⟩, 4) := ⟨⟨by decide +kernel, by decide +kernel⟩, List.mem_of_getElem? (i := 136) (by decide +kernel), List.mem_of_getElem? (i := 801) (by decide +kernel), List.mem_of_getElem? (i := 802) (by decide +kernel)⟩
theorem lw_p25 : lw_okq (⟨"CensusNight", "doorsWith", "(I)I"⟩, 10) := ⟨⟨by decide +kernel, by decide +kernel⟩, List.mem_of_getElem? (i := 20) (by decide +kernel), List.mem_of_getElem? (i := 809) (by decide +kernel), List.mem_of_getElem? (i := 810) (by decide +kernel)⟩
theorem lw_p26 : lw_okq (⟨"CensusNight", "struckHeads", "()I"⟩, 10) := ⟨⟨by decide +kernel, by decide +kernel⟩, List.mem_of_getElem? (i := 20) (by decide +kernel), List.mem_of_getElem? (i := 813) (by decide +kernel), List.mem_of_getElem? (i := 814) (by decide +kernel)⟩
theorem lw_p27 : lw_okq (⟨"CensusNight", "doorsToBeAsked", "()I"⟩, 10) := ⟨⟨by decide +kernel, by decide +kernel⟩, List.mem_of_getElem? (i := 20) (by decide +kernel), List.mem_of_getElem? (i := 818) (by decide +kernel), List.mem_of_getElem? (i := 819) (by decide +kernel)⟩
theorem lw_p28 : lw_okq (⟨"CensusNightModel", "no", "(I)I"⟩, 46) := ⟨⟨by decide +kernel, by decide +kernel⟩, List.mem_of_getElem? (i := 822) (by decide +kernel), List.mem_of_getElem? (i := 975) (by decide +kernel), List.mem_of_getElem? (i := 976) (by decide +kernel)⟩
theorem lw_p29 : lw_okq (⟨"CensusNightModel", "notRow", "(I)I"⟩, 46) := ⟨⟨by decide +kernel, by decide +kernel⟩, List.mem_of_getElem? (i := 822) (by decide +kernel), List.mem_of_getElem? (i := 999) (by decide +kernel), List.mem_of_getElem? (i := 1000) (by decide +kernel)⟩
theorem lw_p30 : lw_okq (⟨"CensusNightModel", "isDoor", "(I)Z"⟩, 46) := ⟨⟨by decide +kernel, by decide +kernel⟩, List.mem_of_getElem? (i := 822) (by decide +kernel), List.mem_of_getElem? (i := 1018) (by decide +kernel), List.mem_of_getElem? (i := 1019) (by decide +kernel)⟩
theorem lw_p31 : lw_okq (⟨"CensusNightModel", "broken", "(I)I"⟩, 46) := ⟨⟨by decide +kernel, by decide +kernel⟩, List.mem_of_getElem? (i := 822) (by decide +kernel), List.mem_of_getElem? (i := 1034) (by decide +kernel), List.mem_of_getElem? (i := 1035) (by decide +kernel)⟩
def lw_privs_2 : List (MethodName × Nat) := [(⟨"CensusNight$Hiding", "noneFollows", "(I)Z"⟩, 2), (⟨"CensusNight$Hiding", "canShrink", "(III)Z"⟩, 2), (⟨"CensusNight$Hiding", "canGrow", "(III)Z"⟩, 2), (⟨"CensusNight$Table", "isHidden", "(II)Z"⟩, 6), (⟨"CensusNight$Table", "sum", "(II)I"⟩, 6), (⟨"CensusNight$Shifts", "findWay", "(II)Z"⟩, 4), (⟨"CensusNight$Shifts", "canStep", "(II)Z"⟩, 4), (⟨"CensusNight$Shifts", "wayRoom", "(II)I"⟩, 4), (⟨"CensusNight$Shifts", "moveAlong", "(III)V"⟩, 4), (⟨"CensusNight", "doorsWith", "(I)I"⟩, 10), (⟨"CensusNight", "struckHeads", "()I"⟩, 10), (⟨"CensusNight", "doorsToBeAsked", "()I"⟩, 10), (⟨"CensusNightModel", "no", "(I)I"⟩, 46), (⟨"CensusNightModel", "notRow", "(I)I"⟩, 46), (⟨"CensusNightModel", "isDoor", "(I)Z"⟩, 46), (⟨"CensusNightModel", "broken", "(I)I"⟩, 46)]
theorem lw_r2 : ∀ q ∈ lw_privs_2, lw_okq q := List.forall_mem_cons.mpr ⟨lw_p16, List.forall_mem_cons.mpr ⟨lw_p17, List.forall_mem_cons.mpr ⟨lw_p18, List.forall_mem_cons.mpr ⟨lw_p19, List.forall_mem_cons.mpr ⟨lw_p20, List.forall_mem_cons.mpr ⟨lw_p21, List.forall_mem_cons.mpr ⟨lw_p22, List.forall_mem_cons.mpr ⟨lw_p23, List.forall_mem_cons.mpr ⟨lw_p24, List.forall_mem_cons.mpr ⟨lw_p25, List.forall_mem_cons.mpr ⟨lw_p26, List.forall_mem_cons.mpr ⟨lw_p27, List.forall_mem_cons.mpr ⟨lw_p28, List.forall_mem_cons.mpr ⟨lw_p29, List.forall_mem_cons.mpr ⟨lw_p30, List.forall_mem_cons.mpr ⟨lw_p31, fun _ h => absurd h List.not_mem_nil⟩⟩⟩⟩⟩⟩⟩⟩⟩⟩⟩⟩⟩⟩⟩⟩
theorem lw_p32 : lw_okq (⟨"CensusNightModel", "letter", "(II)I"⟩, 46) := ⟨⟨by decide +kernel, by decide +kernel⟩, List.mem_of_getElem? (i := 822) (by decide +kernel), List.mem_of_getElem? (i := 1038) (by decide +kernel), List.mem_of_getElem? (i := 1039) (by decide +kernel)⟩
theorem lw_p33 : lw_okq (⟨"CensusNightModel", "isToBeAsked", "(I)Z"⟩, 46) := ⟨⟨by decide +kernel, by decide +kernel⟩, List.mem_of_getElem? (i := 822) (by decide +kernel), List.mem_of_getElem? (i := 1062) (by decide +kernel), List.mem_of_getElem? (i := 1063) (by decide +kernel)⟩
theorem lw_p34 : lw_okq (⟨"CensusNightModel", "returns", "(III)V"⟩, 46) := ⟨⟨by decide +kernel, by decide +kernel⟩, List.mem_of_getElem? (i := 822) (by decide +kernel), List.mem_of_getElem? (i := 1066) (by decide +kernel), List.mem_of_getElem? (i := 1067) (by decide +kernel)⟩
theorem lw_p35 : lw_okq (⟨"CensusNightModel", "isHead", "(II)Z"⟩, 46) := ⟨⟨by decide +kernel, by decide +kernel⟩, List.mem_of_getElem? (i := 822) (by decide +kernel), List.mem_of_getElem? (i := 1084) (by decide +kernel), List.mem_of_getElem? (i := 1085) (by decide +kernel)⟩
theorem lw_p36 : lw_okq (⟨"CensusNightModel", "donor", "(I)I"⟩, 46) := ⟨⟨by decide +kernel, by decide +kernel⟩, List.mem_of_getElem? (i := 822) (by decide +kernel), List.mem_of_getElem? (i := 1092) (by decide +kernel), List.mem_of_getElem? (i := 1093) (by decide +kernel)⟩
theorem lw_p37 : lw_okq (⟨"CensusNightModel", "struckAt", "(I)I"⟩, 46) := ⟨⟨by decide +kernel, by decide +kernel⟩, List.mem_of_getElem? (i := 822) (by decide +kernel), List.mem_of_getElem? (i := 1104) (by decide +kernel), List.mem_of_getElem? (i := 1105) (by decide +kernel)⟩
theorem lw_p38 : lw_okq (⟨"CensusNightModel", "counted", "(IIZ)I"⟩, 46) := ⟨⟨by decide +kernel, by decide +kernel⟩, List.mem_of_getElem? (i := 822) (by decide +kernel), List.mem_of_getElem? (i := 1116) (by decide +kernel), List.mem_of_getElem? (i := 1117) (by decide +kernel)⟩
theorem lw_p39 : lw_okq (⟨"CensusNightModel", "walksUpTo", "(I)I"⟩, 46) := ⟨⟨by decide +kernel, by decide +kernel⟩, List.mem_of_getElem? (i := 822) (by decide +kernel), List.mem_of_getElem? (i := 1132) (by decide +kernel), List.mem_of_getElem? (i := 1133) (by decide +kernel)⟩
theorem lw_p40 : lw_okq (⟨"CensusNightModel", "greatestWork", "(II)I"⟩, 46) := ⟨⟨by decide +kernel, by decide +kernel⟩, List.mem_of_getElem? (i := 822) (by decide +kernel), List.mem_of_getElem? (i := 1136) (by decide +kernel), List.mem_of_getElem? (i := 1137) (by decide +kernel)⟩
theorem lw_p41 : lw_okq (⟨"CensusNightModel", "hangs", "(I)Z"⟩, 46) := ⟨⟨by decide +kernel, by decide +kernel⟩, List.mem_of_getElem? (i := 822) (by decide +kernel), List.mem_of_getElem? (i := 1140) (by decide +kernel), List.mem_of_getElem? (i := 1141) (by decide +kernel)⟩
theorem lw_p42 : lw_okq (⟨"CensusNightModel", "nextWalks", "()Z"⟩, 46) := ⟨⟨by decide +kernel, by decide +kernel⟩, List.mem_of_getElem? (i := 822) (by decide +kernel), List.mem_of_getElem? (i := 1144) (by decide +kernel), List.mem_of_getElem? (i := 1145) (by decide +kernel)⟩
theorem lw_p43 : lw_okq (⟨"CensusNightModel", "countedAll", "()I"⟩, 46) := ⟨⟨by decide +kernel, by decide +kernel⟩, List.mem_of_getElem? (i := 822) (by decide +kernel), List.mem_of_getElem? (i := 1164) (by decide +kernel), List.mem_of_getElem? (i := 1165) (by decide +kernel)⟩
theorem lw_p44 : lw_okq (⟨"CensusNightModel", "findOthers", "(I)Z"⟩, 46) := ⟨⟨by decide +kernel, by decide +kernel⟩, List.mem_of_getElem? (i := 822) (by decide +kernel), List.mem_of_getElem? (i := 1181) (by decide +kernel), List.mem_of_getElem? (i := 1182) (by decide +kernel)⟩
theorem lw_p45 : lw_okq (⟨"CensusNightModel", "areOthers", "(I)Z"⟩, 46) := ⟨⟨by decide +kernel, by decide +kernel⟩, List.mem_of_getElem? (i := 822) (by decide +kernel), List.mem_of_getElem? (i := 1185) (by decide +kernel), List.mem_of_getElem? (i := 1186) (by decide +kernel)⟩
theorem lw_p46 : lw_okq (⟨"CensusNightModel", "isSmall", "(I)Z"⟩, 46) := ⟨⟨by decide +kernel, by decide +kernel⟩, List.mem_of_getElem? (i := 822) (by decide +kernel), List.mem_of_getElem? (i := 1189) (by decide +kernel), List.mem_of_getElem? (i := 1190) (by decide +kernel)⟩
theorem lw_p47 : lw_okq (⟨"CensusNightModel", "hides", "(I)V"⟩, 46) := ⟨⟨by decide +kernel, by decide +kernel⟩, List.mem_of_getElem? (i := 822) (by decide +kernel), List.mem_of_getElem? (i := 1193) (by decide +kernel), List.mem_of_getElem? (i := 1194) (by decide +kernel)⟩
def lw_privs_3 : List (MethodName × Nat) := [(⟨"CensusNightModel", "letter", "(II)I"⟩, 46), (⟨"CensusNightModel", "isToBeAsked", "(I)Z"⟩, 46), (⟨"CensusNightModel", "returns", "(III)V"⟩, 46), (⟨"CensusNightModel", "isHead", "(II)Z"⟩, 46), (⟨"CensusNightModel", "donor", "(I)I"⟩, 46), (⟨"CensusNightModel", "struckAt", "(I)I"⟩, 46), (⟨"CensusNightModel", "counted", "(IIZ)I"⟩, 46), (⟨"CensusNightModel", "walksUpTo", "(I)I"⟩, 46), (⟨"CensusNightModel", "greatestWork", "(II)I"⟩, 46), (⟨"CensusNightModel", "hangs", "(I)Z"⟩, 46), (⟨"CensusNightModel", "nextWalks", "()Z"⟩, 46), (⟨"CensusNightModel", "countedAll", "()I"⟩, 46), (⟨"CensusNightModel", "findOthers", "(I)Z"⟩, 46), (⟨"CensusNightModel", "areOthers", "(I)Z"⟩, 46), (⟨"CensusNightModel", "isSmall", "(I)Z"⟩, 46), (⟨"CensusNightModel", "hides", "(I)V"⟩, 46)]
theorem lw_r3 : ∀ q ∈ lw_privs_3, lw_okq q := List.forall_mem_cons.mpr ⟨lw_p32, List.forall_mem_cons.mpr ⟨lw_p33, List.forall_mem_cons.mpr ⟨lw_p34, List.forall_mem_cons.mpr ⟨lw_p35, List.forall_mem_cons.mpr ⟨lw_p36, List.forall_mem_cons.mpr ⟨lw_p37, List.forall_mem_cons.mpr ⟨lw_p38, List.forall_mem_cons.mpr ⟨lw_p39, List.forall_mem_cons.mpr ⟨lw_p40, List.forall_mem_cons.mpr ⟨lw_p41, List.forall_mem_cons.mpr ⟨lw_p42, List.forall_mem_cons.mpr ⟨lw_p43, List.forall_mem_cons.mpr ⟨lw_p44, List.forall_mem_cons.mpr ⟨lw_p45, List.forall_mem_cons.mpr ⟨lw_p46, List.forall_mem_cons.mpr ⟨lw_p47, fun _ h => absurd h List.not_mem_nil⟩⟩⟩⟩⟩⟩⟩⟩⟩⟩⟩⟩⟩⟩⟩⟩
theorem lw_p48 : lw_okq (⟨"CensusNightModel", "isSafe", "()Z"⟩, 46) := ⟨⟨by decide +kernel, by decide +kernel⟩, List.mem_of_getElem? (i := 822) (by decide +kernel), List.mem_of_getElem? (i := 1197) (by decide +kernel), List.mem_of_getElem? (i := 1198) (by decide +kernel)⟩
theorem lw_p49 : lw_okq (⟨"CensusNightModel", "canRise", "(I[Z[I)Z"⟩, 46) := ⟨⟨by decide +kernel, by decide +kernel⟩, List.mem_of_getElem? (i := 822) (by decide +kernel), List.mem_of_getElem? (i := 1201) (by decide +kernel), List.mem_of_getElem? (i := 1202) (by decide +kernel)⟩
theorem lw_p50 : lw_okq (⟨"CensusNightModel", "finds", "(III[Z[I)Z"⟩, 46) := ⟨⟨by decide +kernel, by decide +kernel⟩, List.mem_of_getElem? (i := 822) (by decide +kernel), List.mem_of_getElem? (i := 1205) (by decide +kernel), List.mem_of_getElem? (i := 1206) (by decide +kernel)⟩
theorem lw_p51 : lw_okq (⟨"CensusNightModel", "canFall", "(I[Z[I)Z"⟩, 46) := ⟨⟨by decide +kernel, by decide +kernel⟩, List.mem_of_getElem? (i := 822) (by decide +kernel), List.mem_of_getElem? (i := 1209) (by decide +kernel), List.mem_of_getElem? (i := 1210) (by decide +kernel)⟩
theorem lw_p52 : lw_okq (⟨"CensusNightModel", "nextOthers", "(I)Z"⟩, 46) := ⟨⟨by decide +kernel, by decide +kernel⟩, List.mem_of_getElem? (i := 822) (by decide +kernel), List.mem_of_getElem? (i := 1213) (by decide +kernel), List.mem_of_getElem? (i := 1214) (by decide +kernel)⟩
theorem lw_p53 : lw_okq (⟨"CensusNightModel", "moves", "(IZ)V"⟩, 46) := ⟨⟨by decide +kernel, by decide +kernel⟩, List.mem_of_getElem? (i := 822) (by decide +kernel), List.mem_of_getElem? (i := 1228) (by decide +kernel), List.mem_of_getElem? (i := 1229) (by decide +kernel)⟩
def lw_privs_4 : List (MethodName × Nat) := [(⟨"CensusNightModel", "isSafe", "()Z"⟩, 46), (⟨"CensusNightModel", "canRise", "(I[Z[I)Z"⟩, 46), (⟨"CensusNightModel", "finds", "(III[Z[I)Z"⟩, 46), (⟨"CensusNightModel", "canFall", "(I[Z[I)Z"⟩, 46), (⟨"CensusNightModel", "nextOthers", "(I)Z"⟩, 46), (⟨"CensusNightModel", "moves", "(IZ)V"⟩, 46)]
theorem lw_r4 : ∀ q ∈ lw_privs_4, lw_okq q := List.forall_mem_cons.mpr ⟨lw_p48, List.forall_mem_cons.mpr ⟨lw_p49, List.forall_mem_cons.mpr ⟨lw_p50, List.forall_mem_cons.mpr ⟨lw_p51, List.forall_mem_cons.mpr ⟨lw_p52, List.forall_mem_cons.mpr ⟨lw_p53, fun _ h => absurd h List.not_mem_nil⟩⟩⟩⟩⟩⟩
def lw_privs : List (MethodName × Nat) := lw_privs_1 ++ (lw_privs_2 ++ (lw_privs_3 ++ (lw_privs_4)))
def lw_tbl : List Cond := k2_sels lw_privs ++ tables_1
theorem lw_privs_ok : ∀ q ∈ lw_privs, lw_okq q := by
  show ∀ q ∈ lw_privs_1 ++ (lw_privs_2 ++ (lw_privs_3 ++ (lw_privs_4))), lw_okq q
  exact List.forall_mem_append.mpr ⟨lw_r1, List.forall_mem_append.mpr ⟨lw_r2, List.forall_mem_append.mpr ⟨lw_r3, lw_r4⟩⟩⟩
def RX0 : String := "CensusNight$Chances"
def TX0 : u_T := fun k => match k with
  | 0 => ("CensusNight$Chances", "knocks", "[I", true)
  | 1 => ("CensusNight$Chances", "answers", "[I", true)
  | 2 => ("CensusNight$Chances", "allKnocks", "I", false)
  | _ => ("CensusNight$Chances", "allAnswers", "I", false)
def tyX0 : Nat → FieldType := fun k => match k with
  | 0 => .array .int
  | 1 => .array .int
  | 2 => .int
  | _ => .int
abbrev wsX00 : List Cond := u_ws RX0 TX0 4
theorem nmX0 : ∀ a, a < 4 → ∀ b, b < 4 → a ≠ b → (TX0 a).2.1 ≠ (TX0 b).2.1 := by decide +kernel
theorem tyX0_ok : ∀ k, k < 4 → parseFieldDescriptor (TX0 k).2.2.1 = some (tyX0 k) := by decide +kernel
abbrev cX0_init : ByteArray := prog_2_method_1_code
def yX0_init : MethodName := ⟨RX0, "<init>", "()V"⟩
abbrev cX0_note : ByteArray := prog_2_method_2_code
def yX0_note : MethodName := ⟨RX0, "note", "(IIZ)V"⟩
abbrev cX0_greatest : ByteArray := prog_2_method_3_code
def yX0_greatest : MethodName := ⟨RX0, "greatest", "(I)I"⟩
abbrev cX0_isGreater : ByteArray := prog_2_method_4_code
def yX0_isGreater : MethodName := ⟨RX0, "isGreater", "(II)Z"⟩
def RX1 : String := "CensusNight$Door"
def TX1 : u_T := fun k => match k with
  | 0 => ("CensusNight$Door", "block", "I", true)
  | 1 => ("CensusNight$Door", "like", "I", true)
  | 2 => ("CensusNight$Door", "hours", "I", true)
  | 3 => ("CensusNight$Door", "truthAges", "[I", true)
  | 4 => ("CensusNight$Door", "ages", "[I", true)
  | 5 => ("CensusNight$Door", "truthHeads", "I", false)
  | 6 => ("CensusNight$Door", "reply", "I", false)
  | 7 => ("CensusNight$Door", "broken", "Z", false)
  | 8 => ("CensusNight$Door", "heads", "I", false)
  | 9 => ("CensusNight$Door", "struck", "I", false)
  | 10 => ("CensusNight$Door", "knocks", "I", false)
  | 11 => ("CensusNight$Door", "filledOthers", "I", false)
  | 12 => ("CensusNight$Door", "filledFrom", "I", false)
  | _ => ("CensusNight$Door", "secondHeads", "I", false)
def tyX1 : Nat → FieldType := fun k => match k with
  | 0 => .int
  | 1 => .int
  | 2 => .int
  | 3 => .array .int
  | 4 => .array .int
  | 5 => .int
  | 6 => .int
  | 7 => .boolean
  | 8 => .int
  | 9 => .int
  | 10 => .int
  | 11 => .int
  | 12 => .int
  | _ => .int
abbrev wsX10 : List Cond := u_ws RX1 TX1 14
theorem nmX1 : ∀ a, a < 14 → ∀ b, b < 14 → a ≠ b → (TX1 a).2.1 ≠ (TX1 b).2.1 := by decide +kernel
theorem tyX1_ok : ∀ k, k < 14 → parseFieldDescriptor (TX1 k).2.2.1 = some (tyX1 k) := by decide +kernel
abbrev cX1_init : ByteArray := prog_3_method_1_code
def yX1_init : MethodName := ⟨RX1, "<init>", "(III)V"⟩
abbrev cX1_learnTruth : ByteArray := prog_3_method_2_code
def yX1_learnTruth : MethodName := ⟨RX1, "learnTruth", "(LCensusNight$Shelf;)I"⟩
abbrev cX1_isToBeAsked : ByteArray := prog_3_method_3_code
def yX1_isToBeAsked : MethodName := ⟨RX1, "isToBeAsked", "()Z"⟩
abbrev cX1_startReturn : ByteArray := prog_3_method_4_code
def yX1_startReturn : MethodName := ⟨RX1, "startReturn", "(I)V"⟩
abbrev cX1_addHead : ByteArray := prog_3_method_5_code
def yX1_addHead : MethodName := ⟨RX1, "addHead", "(I)V"⟩
abbrev cX1_takePaper : ByteArray := prog_3_method_6_code
def yX1_takePaper : MethodName := ⟨RX1, "takePaper", "()I"⟩
abbrev cX1_takeKnock : ByteArray := prog_3_method_7_code
def yX1_takeKnock : MethodName := ⟨RX1, "takeKnock", "(I)Z"⟩
abbrev cX1_takeProxy : ByteArray := prog_3_method_8_code
def yX1_takeProxy : MethodName := ⟨RX1, "takeProxy", "(I)V"⟩
abbrev cX1_canFill : ByteArray := prog_3_method_9_code
def yX1_canFill : MethodName := ⟨RX1, "canFill", "(I)Z"⟩
abbrev cX1_takeHeadsOf : ByteArray := prog_3_method_10_code
def yX1_takeHeadsOf : MethodName := ⟨RX1, "takeHeadsOf", "(LCensusNight$Door;I)V"⟩
abbrev cX1_hasHead : ByteArray := prog_3_method_11_code
def yX1_hasHead : MethodName := ⟨RX1, "hasHead", "(I)Z"⟩
abbrev cX1_isStruck : ByteArray := prog_3_method_12_code
def yX1_isStruck : MethodName := ⟨RX1, "isStruck", "(I)Z"⟩
abbrev cX1_strike : ByteArray := prog_3_method_13_code
def yX1_strike : MethodName := ⟨RX1, "strike", "(I)V"⟩
abbrev cX1_counted : ByteArray := prog_3_method_14_code
def yX1_counted : MethodName := ⟨RX1, "counted", "()I"⟩
abbrev cX1_countedInBand : ByteArray := prog_3_method_15_code
def yX1_countedInBand : MethodName := ⟨RX1, "countedInBand", "(I)I"⟩
abbrev cX1_bandOf : ByteArray := prog_3_method_16_code
def yX1_bandOf : MethodName := ⟨RX1, "bandOf", "(I)I"⟩
abbrev cX1_countedThatMayHeap : ByteArray := prog_3_method_17_code
def yX1_countedThatMayHeap : MethodName := ⟨RX1, "countedThatMayHeap", "(I)I"⟩
abbrev cX1_tell : ByteArray := prog_3_method_18_code
def yX1_tell : MethodName := ⟨RX1, "tell", "(I)I"⟩
def RX2 : String := "CensusNight$Hiding"
def TX2 : u_T := fun k => match k with
  | 0 => ("CensusNight$Hiding", "small", "I", false)
  | _ => ("CensusNight$Hiding", "positive", "I", false)
def tyX2 : Nat → FieldType := fun k => match k with
  | 0 => .int
  | _ => .int
abbrev wsX20 : List Cond := u_ws RX2 TX2 2
theorem nmX2 : ∀ a, a < 2 → ∀ b, b < 2 → a ≠ b → (TX2 a).2.1 ≠ (TX2 b).2.1 := by decide +kernel
theorem tyX2_ok : ∀ k, k < 2 → parseFieldDescriptor (TX2 k).2.2.1 = some (tyX2 k) := by decide +kernel
abbrev cX2_init : ByteArray := prog_4_method_1_code
def yX2_init : MethodName := ⟨RX2, "<init>", "()V"⟩
abbrev cX2_find : ByteArray := prog_4_method_2_code
def yX2_find : MethodName := ⟨RX2, "find", "([II)I"⟩
abbrev cX2_choose : ByteArray := prog_4_method_3_code
def yX2_choose : MethodName := ⟨RX2, "choose", "(LCensusNight$Hiding;III)I"⟩
abbrev cX2_loneLines : ByteArray := prog_4_method_4_code
def yX2_loneLines : MethodName := ⟨RX2, "loneLines", "(I)I"⟩
abbrev cX2_isOneCell : ByteArray := prog_4_method_5_code
def yX2_isOneCell : MethodName := ⟨RX2, "isOneCell", "(I)Z"⟩
abbrev cX2_noneFollows : ByteArray := prog_4_method_6_code
def yX2_noneFollows : MethodName := ⟨RX2, "noneFollows", "(I)Z"⟩
abbrev cX2_canShrink : ByteArray := prog_4_method_7_code
def yX2_canShrink : MethodName := ⟨RX2, "canShrink", "(III)Z"⟩
abbrev cX2_canGrow : ByteArray := prog_4_method_8_code
def yX2_canGrow : MethodName := ⟨RX2, "canGrow", "(III)Z"⟩
abbrev cX2_columnsOf : ByteArray := prog_4_method_9_code
def yX2_columnsOf : MethodName := ⟨RX2, "columnsOf", "(I)I"⟩
abbrev cX2_rowsOf : ByteArray := prog_4_method_10_code
def yX2_rowsOf : MethodName := ⟨RX2, "rowsOf", "(I)I"⟩
def RX3 : String := "CensusNight$Law"
def TX3 : u_T := fun k => match k with
  | 0 => ("CensusNight$Law", "mostKnocks", "I", false)
  | 1 => ("CensusNight$Law", "knocksAhead", "I", false)
  | 2 => ("CensusNight$Law", "leastCell", "I", false)
  | _ => ("CensusNight$Law", "latestFault", "I", false)
def tyX3 : Nat → FieldType := fun k => match k with
  | 0 => .int
  | 1 => .int
  | 2 => .int
  | _ => .int
abbrev wsX30 : List Cond := u_ws RX3 TX3 4
theorem nmX3 : ∀ a, a < 4 → ∀ b, b < 4 → a ≠ b → (TX3 a).2.1 ≠ (TX3 b).2.1 := by decide +kernel
theorem tyX3_ok : ∀ k, k < 4 → parseFieldDescriptor (TX3 k).2.2.1 = some (tyX3 k) := by decide +kernel
abbrev cX3_init : ByteArray := prog_5_method_1_code
def yX3_init : MethodName := ⟨RX3, "<init>", "()V"⟩
abbrev cX3_read : ByteArray := prog_5_method_2_code
def yX3_read : MethodName := ⟨RX3, "read", "(LCensusNight$Shelf;)Z"⟩
abbrev cX3_firstWrongPlace : ByteArray := prog_5_method_3_code
def yX3_firstWrongPlace : MethodName := ⟨RX3, "firstWrongPlace", "(LCensusNight$Shelf;)I"⟩
abbrev cX3_mayStand : ByteArray := prog_5_method_4_code
def yX3_mayStand : MethodName := ⟨RX3, "mayStand", "(II)Z"⟩
def RX4 : String := "CensusNight$Shelf"
def TX4 : u_T := fun k => match k with
  | 0 => ("CensusNight$Shelf", "elements", "[J", true)
  | 1 => ("CensusNight$Shelf", "sort", "I", false)
  | 2 => ("CensusNight$Shelf", "size", "I", false)
  | _ => ("CensusNight$Shelf", "doorNumber", "I", false)
def tyX4 : Nat → FieldType := fun k => match k with
  | 0 => .array .long
  | 1 => .int
  | 2 => .int
  | _ => .int
abbrev wsX40 : List Cond := u_ws RX4 TX4 4
theorem nmX4 : ∀ a, a < 4 → ∀ b, b < 4 → a ≠ b → (TX4 a).2.1 ≠ (TX4 b).2.1 := by decide +kernel
theorem tyX4_ok : ∀ k, k < 4 → parseFieldDescriptor (TX4 k).2.2.1 = some (tyX4 k) := by decide +kernel
abbrev cX4_init : ByteArray := prog_6_method_1_code
def yX4_init : MethodName := ⟨RX4, "<init>", "()V"⟩
abbrev cX4_isRow : ByteArray := prog_6_method_2_code
def yX4_isRow : MethodName := ⟨RX4, "isRow", "()Z"⟩
abbrev cX4_isDoor : ByteArray := prog_6_method_3_code
def yX4_isDoor : MethodName := ⟨RX4, "isDoor", "()Z"⟩
abbrev cX4_putNothing : ByteArray := prog_6_method_4_code
def yX4_putNothing : MethodName := ⟨RX4, "putNothing", "()V"⟩
abbrev cX4_putDoor : ByteArray := prog_6_method_5_code
def yX4_putDoor : MethodName := ⟨RX4, "putDoor", "(I)V"⟩
abbrev cX4_putRow : ByteArray := prog_6_method_6_code
def yX4_putRow : MethodName := ⟨RX4, "putRow", "(II)V"⟩
abbrev cX4_contents : ByteArray := prog_6_method_7_code
def yX4_contents : MethodName := ⟨RX4, "contents", "()I"⟩
abbrev cX4_fitAsRow : ByteArray := prog_6_method_8_code
def yX4_fitAsRow : MethodName := ⟨RX4, "fitAsRow", "()I"⟩
abbrev cX4_fitAsDoor : ByteArray := prog_6_method_9_code
def yX4_fitAsDoor : MethodName := ⟨RX4, "fitAsDoor", "()I"⟩
abbrev cX4_hasElement : ByteArray := prog_6_method_10_code
def yX4_hasElement : MethodName := ⟨RX4, "hasElement", "(I)Z"⟩
abbrev cX4_hasStretch : ByteArray := prog_6_method_11_code
def yX4_hasStretch : MethodName := ⟨RX4, "hasStretch", "(II)Z"⟩
abbrev cX4_putElement : ByteArray := prog_6_method_12_code
def yX4_putElement : MethodName := ⟨RX4, "putElement", "(IJ)V"⟩
abbrev cX4_lowestBits : ByteArray := prog_6_method_13_code
def yX4_lowestBits : MethodName := ⟨RX4, "lowestBits", "(J)J"⟩
abbrev cX4_elementAsInt : ByteArray := prog_6_method_14_code
def yX4_elementAsInt : MethodName := ⟨RX4, "elementAsInt", "(I)I"⟩
abbrev cX4_elementAsAge : ByteArray := prog_6_method_15_code
def yX4_elementAsAge : MethodName := ⟨RX4, "elementAsAge", "(I)I"⟩
def RX5 : String := "CensusNight$Shifts"
def TX5 : u_T := fun k => match k with
  | 0 => ("CensusNight$Shifts", "work", "[I", true)
  | 1 => ("CensusNight$Shifts", "before", "[I", true)
  | 2 => ("CensusNight$Shifts", "queue", "[I", true)
  | _ => ("CensusNight$Shifts", "open", "I", false)
def tyX5 : Nat → FieldType := fun k => match k with
  | 0 => .array .int
  | 1 => .array .int
  | 2 => .array .int
  | _ => .int
abbrev wsX50 : List Cond := u_ws RX5 TX5 4
theorem nmX5 : ∀ a, a < 4 → ∀ b, b < 4 → a ≠ b → (TX5 a).2.1 ≠ (TX5 b).2.1 := by decide +kernel
theorem tyX5_ok : ∀ k, k < 4 → parseFieldDescriptor (TX5 k).2.2.1 = some (tyX5 k) := by decide +kernel
abbrev cX5_init : ByteArray := prog_7_method_1_code
def yX5_init : MethodName := ⟨RX5, "<init>", "()V"⟩
abbrev cX5_extreme : ByteArray := prog_7_method_2_code
def yX5_extreme : MethodName := ⟨RX5, "extreme", "([IIIZ)I"⟩
abbrev cX5_findWay : ByteArray := prog_7_method_3_code
def yX5_findWay : MethodName := ⟨RX5, "findWay", "(II)Z"⟩
abbrev cX5_canStep : ByteArray := prog_7_method_4_code
def yX5_canStep : MethodName := ⟨RX5, "canStep", "(II)Z"⟩
abbrev cX5_cellOf : ByteArray := prog_7_method_5_code
def yX5_cellOf : MethodName := ⟨RX5, "cellOf", "(II)I"⟩
abbrev cX5_wayRoom : ByteArray := prog_7_method_6_code
def yX5_wayRoom : MethodName := ⟨RX5, "wayRoom", "(II)I"⟩
abbrev cX5_moveAlong : ByteArray := prog_7_method_7_code
def yX5_moveAlong : MethodName := ⟨RX5, "moveAlong", "(III)V"⟩
def RX6 : String := "CensusNight$Table"
def TX6 : u_T := fun k => match k with
  | 0 => ("CensusNight$Table", "drafted", "[I", true)
  | 1 => ("CensusNight$Table", "cells", "[I", true)
  | 2 => ("CensusNight$Table", "hiding", "LCensusNight$Hiding;", true)
  | 3 => ("CensusNight$Table", "shifts", "LCensusNight$Shifts;", true)
  | 4 => ("CensusNight$Table", "hidden", "I", false)
  | _ => ("CensusNight$Table", "made", "Z", false)
def tyX6 : Nat → FieldType := fun k => match k with
  | 0 => .array .int
  | 1 => .array .int
  | 2 => .object "CensusNight$Hiding"
  | 3 => .object "CensusNight$Shifts"
  | 4 => .int
  | _ => .boolean
abbrev wsX60 : List Cond := u_ws RX6 TX6 6
theorem nmX6 : ∀ a, a < 6 → ∀ b, b < 6 → a ≠ b → (TX6 a).2.1 ≠ (TX6 b).2.1 := by decide +kernel
theorem tyX6_ok : ∀ k, k < 6 → parseFieldDescriptor (TX6 k).2.2.1 = some (tyX6 k) := by decide +kernel
abbrev cX6_init : ByteArray := prog_8_method_1_code
def yX6_init : MethodName := ⟨RX6, "<init>", "()V"⟩
abbrev cX6_draft : ByteArray := prog_8_method_2_code
def yX6_draft : MethodName := ⟨RX6, "draft", "(III)V"⟩
abbrev cX6_make : ByteArray := prog_8_method_3_code
def yX6_make : MethodName := ⟨RX6, "make", "(I)Z"⟩
abbrev cX6_hiddenCells : ByteArray := prog_8_method_4_code
def yX6_hiddenCells : MethodName := ⟨RX6, "hiddenCells", "()I"⟩
abbrev cX6_tell : ByteArray := prog_8_method_5_code
def yX6_tell : MethodName := ⟨RX6, "tell", "(II)I"⟩
abbrev cX6_extreme : ByteArray := prog_8_method_6_code
def yX6_extreme : MethodName := ⟨RX6, "extreme", "(IIZ)I"⟩
abbrev cX6_sum : ByteArray := prog_8_method_7_code
def yX6_sum : MethodName := ⟨RX6, "sum", "(II)I"⟩
abbrev cX6_isHidden : ByteArray := prog_8_method_8_code
def yX6_isHidden : MethodName := ⟨RX6, "isHidden", "(II)Z"⟩
abbrev cX6_isCell : ByteArray := prog_8_method_9_code
def yX6_isCell : MethodName := ⟨RX6, "isCell", "(II)Z"⟩
def RX7 : String := "CensusNight$Walks"
def TX7 : u_T := fun k => match k with
  | 0 => ("CensusNight$Walks", "nearBlocks", "[I", true)
  | 1 => ("CensusNight$Walks", "work", "[I", true)
  | 2 => ("CensusNight$Walks", "latest", "[I", true)
  | 3 => ("CensusNight$Walks", "members", "[I", true)
  | 4 => ("CensusNight$Walks", "trial", "[I", true)
  | 5 => ("CensusNight$Walks", "best", "[I", true)
  | 6 => ("CensusNight$Walks", "present", "I", false)
  | 7 => ("CensusNight$Walks", "most", "I", false)
  | 8 => ("CensusNight$Walks", "bestParts", "I", false)
  | _ => ("CensusNight$Walks", "bestGreatest", "I", false)
def tyX7 : Nat → FieldType := fun k => match k with
  | 0 => .array .int
  | 1 => .array .int
  | 2 => .array .int
  | 3 => .array .int
  | 4 => .array .int
  | 5 => .array .int
  | 6 => .int
  | 7 => .int
  | 8 => .int
  | _ => .int
abbrev wsX70 : List Cond := u_ws RX7 TX7 10
theorem nmX7 : ∀ a, a < 10 → ∀ b, b < 10 → a ≠ b → (TX7 a).2.1 ≠ (TX7 b).2.1 := by decide +kernel
theorem tyX7_ok : ∀ k, k < 10 → parseFieldDescriptor (TX7 k).2.2.1 = some (tyX7 k) := by decide +kernel
abbrev cX7_init : ByteArray := prog_9_method_1_code
def yX7_init : MethodName := ⟨RX7, "<init>", "()V"⟩
abbrev cX7_join : ByteArray := prog_9_method_2_code
def yX7_join : MethodName := ⟨RX7, "join", "(II)Z"⟩
abbrev cX7_numberOf : ByteArray := prog_9_method_3_code
def yX7_numberOf : MethodName := ⟨RX7, "numberOf", "(I)I"⟩
abbrev cX7_clearWork : ByteArray := prog_9_method_4_code
def yX7_clearWork : MethodName := ⟨RX7, "clearWork", "()V"⟩
abbrev cX7_addDoor : ByteArray := prog_9_method_5_code
def yX7_addDoor : MethodName := ⟨RX7, "addDoor", "(IZ)V"⟩
abbrev cX7_part : ByteArray := prog_9_method_6_code
def yX7_part : MethodName := ⟨RX7, "part", "(I)I"⟩
abbrev cX7_place : ByteArray := prog_9_method_7_code
def yX7_place : MethodName := ⟨RX7, "place", "(LCensusNight$Walks;II)V"⟩
abbrev cX7_judge : ByteArray := prog_9_method_8_code
def yX7_judge : MethodName := ⟨RX7, "judge", "(I)V"⟩
abbrev cX7_workOf : ByteArray := prog_9_method_9_code
def yX7_workOf : MethodName := ⟨RX7, "workOf", "(I)I"⟩
abbrev cX7_allTogether : ByteArray := prog_9_method_10_code
def yX7_allTogether : MethodName := ⟨RX7, "allTogether", "(I)Z"⟩
abbrev cX7_isTogether : ByteArray := prog_9_method_11_code
def yX7_isTogether : MethodName := ⟨RX7, "isTogether", "(I)Z"⟩
abbrev cX7_nearOnes : ByteArray := prog_9_method_12_code
def yX7_nearOnes : MethodName := ⟨RX7, "nearOnes", "(I)I"⟩
def RX8 : String := "CensusNight"
def TX8 : u_T := fun k => match k with
  | 0 => ("CensusNight", "shelves", "[LCensusNight$Shelf;", true)
  | 1 => ("CensusNight", "doors", "[LCensusNight$Door;", true)
  | 2 => ("CensusNight", "refusals", "[I", true)
  | 3 => ("CensusNight", "theLaw", "LCensusNight$Law;", true)
  | 4 => ("CensusNight", "chances", "LCensusNight$Chances;", true)
  | 5 => ("CensusNight", "walks", "LCensusNight$Walks;", true)
  | 6 => ("CensusNight", "theTable", "LCensusNight$Table;", true)
  | 7 => ("CensusNight", "doorCount", "I", false)
  | 8 => ("CensusNight", "secondBlocks", "I", false)
  | _ => ("CensusNight", "closed", "Z", false)
def tyX8 : Nat → FieldType := fun k => match k with
  | 0 => .array (.object "CensusNight$Shelf")
  | 1 => .array (.object "CensusNight$Door")
  | 2 => .array .int
  | 3 => .object "CensusNight$Law"
  | 4 => .object "CensusNight$Chances"
  | 5 => .object "CensusNight$Walks"
  | 6 => .object "CensusNight$Table"
  | 7 => .int
  | 8 => .int
  | _ => .boolean
abbrev wsX80 : List Cond := u_ws RX8 TX8 10
theorem nmX8 : ∀ a, a < 10 → ∀ b, b < 10 → a ≠ b → (TX8 a).2.1 ≠ (TX8 b).2.1 := by decide +kernel
theorem tyX8_ok : ∀ k, k < 10 → parseFieldDescriptor (TX8 k).2.2.1 = some (tyX8 k) := by decide +kernel
abbrev cX8_init : ByteArray := prog_1_method_1_code
def yX8_init : MethodName := ⟨RX8, "<init>", "()V"⟩
abbrev cX8_door : ByteArray := prog_1_method_2_code
def yX8_door : MethodName := ⟨RX8, "door", "(III)I"⟩
abbrev cX8_near : ByteArray := prog_1_method_3_code
def yX8_near : MethodName := ⟨RX8, "near", "(II)I"⟩
abbrev cX8_row : ByteArray := prog_1_method_4_code
def yX8_row : MethodName := ⟨RX8, "row", "(III)I"⟩
abbrev cX8_set : ByteArray := prog_1_method_5_code
def yX8_set : MethodName := ⟨RX8, "set", "(IIJ)I"⟩
abbrev cX8_copy : ByteArray := prog_1_method_6_code
def yX8_copy : MethodName := ⟨RX8, "copy", "(IIIII)I"⟩
abbrev cX8_element : ByteArray := prog_1_method_7_code
def yX8_element : MethodName := ⟨RX8, "element", "(II)J"⟩
abbrev cX8_show : ByteArray := prog_1_method_8_code
def yX8_show : MethodName := ⟨RX8, "show", "(II)I"⟩
abbrev cX8_holds : ByteArray := prog_1_method_9_code
def yX8_holds : MethodName := ⟨RX8, "holds", "(I)I"⟩
abbrev cX8_blockIn : ByteArray := prog_1_method_10_code
def yX8_blockIn : MethodName := ⟨RX8, "blockIn", "(I)I"⟩
abbrev cX8_law : ByteArray := prog_1_method_11_code
def yX8_law : MethodName := ⟨RX8, "law", "(I)I"⟩
abbrev cX8_fault : ByteArray := prog_1_method_12_code
def yX8_fault : MethodName := ⟨RX8, "fault", "()I"⟩
abbrev cX8_truth : ByteArray := prog_1_method_13_code
def yX8_truth : MethodName := ⟨RX8, "truth", "(II)I"⟩
abbrev cX8_paper : ByteArray := prog_1_method_14_code
def yX8_paper : MethodName := ⟨RX8, "paper", "(I)I"⟩
abbrev cX8_knock : ByteArray := prog_1_method_15_code
def yX8_knock : MethodName := ⟨RX8, "knock", "(II)I"⟩
abbrev cX8_proxy : ByteArray := prog_1_method_16_code
def yX8_proxy : MethodName := ⟨RX8, "proxy", "(II)I"⟩
abbrev cX8_twice : ByteArray := prog_1_method_17_code
def yX8_twice : MethodName := ⟨RX8, "twice", "(IIII)I"⟩
abbrev cX8_fill : ByteArray := prog_1_method_18_code
def yX8_fill : MethodName := ⟨RX8, "fill", "()I"⟩
abbrev cX8_from : ByteArray := prog_1_method_19_code
def yX8_from : MethodName := ⟨RX8, "from", "(I)I"⟩
abbrev cX8_about : ByteArray := prog_1_method_20_code
def yX8_about : MethodName := ⟨RX8, "about", "(II)I"⟩
abbrev cX8_age : ByteArray := prog_1_method_21_code
def yX8_age : MethodName := ⟨RX8, "age", "(II)I"⟩
abbrev cX8_count : ByteArray := prog_1_method_22_code
def yX8_count : MethodName := ⟨RX8, "count", "(IIZ)I"⟩
abbrev cX8_bestHour : ByteArray := prog_1_method_23_code
def yX8_bestHour : MethodName := ⟨RX8, "bestHour", "(I)I"⟩
abbrev cX8_cut : ByteArray := prog_1_method_24_code
def yX8_cut : MethodName := ⟨RX8, "cut", "(I)I"⟩
abbrev cX8_walk : ByteArray := prog_1_method_25_code
def yX8_walk : MethodName := ⟨RX8, "walk", "(I)I"⟩
abbrev cX8_second : ByteArray := prog_1_method_26_code
def yX8_second : MethodName := ⟨RX8, "second", "(II)I"⟩
abbrev cX8_right : ByteArray := prog_1_method_27_code
def yX8_right : MethodName := ⟨RX8, "right", "(Z)J"⟩
abbrev cX8_heap : ByteArray := prog_1_method_28_code
def yX8_heap : MethodName := ⟨RX8, "heap", "()I"⟩
abbrev cX8_table : ByteArray := prog_1_method_29_code
def yX8_table : MethodName := ⟨RX8, "table", "()I"⟩
abbrev cX8_told : ByteArray := prog_1_method_30_code
def yX8_told : MethodName := ⟨RX8, "told", "(II)I"⟩
abbrev cX8_could : ByteArray := prog_1_method_31_code
def yX8_could : MethodName := ⟨RX8, "could", "(IIZ)I"⟩
abbrev cX8_status : ByteArray := prog_1_method_32_code
def yX8_status : MethodName := ⟨RX8, "status", "(I)I"⟩
abbrev cX8_refuse : ByteArray := prog_1_method_33_code
def yX8_refuse : MethodName := ⟨RX8, "refuse", "(I)I"⟩
abbrev cX8_isBlock : ByteArray := prog_1_method_34_code
def yX8_isBlock : MethodName := ⟨RX8, "isBlock", "(I)Z"⟩
abbrev cX8_isLike : ByteArray := prog_1_method_35_code
def yX8_isLike : MethodName := ⟨RX8, "isLike", "(I)Z"⟩
abbrev cX8_isShelf : ByteArray := prog_1_method_36_code
def yX8_isShelf : MethodName := ⟨RX8, "isShelf", "(I)Z"⟩
abbrev cX8_isDoor : ByteArray := prog_1_method_37_code
def yX8_isDoor : MethodName := ⟨RX8, "isDoor", "(I)Z"⟩
abbrev cX8_doorAt : ByteArray := prog_1_method_38_code
def yX8_doorAt : MethodName := ⟨RX8, "doorAt", "(I)LCensusNight$Door;"⟩
abbrev cX8_fillDoor : ByteArray := prog_1_method_39_code
def yX8_fillDoor : MethodName := ⟨RX8, "fillDoor", "(I)Z"⟩
abbrev cX8_doorsOf : ByteArray := prog_1_method_40_code
def yX8_doorsOf : MethodName := ⟨RX8, "doorsOf", "(I)I"⟩
abbrev cX8_keepSecond : ByteArray := prog_1_method_41_code
def yX8_keepSecond : MethodName := ⟨RX8, "keepSecond", "(ILCensusNight$Shelf;)I"⟩
abbrev cX8_doorsWith : ByteArray := prog_1_method_42_code
def yX8_doorsWith : MethodName := ⟨RX8, "doorsWith", "(I)I"⟩
abbrev cX8_doorsToBeAsked : ByteArray := prog_1_method_43_code
def yX8_doorsToBeAsked : MethodName := ⟨RX8, "doorsToBeAsked", "()I"⟩
abbrev cX8_countedHeads : ByteArray := prog_1_method_44_code
def yX8_countedHeads : MethodName := ⟨RX8, "countedHeads", "()I"⟩
abbrev cX8_struckHeads : ByteArray := prog_1_method_45_code
def yX8_struckHeads : MethodName := ⟨RX8, "struckHeads", "()I"⟩
abbrev cX8_commonDivisor : ByteArray := prog_1_method_46_code
def yX8_commonDivisor : MethodName := ⟨RX8, "commonDivisor", "(JJ)J"⟩
def RX9 : String := "CensusNightModel"
def TX9 : u_T := fun k => match k with
  | 0 => ("CensusNightModel", "block", "[I", true)
  | 1 => ("CensusNightModel", "like", "[I", true)
  | 2 => ("CensusNightModel", "hours", "[I", true)
  | 3 => ("CensusNightModel", "truthSize", "[I", true)
  | 4 => ("CensusNightModel", "truthAge", "[I", true)
  | 5 => ("CensusNightModel", "returned", "[I", true)
  | 6 => ("CensusNightModel", "many", "[I", true)
  | 7 => ("CensusNightModel", "age", "[I", true)
  | 8 => ("CensusNightModel", "knocks", "[I", true)
  | 9 => ("CensusNightModel", "used", "[I", true)
  | 10 => ("CensusNightModel", "from", "[I", true)
  | 11 => ("CensusNightModel", "second", "[I", true)
  | 12 => ("CensusNightModel", "isBroken", "[Z", true)
  | 13 => ("CensusNightModel", "isStruck", "[Z", true)
  | 14 => ("CensusNightModel", "isNear", "[Z", true)
  | 15 => ("CensusNightModel", "hasSecond", "[Z", true)
  | 16 => ("CensusNightModel", "isSecond", "[Z", true)
  | 17 => ("CensusNightModel", "doors", "I", false)
  | 18 => ("CensusNightModel", "mostKnocks", "I", false)
  | 19 => ("CensusNightModel", "knocksAhead", "I", false)
  | 20 => ("CensusNightModel", "leastCell", "I", false)
  | 21 => ("CensusNightModel", "fault", "I", false)
  | 22 => ("CensusNightModel", "isClosed", "Z", false)
  | 23 => ("CensusNightModel", "asked", "[I", true)
  | 24 => ("CensusNightModel", "answered", "[I", true)
  | 25 => ("CensusNightModel", "refused", "[I", true)
  | 26 => ("CensusNightModel", "held", "[I", true)
  | 27 => ("CensusNightModel", "heldAs", "[I", true)
  | 28 => ("CensusNightModel", "size", "[I", true)
  | 29 => ("CensusNightModel", "cell", "[J", true)
  | 30 => ("CensusNightModel", "moved", "[J", true)
  | 31 => ("CensusNightModel", "walker", "[I", true)
  | 32 => ("CensusNightModel", "walk", "[I", true)
  | 33 => ("CensusNightModel", "bestWalk", "[I", true)
  | 34 => ("CensusNightModel", "walkOf", "[I", true)
  | 35 => ("CensusNightModel", "work", "[I", true)
  | 36 => ("CensusNightModel", "walkers", "I", false)
  | 37 => ("CensusNightModel", "made", "[I", true)
  | 38 => ("CensusNightModel", "tried", "[I", true)
  | 39 => ("CensusNightModel", "moving", "[I", true)
  | 40 => ("CensusNightModel", "isHidden", "[Z", true)
  | 41 => ("CensusNightModel", "isTried", "[Z", true)
  | 42 => ("CensusNightModel", "hasTable", "Z", false)
  | 43 => ("CensusNightModel", "whence", "[I", true)
  | 44 => ("CensusNightModel", "queue", "[I", true)
  | _ => ("CensusNightModel", "other", "[I", true)
def tyX9 : Nat → FieldType := fun k => match k with
  | 0 => .array .int
  | 1 => .array .int
  | 2 => .array .int
  | 3 => .array .int
  | 4 => .array .int
  | 5 => .array .int
  | 6 => .array .int
  | 7 => .array .int
  | 8 => .array .int
  | 9 => .array .int
  | 10 => .array .int
  | 11 => .array .int
  | 12 => .array .boolean
  | 13 => .array .boolean
  | 14 => .array .boolean
  | 15 => .array .boolean
  | 16 => .array .boolean
  | 17 => .int
  | 18 => .int
  | 19 => .int
  | 20 => .int
  | 21 => .int
  | 22 => .boolean
  | 23 => .array .int
  | 24 => .array .int
  | 25 => .array .int
  | 26 => .array .int
  | 27 => .array .int
  | 28 => .array .int
  | 29 => .array .long
  | 30 => .array .long
  | 31 => .array .int
  | 32 => .array .int
  | 33 => .array .int
  | 34 => .array .int
  | 35 => .array .int
  | 36 => .int
  | 37 => .array .int
  | 38 => .array .int
  | 39 => .array .int
  | 40 => .array .boolean
  | 41 => .array .boolean
  | 42 => .boolean
  | 43 => .array .int
  | 44 => .array .int
  | _ => .array .int
abbrev wsX90 : List Cond := u_ws RX9 TX9 46
theorem nmX9 : ∀ a, a < 46 → ∀ b, b < 46 → a ≠ b → (TX9 a).2.1 ≠ (TX9 b).2.1 := by decide +kernel
theorem tyX9_ok : ∀ k, k < 46 → parseFieldDescriptor (TX9 k).2.2.1 = some (tyX9 k) := by decide +kernel
abbrev cX9_init : ByteArray := prog_11_method_1_code
def yX9_init : MethodName := ⟨RX9, "<init>", "()V"⟩
abbrev cX9_isIn : ByteArray := prog_11_method_2_code
def yX9_isIn : MethodName := ⟨RX9, "isIn", "(JJJ)Z"⟩
abbrev cX9_no : ByteArray := prog_11_method_3_code
def yX9_no : MethodName := ⟨RX9, "no", "(I)I"⟩
abbrev cX9_isBlock : ByteArray := prog_11_method_4_code
def yX9_isBlock : MethodName := ⟨RX9, "isBlock", "(I)Z"⟩
abbrev cX9_isDoor : ByteArray := prog_11_method_5_code
def yX9_isDoor : MethodName := ⟨RX9, "isDoor", "(I)Z"⟩
abbrev cX9_isShelf : ByteArray := prog_11_method_6_code
def yX9_isShelf : MethodName := ⟨RX9, "isShelf", "(I)Z"⟩
abbrev cX9_lesser : ByteArray := prog_11_method_7_code
def yX9_lesser : MethodName := ⟨RX9, "lesser", "(II)I"⟩
abbrev cX9_door : ByteArray := prog_11_method_8_code
def yX9_door : MethodName := ⟨RX9, "door", "(III)I"⟩
abbrev cX9_near : ByteArray := prog_11_method_9_code
def yX9_near : MethodName := ⟨RX9, "near", "(II)I"⟩
abbrev cX9_fit : ByteArray := prog_11_method_10_code
def yX9_fit : MethodName := ⟨RX9, "fit", "(IJ)J"⟩
abbrev cX9_row : ByteArray := prog_11_method_11_code
def yX9_row : MethodName := ⟨RX9, "row", "(III)I"⟩
abbrev cX9_notRow : ByteArray := prog_11_method_12_code
def yX9_notRow : MethodName := ⟨RX9, "notRow", "(I)I"⟩
abbrev cX9_set : ByteArray := prog_11_method_13_code
def yX9_set : MethodName := ⟨RX9, "set", "(IIJ)I"⟩
abbrev cX9_copy : ByteArray := prog_11_method_14_code
def yX9_copy : MethodName := ⟨RX9, "copy", "(IIIII)I"⟩
abbrev cX9_element : ByteArray := prog_11_method_15_code
def yX9_element : MethodName := ⟨RX9, "element", "(II)J"⟩
abbrev cX9_show : ByteArray := prog_11_method_16_code
def yX9_show : MethodName := ⟨RX9, "show", "(II)I"⟩
abbrev cX9_holds : ByteArray := prog_11_method_17_code
def yX9_holds : MethodName := ⟨RX9, "holds", "(I)I"⟩
abbrev cX9_blockIn : ByteArray := prog_11_method_18_code
def yX9_blockIn : MethodName := ⟨RX9, "blockIn", "(I)I"⟩
abbrev cX9_letter : ByteArray := prog_11_method_19_code
def yX9_letter : MethodName := ⟨RX9, "letter", "(II)I"⟩
abbrev cX9_broken : ByteArray := prog_11_method_20_code
def yX9_broken : MethodName := ⟨RX9, "broken", "(I)I"⟩
abbrev cX9_law : ByteArray := prog_11_method_21_code
def yX9_law : MethodName := ⟨RX9, "law", "(I)I"⟩
abbrev cX9_fault : ByteArray := prog_11_method_22_code
def yX9_fault : MethodName := ⟨RX9, "fault", "()I"⟩
abbrev cX9_isLeast : ByteArray := prog_11_method_23_code
def yX9_isLeast : MethodName := ⟨RX9, "isLeast", "(IJ)Z"⟩
abbrev cX9_truth : ByteArray := prog_11_method_24_code
def yX9_truth : MethodName := ⟨RX9, "truth", "(II)I"⟩
abbrev cX9_isToBeAsked : ByteArray := prog_11_method_25_code
def yX9_isToBeAsked : MethodName := ⟨RX9, "isToBeAsked", "(I)Z"⟩
abbrev cX9_returns : ByteArray := prog_11_method_26_code
def yX9_returns : MethodName := ⟨RX9, "returns", "(III)V"⟩
abbrev cX9_paper : ByteArray := prog_11_method_27_code
def yX9_paper : MethodName := ⟨RX9, "paper", "(I)I"⟩
abbrev cX9_knock : ByteArray := prog_11_method_28_code
def yX9_knock : MethodName := ⟨RX9, "knock", "(II)I"⟩
abbrev cX9_proxy : ByteArray := prog_11_method_29_code
def yX9_proxy : MethodName := ⟨RX9, "proxy", "(II)I"⟩
abbrev cX9_isHead : ByteArray := prog_11_method_30_code
def yX9_isHead : MethodName := ⟨RX9, "isHead", "(II)Z"⟩
abbrev cX9_twice : ByteArray := prog_11_method_31_code
def yX9_twice : MethodName := ⟨RX9, "twice", "(IIII)I"⟩
abbrev cX9_donor : ByteArray := prog_11_method_32_code
def yX9_donor : MethodName := ⟨RX9, "donor", "(I)I"⟩
abbrev cX9_fill : ByteArray := prog_11_method_33_code
def yX9_fill : MethodName := ⟨RX9, "fill", "()I"⟩
abbrev cX9_from : ByteArray := prog_11_method_34_code
def yX9_from : MethodName := ⟨RX9, "from", "(I)I"⟩
abbrev cX9_struckAt : ByteArray := prog_11_method_35_code
def yX9_struckAt : MethodName := ⟨RX9, "struckAt", "(I)I"⟩
abbrev cX9_about : ByteArray := prog_11_method_36_code
def yX9_about : MethodName := ⟨RX9, "about", "(II)I"⟩
abbrev cX9_age : ByteArray := prog_11_method_37_code
def yX9_age : MethodName := ⟨RX9, "age", "(II)I"⟩
abbrev cX9_bandOf : ByteArray := prog_11_method_38_code
def yX9_bandOf : MethodName := ⟨RX9, "bandOf", "(I)I"⟩
abbrev cX9_counted : ByteArray := prog_11_method_39_code
def yX9_counted : MethodName := ⟨RX9, "counted", "(IIZ)I"⟩
abbrev cX9_count : ByteArray := prog_11_method_40_code
def yX9_count : MethodName := ⟨RX9, "count", "(IIZ)I"⟩
abbrev cX9_bestHour : ByteArray := prog_11_method_41_code
def yX9_bestHour : MethodName := ⟨RX9, "bestHour", "(I)I"⟩
abbrev cX9_hangs : ByteArray := prog_11_method_42_code
def yX9_hangs : MethodName := ⟨RX9, "hangs", "(I)Z"⟩
abbrev cX9_greatestWork : ByteArray := prog_11_method_43_code
def yX9_greatestWork : MethodName := ⟨RX9, "greatestWork", "(II)I"⟩
abbrev cX9_walksUpTo : ByteArray := prog_11_method_44_code
def yX9_walksUpTo : MethodName := ⟨RX9, "walksUpTo", "(I)I"⟩
abbrev cX9_nextWalks : ByteArray := prog_11_method_45_code
def yX9_nextWalks : MethodName := ⟨RX9, "nextWalks", "()Z"⟩
abbrev cX9_cut : ByteArray := prog_11_method_46_code
def yX9_cut : MethodName := ⟨RX9, "cut", "(I)I"⟩
abbrev cX9_walk : ByteArray := prog_11_method_47_code
def yX9_walk : MethodName := ⟨RX9, "walk", "(I)I"⟩
abbrev cX9_second : ByteArray := prog_11_method_48_code
def yX9_second : MethodName := ⟨RX9, "second", "(II)I"⟩
abbrev cX9_countedAll : ByteArray := prog_11_method_49_code
def yX9_countedAll : MethodName := ⟨RX9, "countedAll", "()I"⟩
abbrev cX9_divisor : ByteArray := prog_11_method_50_code
def yX9_divisor : MethodName := ⟨RX9, "divisor", "(JJ)J"⟩
abbrev cX9_right : ByteArray := prog_11_method_51_code
def yX9_right : MethodName := ⟨RX9, "right", "(Z)J"⟩
abbrev cX9_heap : ByteArray := prog_11_method_52_code
def yX9_heap : MethodName := ⟨RX9, "heap", "()I"⟩
abbrev cX9_finds : ByteArray := prog_11_method_53_code
def yX9_finds : MethodName := ⟨RX9, "finds", "(III[Z[I)Z"⟩
abbrev cX9_canRise : ByteArray := prog_11_method_54_code
def yX9_canRise : MethodName := ⟨RX9, "canRise", "(I[Z[I)Z"⟩
abbrev cX9_canFall : ByteArray := prog_11_method_55_code
def yX9_canFall : MethodName := ⟨RX9, "canFall", "(I[Z[I)Z"⟩
abbrev cX9_isSmall : ByteArray := prog_11_method_56_code
def yX9_isSmall : MethodName := ⟨RX9, "isSmall", "(I)Z"⟩
abbrev cX9_isSafe : ByteArray := prog_11_method_57_code
def yX9_isSafe : MethodName := ⟨RX9, "isSafe", "()Z"⟩
abbrev cX9_hides : ByteArray := prog_11_method_58_code
def yX9_hides : MethodName := ⟨RX9, "hides", "(I)V"⟩
abbrev cX9_areOthers : ByteArray := prog_11_method_59_code
def yX9_areOthers : MethodName := ⟨RX9, "areOthers", "(I)Z"⟩
abbrev cX9_nextOthers : ByteArray := prog_11_method_60_code
def yX9_nextOthers : MethodName := ⟨RX9, "nextOthers", "(I)Z"⟩
abbrev cX9_findOthers : ByteArray := prog_11_method_61_code
def yX9_findOthers : MethodName := ⟨RX9, "findOthers", "(I)Z"⟩
abbrev cX9_table : ByteArray := prog_11_method_62_code
def yX9_table : MethodName := ⟨RX9, "table", "()I"⟩
abbrev cX9_told : ByteArray := prog_11_method_63_code
def yX9_told : MethodName := ⟨RX9, "told", "(II)I"⟩
abbrev cX9_moves : ByteArray := prog_11_method_64_code
def yX9_moves : MethodName := ⟨RX9, "moves", "(IZ)V"⟩
abbrev cX9_could : ByteArray := prog_11_method_65_code
def yX9_could : MethodName := ⟨RX9, "could", "(IIZ)I"⟩
abbrev cX9_status : ByteArray := prog_11_method_66_code
def yX9_status : MethodName := ⟨RX9, "status", "(I)I"⟩
def RJ6 : String := "java/lang/Integer"
def TJ6 : u_T := fun k => match k with
  | _ => ("", "", "", false)
def tyJ6 : Nat → FieldType := fun k => match k with
  | _ => .int
abbrev wsJ60 : List Cond := u_ws RJ6 TJ6 0
theorem nmJ6 : ∀ a, a < 0 → ∀ b, b < 0 → a ≠ b → (TJ6 a).2.1 ≠ (TJ6 b).2.1 := by decide +kernel
theorem tyJ6_ok : ∀ k, k < 0 → parseFieldDescriptor (TJ6 k).2.2.1 = some (tyJ6 k) := by decide +kernel
abbrev cJ6_bitCount_0f7a4 : ByteArray := prog_12_method_49_code
def yJ6_bitCount_0f7a4 : MethodName := ⟨RJ6, "bitCount", "(I)I"⟩
def RJ9 : String := "java/lang/Math"
def TJ9 : u_T := fun k => match k with
  | _ => ("", "", "", false)
def tyJ9 : Nat → FieldType := fun k => match k with
  | _ => .int
abbrev wsJ90 : List Cond := u_ws RJ9 TJ9 0
theorem nmJ9 : ∀ a, a < 0 → ∀ b, b < 0 → a ≠ b → (TJ9 a).2.1 ≠ (TJ9 b).2.1 := by decide +kernel
theorem tyJ9_ok : ∀ k, k < 0 → parseFieldDescriptor (TJ9 k).2.2.1 = some (tyJ9 k) := by decide +kernel
abbrev cJ9_abs_0f7a4 : ByteArray := prog_13_method_59_code
def yJ9_abs_0f7a4 : MethodName := ⟨RJ9, "abs", "(I)I"⟩
abbrev cJ9_max_7cf53 : ByteArray := prog_13_method_65_code
def yJ9_max_7cf53 : MethodName := ⟨RJ9, "max", "(II)I"⟩
abbrev cJ9_min_7cf53 : ByteArray := prog_13_method_69_code
def yJ9_min_7cf53 : MethodName := ⟨RJ9, "min", "(II)I"⟩
def RJ0 : String := "java/lang/String"
def TJ0 : u_T := fun k => match k with
  | _ => ("", "", "", false)
def tyJ0 : Nat → FieldType := fun k => match k with
  | _ => .int
abbrev wsJ00 : List Cond := u_ws RJ0 TJ0 0
theorem nmJ0 : ∀ a, a < 0 → ∀ b, b < 0 → a ≠ b → (TJ0 a).2.1 ≠ (TJ0 b).2.1 := by decide +kernel
theorem tyJ0_ok : ∀ k, k < 0 → parseFieldDescriptor (TJ0 k).2.2.1 = some (tyJ0 k) := by decide +kernel
abbrev cJ0_charAt_5068e : ByteArray := prog_14_method_56_code
def yJ0_charAt_5068e : MethodName := ⟨RJ0, "charAt", "(I)C"⟩
abbrev cJ0_isLatin1_aae02 : ByteArray := prog_14_method_154_code
def yJ0_isLatin1_aae02 : MethodName := ⟨RJ0, "isLatin1", "()Z"⟩
abbrev cJ0_checkIndex_df160 : ByteArray := prog_14_method_155_code
def yJ0_checkIndex_df160 : MethodName := ⟨RJ0, "checkIndex", "(II)V"⟩
def RJ1 : String := "java/lang/StringLatin1"
def TJ1 : u_T := fun k => match k with
  | _ => ("", "", "", false)
def tyJ1 : Nat → FieldType := fun k => match k with
  | _ => .int
abbrev wsJ10 : List Cond := u_ws RJ1 TJ1 0
theorem nmJ1 : ∀ a, a < 0 → ∀ b, b < 0 → a ≠ b → (TJ1 a).2.1 ≠ (TJ1 b).2.1 := by decide +kernel
theorem tyJ1_ok : ∀ k, k < 0 → parseFieldDescriptor (TJ1 k).2.2.1 = some (tyJ1 k) := by decide +kernel
abbrev cJ1_charAt_3b067 : ByteArray := prog_15_method_2_code
def yJ1_charAt_3b067 : MethodName := ⟨RJ1, "charAt", "([BI)C"⟩
def RJ2 : String := "java/lang/StringUTF16"
def TJ2 : u_T := fun k => match k with
  | _ => ("", "", "", false)
def tyJ2 : Nat → FieldType := fun k => match k with
  | _ => .int
abbrev wsJ20 : List Cond := u_ws RJ2 TJ2 0
theorem nmJ2 : ∀ a, a < 0 → ∀ b, b < 0 → a ≠ b → (TJ2 a).2.1 ≠ (TJ2 b).2.1 := by decide +kernel
theorem tyJ2_ok : ∀ k, k < 0 → parseFieldDescriptor (TJ2 k).2.2.1 = some (tyJ2 k) := by decide +kernel
abbrev cJ2_getChar_3b067 : ByteArray := prog_16_method_5_code
def yJ2_getChar_3b067 : MethodName := ⟨RJ2, "getChar", "([BI)C"⟩
abbrev cJ2_length_9d52b : ByteArray := prog_16_method_6_code
def yJ2_length_9d52b : MethodName := ⟨RJ2, "length", "([B)I"⟩
abbrev cJ2_charAt_3b067 : ByteArray := prog_16_method_83_code
def yJ2_charAt_3b067 : MethodName := ⟨RJ2, "charAt", "([BI)C"⟩
abbrev cJ2_checkIndex_2214a : ByteArray := prog_16_method_91_code
def yJ2_checkIndex_2214a : MethodName := ⟨RJ2, "checkIndex", "(I[B)V"⟩
def RJ10 : String := "java/lang/System"
def TJ10 : u_T := fun k => match k with
  | _ => ("", "", "", false)
def tyJ10 : Nat → FieldType := fun k => match k with
  | _ => .int
abbrev wsJ100 : List Cond := u_ws RJ10 TJ10 0
theorem nmJ10 : ∀ a, a < 0 → ∀ b, b < 0 → a ≠ b → (TJ10 a).2.1 ≠ (TJ10 b).2.1 := by decide +kernel
theorem tyJ10_ok : ∀ k, k < 0 → parseFieldDescriptor (TJ10 k).2.2.1 = some (tyJ10 k) := by decide +kernel
def RJ7 : String := "java/util/Arrays"
def TJ7 : u_T := fun k => match k with
  | _ => ("", "", "", false)
def tyJ7 : Nat → FieldType := fun k => match k with
  | _ => .int
abbrev wsJ70 : List Cond := u_ws RJ7 TJ7 0
theorem nmJ7 : ∀ a, a < 0 → ∀ b, b < 0 → a ≠ b → (TJ7 a).2.1 ≠ (TJ7 b).2.1 := by decide +kernel
theorem tyJ7_ok : ∀ k, k < 0 → parseFieldDescriptor (TJ7 k).2.2.1 = some (tyJ7 k) := by decide +kernel
abbrev cJ7_fill_d0a16 : ByteArray := prog_18_method_101_code
def yJ7_fill_d0a16 : MethodName := ⟨RJ7, "fill", "([JJ)V"⟩
abbrev cJ7_fill_53178 : ByteArray := prog_18_method_103_code
def yJ7_fill_53178 : MethodName := ⟨RJ7, "fill", "([II)V"⟩
def RJ3 : String := "jdk/internal/util/Preconditions"
def TJ3 : u_T := fun k => match k with
  | _ => ("", "", "", false)
def tyJ3 : Nat → FieldType := fun k => match k with
  | _ => .int
abbrev wsJ30 : List Cond := u_ws RJ3 TJ3 0
theorem nmJ3 : ∀ a, a < 0 → ∀ b, b < 0 → a ≠ b → (TJ3 a).2.1 ≠ (TJ3 b).2.1 := by decide +kernel
theorem tyJ3_ok : ∀ k, k < 0 → parseFieldDescriptor (TJ3 k).2.2.1 = some (tyJ3 k) := by decide +kernel
abbrev cJ3_checkIndex_8e157 : ByteArray := prog_19_method_11_code
def yJ3_checkIndex_8e157 : MethodName := ⟨RJ3, "checkIndex", "(IILjava/util/function/BiFunction;)I"⟩
def RL : String := "CensusNightLaw"
abbrev cL_law : ByteArray := code
def yL_law : MethodName := ⟨RL, "law", "([I)Z"⟩
