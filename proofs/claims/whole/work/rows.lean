section
-- ===== PART A: goes FIRST, ahead of the names: the tables' words, and 'selects' of the private methods out of them =====
/-- a private method of a class that the tables say can be made, by its rows of tables_1 -/
def lw_okq (q : MethodName × Nat) : Prop := (q.1.cls ≠ "java/lang/invoke/MethodHandle" ∧ q.1.cls ≠ "java/lang/invoke/VarHandle") ∧ Cond.instantiable q.1.cls q.2 ∈ tables_1 ∧ Cond.privateMethod q.1 ∈ tables_1 ∧ Cond.instanceMethod q.1 ∈ tables_1
theorem lw_p0 : lw_okq (⟨"CensusNight", "refuse", "(I)I"⟩, 10) := ⟨⟨by decide +kernel, by decide +kernel⟩, List.mem_of_getElem? (i := 20) (by decide +kernel), List.mem_of_getElem? (i := 237) (by decide +kernel), List.mem_of_getElem? (i := 238) (by decide +kernel)⟩
theorem lw_p1 : lw_okq (⟨"CensusNight$Shelf", "lowestBits", "(J)J"⟩, 4) := ⟨⟨by decide +kernel, by decide +kernel⟩, List.mem_of_getElem? (i := 173) (by decide +kernel), List.mem_of_getElem? (i := 352) (by decide +kernel), List.mem_of_getElem? (i := 353) (by decide +kernel)⟩
theorem lw_p2 : lw_okq (⟨"CensusNight", "isDoor", "(I)Z"⟩, 10) := ⟨⟨by decide +kernel, by decide +kernel⟩, List.mem_of_getElem? (i := 20) (by decide +kernel), List.mem_of_getElem? (i := 377) (by decide +kernel), List.mem_of_getElem? (i := 378) (by decide +kernel)⟩
theorem lw_p3 : lw_okq (⟨"CensusNight", "doorAt", "(I)LCensusNight$Door;"⟩, 10) := ⟨⟨by decide +kernel, by decide +kernel⟩, List.mem_of_getElem? (i := 20) (by decide +kernel), List.mem_of_getElem? (i := 402) (by decide +kernel), List.mem_of_getElem? (i := 403) (by decide +kernel)⟩
theorem lw_p4 : lw_okq (⟨"CensusNight$Door", "startReturn", "(I)V"⟩, 14) := ⟨⟨by decide +kernel, by decide +kernel⟩, List.mem_of_getElem? (i := 243) (by decide +kernel), List.mem_of_getElem? (i := 499) (by decide +kernel), List.mem_of_getElem? (i := 500) (by decide +kernel)⟩
theorem lw_p5 : lw_okq (⟨"CensusNight$Door", "addHead", "(I)V"⟩, 14) := ⟨⟨by decide +kernel, by decide +kernel⟩, List.mem_of_getElem? (i := 243) (by decide +kernel), List.mem_of_getElem? (i := 503) (by decide +kernel), List.mem_of_getElem? (i := 504) (by decide +kernel)⟩
theorem lw_p6 : lw_okq (⟨"CensusNight", "fillDoor", "(I)Z"⟩, 10) := ⟨⟨by decide +kernel, by decide +kernel⟩, List.mem_of_getElem? (i := 20) (by decide +kernel), List.mem_of_getElem? (i := 547) (by decide +kernel), List.mem_of_getElem? (i := 548) (by decide +kernel)⟩
theorem lw_p7 : lw_okq (⟨"CensusNight$Chances", "isGreater", "(II)Z"⟩, 4) := ⟨⟨by decide +kernel, by decide +kernel⟩, List.mem_of_getElem? (i := 56) (by decide +kernel), List.mem_of_getElem? (i := 604) (by decide +kernel), List.mem_of_getElem? (i := 605) (by decide +kernel)⟩
theorem lw_p8 : lw_okq (⟨"CensusNight$Walks", "judge", "(I)V"⟩, 10) := ⟨⟨by decide +kernel, by decide +kernel⟩, List.mem_of_getElem? (i := 77) (by decide +kernel), List.mem_of_getElem? (i := 627) (by decide +kernel), List.mem_of_getElem? (i := 628) (by decide +kernel)⟩
theorem lw_p9 : lw_okq (⟨"CensusNight$Walks", "workOf", "(I)I"⟩, 10) := ⟨⟨by decide +kernel, by decide +kernel⟩, List.mem_of_getElem? (i := 77) (by decide +kernel), List.mem_of_getElem? (i := 631) (by decide +kernel), List.mem_of_getElem? (i := 632) (by decide +kernel)⟩
theorem lw_p10 : lw_okq (⟨"CensusNight$Walks", "allTogether", "(I)Z"⟩, 10) := ⟨⟨by decide +kernel, by decide +kernel⟩, List.mem_of_getElem? (i := 77) (by decide +kernel), List.mem_of_getElem? (i := 638) (by decide +kernel), List.mem_of_getElem? (i := 639) (by decide +kernel)⟩
theorem lw_p11 : lw_okq (⟨"CensusNight$Walks", "isTogether", "(I)Z"⟩, 10) := ⟨⟨by decide +kernel, by decide +kernel⟩, List.mem_of_getElem? (i := 77) (by decide +kernel), List.mem_of_getElem? (i := 642) (by decide +kernel), List.mem_of_getElem? (i := 643) (by decide +kernel)⟩
theorem lw_p12 : lw_okq (⟨"CensusNight$Walks", "nearOnes", "(I)I"⟩, 10) := ⟨⟨by decide +kernel, by decide +kernel⟩, List.mem_of_getElem? (i := 77) (by decide +kernel), List.mem_of_getElem? (i := 646) (by decide +kernel), List.mem_of_getElem? (i := 647) (by decide +kernel)⟩
theorem lw_p13 : lw_okq (⟨"CensusNight", "doorsOf", "(I)I"⟩, 10) := ⟨⟨by decide +kernel, by decide +kernel⟩, List.mem_of_getElem? (i := 20) (by decide +kernel), List.mem_of_getElem? (i := 663) (by decide +kernel), List.mem_of_getElem? (i := 664) (by decide +kernel)⟩
theorem lw_p14 : lw_okq (⟨"CensusNight", "keepSecond", "(ILCensusNight$Shelf;)I"⟩, 10) := ⟨⟨by decide +kernel, by decide +kernel⟩, List.mem_of_getElem? (i := 20) (by decide +kernel), List.mem_of_getElem? (i := 668) (by decide +kernel), List.mem_of_getElem? (i := 669) (by decide +kernel)⟩
theorem lw_p15 : lw_okq (⟨"CensusNight", "countedHeads", "()I"⟩, 10) := ⟨⟨by decide +kernel, by decide +kernel⟩, List.mem_of_getElem? (i := 20) (by decide +kernel), List.mem_of_getElem? (i := 681) (by decide +kernel), List.mem_of_getElem? (i := 682) (by decide +kernel)⟩
def lw_privs_1 : List (MethodName × Nat) := [(⟨"CensusNight", "refuse", "(I)I"⟩, 10), (⟨"CensusNight$Shelf", "lowestBits", "(J)J"⟩, 4), (⟨"CensusNight", "isDoor", "(I)Z"⟩, 10), (⟨"CensusNight", "doorAt", "(I)LCensusNight$Door;"⟩, 10), (⟨"CensusNight$Door", "startReturn", "(I)V"⟩, 14), (⟨"CensusNight$Door", "addHead", "(I)V"⟩, 14), (⟨"CensusNight", "fillDoor", "(I)Z"⟩, 10), (⟨"CensusNight$Chances", "isGreater", "(II)Z"⟩, 4), (⟨"CensusNight$Walks", "judge", "(I)V"⟩, 10), (⟨"CensusNight$Walks", "workOf", "(I)I"⟩, 10), (⟨"CensusNight$Walks", "allTogether", "(I)Z"⟩, 10), (⟨"CensusNight$Walks", "isTogether", "(I)Z"⟩, 10), (⟨"CensusNight$Walks", "nearOnes", "(I)I"⟩, 10), (⟨"CensusNight", "doorsOf", "(I)I"⟩, 10), (⟨"CensusNight", "keepSecond", "(ILCensusNight$Shelf;)I"⟩, 10), (⟨"CensusNight", "countedHeads", "()I"⟩, 10)]
theorem lw_r1 : ∀ q ∈ lw_privs_1, lw_okq q := List.forall_mem_cons.mpr ⟨lw_p0, List.forall_mem_cons.mpr ⟨lw_p1, List.forall_mem_cons.mpr ⟨lw_p2, List.forall_mem_cons.mpr ⟨lw_p3, List.forall_mem_cons.mpr ⟨lw_p4, List.forall_mem_cons.mpr ⟨lw_p5, List.forall_mem_cons.mpr ⟨lw_p6, List.forall_mem_cons.mpr ⟨lw_p7, List.forall_mem_cons.mpr ⟨lw_p8, List.forall_mem_cons.mpr ⟨lw_p9, List.forall_mem_cons.mpr ⟨lw_p10, List.forall_mem_cons.mpr ⟨lw_p11, List.forall_mem_cons.mpr ⟨lw_p12, List.forall_mem_cons.mpr ⟨lw_p13, List.forall_mem_cons.mpr ⟨lw_p14, List.forall_mem_cons.mpr ⟨lw_p15, fun _ h => absurd h List.not_mem_nil⟩⟩⟩⟩⟩⟩⟩⟩⟩⟩⟩⟩⟩⟩⟩⟩
theorem lw_p16 : lw_okq (⟨"CensusNight$Hiding", "noneFollows", "(I)Z"⟩, 2) := ⟨⟨by decide +kernel, by decide +kernel⟩, List.mem_of_getElem? (i := 123) (by decide +kernel), List.mem_of_getElem? (i := 727) (by decide +kernel), List.mem_of_getElem? (i := 728) (by decide +kernel)⟩
theorem lw_p17 : lw_okq (⟨"CensusNight$Hiding", "canShrink", "(III)Z"⟩, 2) := ⟨⟨by decide +kernel, by decide +kernel⟩, List.mem_of_getElem? (i := 123) (by decide +kernel), List.mem_of_getElem? (i := 731) (by decide +kernel), List.mem_of_getElem? (i := 732) (by decide +kernel)⟩
theorem lw_p18 : lw_okq (⟨"CensusNight$Hiding", "canGrow", "(III)Z"⟩, 2) := ⟨⟨by decide +kernel, by decide +kernel⟩, List.mem_of_getElem? (i := 123) (by decide +kernel), List.mem_of_getElem? (i := 741) (by decide +kernel), List.mem_of_getElem? (i := 742) (by decide +kernel)⟩
theorem lw_p19 : lw_okq (⟨"CensusNight$Table", "isHidden", "(II)Z"⟩, 6) := ⟨⟨by decide +kernel, by decide +kernel⟩, List.mem_of_getElem? (i := 117) (by decide +kernel), List.mem_of_getElem? (i := 760) (by decide +kernel), List.mem_of_getElem? (i := 761) (by decide +kernel)⟩
theorem lw_p20 : lw_okq (⟨"CensusNight$Table", "sum", "(II)I"⟩, 6) := ⟨⟨by decide +kernel, by decide +kernel⟩, List.mem_of_getElem? (i := 117) (by decide +kernel), List.mem_of_getElem? (i := 764) (by decide +kernel), List.mem_of_getElem? (i := 765) (by decide +kernel)⟩
theorem lw_p21 : lw_okq (⟨"CensusNight$Shifts", "findWay", "(II)Z"⟩, 4) := ⟨⟨by decide +kernel, by decide +kernel⟩, List.mem_of_getElem? (i := 136) (by decide +kernel), List.mem_of_getElem? (i := 782) (by decide +kernel), List.mem_of_getElem? (i := 783) (by decide +kernel)⟩
theorem lw_p22 : lw_okq (⟨"CensusNight$Shifts", "canStep", "(II)Z"⟩, 4) := ⟨⟨by decide +kernel, by decide +kernel⟩, List.mem_of_getElem? (i := 136) (by decide +kernel), List.mem_of_getElem? (i := 787) (by decide +kernel), List.mem_of_getElem? (i := 788) (by decide +kernel)⟩
theorem lw_p23 : lw_okq (⟨"CensusNight$Shifts", "wayRoom", "(II)I"⟩, 4) := ⟨⟨by decide +kernel, by decide +kernel⟩, List.mem_of_getElem? (i := 136) (by decide +kernel), List.mem_of_getElem? (i := 796) (by decide +kernel), List.mem_of_getElem? (i := 797) (by decide +kernel)⟩
theorem lw_p24 : lw_okq (⟨"CensusNight$Shifts", "moveAlong", "(III)V"⟩, 4) := ⟨⟨by decide +kernel, by decide +kernel⟩, List.mem_of_getElem? (i := 136) (by decide +kernel), List.mem_of_getElem? (i := 801) (by decide +kernel), List.mem_of_getElem? (i := 802) (by decide +kernel)⟩
theorem lw_p25 : lw_okq (⟨"CensusNight", "doorsWith", "(I)I"⟩, 10) := ⟨⟨by decide +kernel, by decide +kernel⟩, List.mem_of_getElem? (i := 20) (by decide +kernel), List.mem_of_getElem? (i := 809) (by decide +kernel), List.mem_of_getElem? (i := 810) (by decide +kernel)⟩
theorem lw_p26 : lw_okq (⟨"CensusNight", "struckHeads", "()I"⟩, 10) := ⟨⟨by decide +kernel, by decide +kernel⟩, List.mem_of_getElem? (i := 20) (by decide +kernel), List.mem_of_getElem? (i := 813) (by decide +kernel), List.mem_of_getElem? (i := 814) (by decide +kernel)⟩
theorem lw_p27 : lw_okq (⟨"CensusNight", "doorsToBeAsked", "()I"⟩, 10) := ⟨⟨by decide +kernel, by decide +kernel⟩, List.mem_of_getElem? (i := 20) (by decide +kernel), List.mem_of_getElem? (i := 818) (by decide +kernel), List.mem_of_getElem? (i := 819) (by decide +kernel)⟩
theorem lw_p28 : lw_okq (⟨"CensusNightModel", "no", "(I)I"⟩, 46) := ⟨⟨by decide +kernel, by decide +kernel⟩, List.mem_of_getElem? (i := 822) (by decide +kernel), List.mem_of_getElem? (i := 975) (by decide +kernel), List.mem_of_getElem? (i := 976) (by decide +kernel)⟩
theorem lw_p29 : lw_okq (⟨"CensusNightModel", "notRow", "(I)I"⟩, 46) := ⟨⟨by decide +kernel, by decide +kernel⟩, List.mem_of_getElem? (i := 822) (by decide +kernel), List.mem_of_getElem? (i := 999) (by decide +kernel), List.mem_of_getElem? (i := 1000) (by decide +kernel)⟩
theorem lw_p30 : lw_okq (⟨"CensusNightModel", "isDoor", "(I)Z"⟩, 46) := ⟨⟨by decide +kernel, by decide +kernel⟩, List.mem_of_getElem? (i := 822) (by decide +kernel), List.mem_of_getElem? (i := 1018) (by decide +kernel), List.mem_of_getElem? (i := 1019) (by decide +kernel)⟩
theorem lw_p31 : lw_okq (⟨"CensusNightModel", "broken", "(I)I"⟩, 46) := ⟨⟨by decide +kernel, by decide +kernel⟩, List.mem_of_getElem? (i := 822) (by decide +kernel), List.mem_of_getElem? (i := 1034) (by decide +kernel), List.mem_of_getElem? (i := 1035) (by decide +kernel)⟩
def lw_privs_2 : List (MethodName × Nat) := [(⟨"CensusNight$Hiding", "noneFollows", "(I)Z"⟩, 2), (⟨"CensusNight$Hiding", "canShrink", "(III)Z"⟩, 2), (⟨"CensusNight$Hiding", "canGrow", "(III)Z"⟩, 2), (⟨"CensusNight$Table", "isHidden", "(II)Z"⟩, 6), (⟨"CensusNight$Table", "sum", "(II)I"⟩, 6), (⟨"CensusNight$Shifts", "findWay", "(II)Z"⟩, 4), (⟨"CensusNight$Shifts", "canStep", "(II)Z"⟩, 4), (⟨"CensusNight$Shifts", "wayRoom", "(II)I"⟩, 4), (⟨"CensusNight$Shifts", "moveAlong", "(III)V"⟩, 4), (⟨"CensusNight", "doorsWith", "(I)I"⟩, 10), (⟨"CensusNight", "struckHeads", "()I"⟩, 10), (⟨"CensusNight", "doorsToBeAsked", "()I"⟩, 10), (⟨"CensusNightModel", "no", "(I)I"⟩, 46), (⟨"CensusNightModel", "notRow", "(I)I"⟩, 46), (⟨"CensusNightModel", "isDoor", "(I)Z"⟩, 46), (⟨"CensusNightModel", "broken", "(I)I"⟩, 46)]
theorem lw_r2 : ∀ q ∈ lw_privs_2, lw_okq q := List.forall_mem_cons.mpr ⟨lw_p16, List.forall_mem_cons.mpr ⟨lw_p17, List.forall_mem_cons.mpr ⟨lw_p18, List.forall_mem_cons.mpr ⟨lw_p19, List.forall_mem_cons.mpr ⟨lw_p20, List.forall_mem_cons.mpr ⟨lw_p21, List.forall_mem_cons.mpr ⟨lw_p22, List.forall_mem_cons.mpr ⟨lw_p23, List.forall_mem_cons.mpr ⟨lw_p24, List.forall_mem_cons.mpr ⟨lw_p25, List.forall_mem_cons.mpr ⟨lw_p26, List.forall_mem_cons.mpr ⟨lw_p27, List.forall_mem_cons.mpr ⟨lw_p28, List.forall_mem_cons.mpr ⟨lw_p29, List.forall_mem_cons.mpr ⟨lw_p30, List.forall_mem_cons.mpr ⟨lw_p31, fun _ h => absurd h List.not_mem_nil⟩⟩⟩⟩⟩⟩⟩⟩⟩⟩⟩⟩⟩⟩⟩⟩
theorem lw_p32 : lw_okq (⟨"CensusNightModel", "letter", "(II)I"⟩, 46) := ⟨⟨by decide +kernel, by decide +kernel⟩, List.mem_of_getElem? (i := 822) (by decide +kernel), List.mem_of_getElem? (i := 1038) (by decide +kernel), List.mem_of_getElem? (i := 1039) (by decide +kernel)⟩
theorem lw_p33 : lw_okq (⟨"CensusNightModel", "isToBeAsked", "(I)Z"⟩, 46) := ⟨⟨by decide +kernel, by decide +kernel⟩, List.mem_of_getElem? (i := 822) (by decide +kernel), List.mem_of_getElem? (i := 1062) (by decide +kernel), List.mem_of_getElem? (i := 1063) (by decide +kernel)⟩
theorem lw_p34 : lw_okq (⟨"CensusNightModel", "returns", "(III)V"⟩, 46) := ⟨⟨by decide +kernel, by decide +kernel⟩, List.mem_of_getElem? (i := 822) (by decide +kernel), List.mem_of_getElem? (i := 1066) (by decide +kernel), List.mem_of_getElem? (i := 1067) (by decide +kernel)⟩
theorem lw_p35 : lw_okq (⟨"CensusNightModel", "isHead", "(II)Z"⟩, 46) := ⟨⟨by decide +kernel, by decide +kernel⟩, List.mem_of_getElem? (i := 822) (by decide +kernel), List.mem_of_getElem? (i := 1084) (by decide +kernel), List.mem_of_getElem? (i := 1085) (by decide +kernel)⟩
theorem lw_p36 : lw_okq (⟨"CensusNightModel", "donor", "(I)I"⟩, 46) := ⟨⟨by decide +kernel, by decide +kernel⟩, List.mem_of_getElem? (i := 822) (by decide +kernel), List.mem_of_getElem? (i := 1092) (by decide +kernel), List.mem_of_getElem? (i := 1093) (by decide +kernel)⟩
theorem lw_p37 : lw_okq (⟨"CensusNightModel", "struckAt", "(I)I"⟩, 46) := ⟨⟨by decide +kernel, by decide +kernel⟩, List.mem_of_getElem? (i := 822) (by decide +kernel), List.mem_of_getElem? (i := 1104) (by decide +kernel), List.mem_of_getElem? (i := 1105) (by decide +kernel)⟩
theorem lw_p38 : lw_okq (⟨"CensusNightModel", "counted", "(IIZ)I"⟩, 46) := ⟨⟨by decide +kernel, by decide +kernel⟩, List.mem_of_getElem? (i := 822) (by decide +kernel), List.mem_of_getElem? (i := 1116) (by decide +kernel), List.mem_of_getElem? (i := 1117) (by decide +kernel)⟩
theorem lw_p39 : lw_okq (⟨"CensusNightModel", "walksUpTo", "(I)I"⟩, 46) := ⟨⟨by decide +kernel, by decide +kernel⟩, List.mem_of_getElem? (i := 822) (by decide +kernel), List.mem_of_getElem? (i := 1132) (by decide +kernel), List.mem_of_getElem? (i := 1133) (by decide +kernel)⟩
theorem lw_p40 : lw_okq (⟨"CensusNightModel", "greatestWork", "(II)I"⟩, 46) := ⟨⟨by decide +kernel, by decide +kernel⟩, List.mem_of_getElem? (i := 822) (by decide +kernel), List.mem_of_getElem? (i := 1136) (by decide +kernel), List.mem_of_getElem? (i := 1137) (by decide +kernel)⟩
theorem lw_p41 : lw_okq (⟨"CensusNightModel", "hangs", "(I)Z"⟩, 46) := ⟨⟨by decide +kernel, by decide +kernel⟩, List.mem_of_getElem? (i := 822) (by decide +kernel), List.mem_of_getElem? (i := 1140) (by decide +kernel), List.mem_of_getElem? (i := 1141) (by decide +kernel)⟩
theorem lw_p42 : lw_okq (⟨"CensusNightModel", "nextWalks", "()Z"⟩, 46) := ⟨⟨by decide +kernel, by decide +kernel⟩, List.mem_of_getElem? (i := 822) (by decide +kernel), List.mem_of_getElem? (i := 1144) (by decide +kernel), List.mem_of_getElem? (i := 1145) (by decide +kernel)⟩
theorem lw_p43 : lw_okq (⟨"CensusNightModel", "countedAll", "()I"⟩, 46) := ⟨⟨by decide +kernel, by decide +kernel⟩, List.mem_of_getElem? (i := 822) (by decide +kernel), List.mem_of_getElem? (i := 1164) (by decide +kernel), List.mem_of_getElem? (i := 1165) (by decide +kernel)⟩
theorem lw_p44 : lw_okq (⟨"CensusNightModel", "findOthers", "(I)Z"⟩, 46) := ⟨⟨by decide +kernel, by decide +kernel⟩, List.mem_of_getElem? (i := 822) (by decide +kernel), List.mem_of_getElem? (i := 1181) (by decide +kernel), List.mem_of_getElem? (i := 1182) (by decide +kernel)⟩
theorem lw_p45 : lw_okq (⟨"CensusNightModel", "areOthers", "(I)Z"⟩, 46) := ⟨⟨by decide +kernel, by decide +kernel⟩, List.mem_of_getElem? (i := 822) (by decide +kernel), List.mem_of_getElem? (i := 1185) (by decide +kernel), List.mem_of_getElem? (i := 1186) (by decide +kernel)⟩
theorem lw_p46 : lw_okq (⟨"CensusNightModel", "isSmall", "(I)Z"⟩, 46) := ⟨⟨by decide +kernel, by decide +kernel⟩, List.mem_of_getElem? (i := 822) (by decide +kernel), List.mem_of_getElem? (i := 1189) (by decide +kernel), List.mem_of_getElem? (i := 1190) (by decide +kernel)⟩
theorem lw_p47 : lw_okq (⟨"CensusNightModel", "hides", "(I)V"⟩, 46) := ⟨⟨by decide +kernel, by decide +kernel⟩, List.mem_of_getElem? (i := 822) (by decide +kernel), List.mem_of_getElem? (i := 1193) (by decide +kernel), List.mem_of_getElem? (i := 1194) (by decide +kernel)⟩
def lw_privs_3 : List (MethodName × Nat) := [(⟨"CensusNightModel", "letter", "(II)I"⟩, 46), (⟨"CensusNightModel", "isToBeAsked", "(I)Z"⟩, 46), (⟨"CensusNightModel", "returns", "(III)V"⟩, 46), (⟨"CensusNightModel", "isHead", "(II)Z"⟩, 46), (⟨"CensusNightModel", "donor", "(I)I"⟩, 46), (⟨"CensusNightModel", "struckAt", "(I)I"⟩, 46), (⟨"CensusNightModel", "counted", "(IIZ)I"⟩, 46), (⟨"CensusNightModel", "walksUpTo", "(I)I"⟩, 46), (⟨"CensusNightModel", "greatestWork", "(II)I"⟩, 46), (⟨"CensusNightModel", "hangs", "(I)Z"⟩, 46), (⟨"CensusNightModel", "nextWalks", "()Z"⟩, 46), (⟨"CensusNightModel", "countedAll", "()I"⟩, 46), (⟨"CensusNightModel", "findOthers", "(I)Z"⟩, 46), (⟨"CensusNightModel", "areOthers", "(I)Z"⟩, 46), (⟨"CensusNightModel", "isSmall", "(I)Z"⟩, 46), (⟨"CensusNightModel", "hides", "(I)V"⟩, 46)]
theorem lw_r3 : ∀ q ∈ lw_privs_3, lw_okq q := List.forall_mem_cons.mpr ⟨lw_p32, List.forall_mem_cons.mpr ⟨lw_p33, List.forall_mem_cons.mpr ⟨lw_p34, List.forall_mem_cons.mpr ⟨lw_p35, List.forall_mem_cons.mpr ⟨lw_p36, List.forall_mem_cons.mpr ⟨lw_p37, List.forall_mem_cons.mpr ⟨lw_p38, List.forall_mem_cons.mpr ⟨lw_p39, List.forall_mem_cons.mpr ⟨lw_p40, List.forall_mem_cons.mpr ⟨lw_p41, List.forall_mem_cons.mpr ⟨lw_p42, List.forall_mem_cons.mpr ⟨lw_p43, List.forall_mem_cons.mpr ⟨lw_p44, List.forall_mem_cons.mpr ⟨lw_p45, List.forall_mem_cons.mpr ⟨lw_p46, List.forall_mem_cons.mpr ⟨lw_p47, fun _ h => absurd h List.not_mem_nil⟩⟩⟩⟩⟩⟩⟩⟩⟩⟩⟩⟩⟩⟩⟩⟩
theorem lw_p48 : lw_okq (⟨"CensusNightModel", "isSafe", "()Z"⟩, 46) := ⟨⟨by decide +kernel, by decide +kernel⟩, List.mem_of_getElem? (i := 822) (by decide +kernel), List.mem_of_getElem? (i := 1197) (by decide +kernel), List.mem_of_getElem? (i := 1198) (by decide +kernel)⟩
theorem lw_p49 : lw_okq (⟨"CensusNightModel", "canRise", "(I[Z[I)Z"⟩, 46) := ⟨⟨by decide +kernel, by decide +kernel⟩, List.mem_of_getElem? (i := 822) (by decide +kernel), List.mem_of_getElem? (i := 1201) (by decide +kernel), List.mem_of_getElem? (i := 1202) (by decide +kernel)⟩
theorem lw_p50 : lw_okq (⟨"CensusNightModel", "finds", "(III[Z[I)Z"⟩, 46) := ⟨⟨by decide +kernel, by decide +kernel⟩, List.mem_of_getElem? (i := 822) (by decide +kernel), List.mem_of_getElem? (i := 1205) (by decide +kernel), List.mem_of_getElem? (i := 1206) (by decide +kernel)⟩
theorem lw_p51 : lw_okq (⟨"CensusNightModel", "canFall", "(I[Z[I)Z"⟩, 46) := ⟨⟨by decide +kernel, by decide +kernel⟩, List.mem_of_getElem? (i := 822) (by decide +kernel), List.mem_of_getElem? (i := 1209) (by decide +kernel), List.mem_of_getElem? (i := 1210) (by decide +kernel)⟩
theorem lw_p52 : lw_okq (⟨"CensusNightModel", "nextOthers", "(I)Z"⟩, 46) := ⟨⟨by decide +kernel, by decide +kernel⟩, List.mem_of_getElem? (i := 822) (by decide +kernel), List.mem_of_getElem? (i := 1213) (by decide +kernel), List.mem_of_getElem? (i := 1214) (by decide +kernel)⟩
theorem lw_p53 : lw_okq (⟨"CensusNightModel", "moves", "(IZ)V"⟩, 46) := ⟨⟨by decide +kernel, by decide +kernel⟩, List.mem_of_getElem? (i := 822) (by decide +kernel), List.mem_of_getElem? (i := 1228) (by decide +kernel), List.mem_of_getElem? (i := 1229) (by decide +kernel)⟩
def lw_privs_4 : List (MethodName × Nat) := [(⟨"CensusNightModel", "isSafe", "()Z"⟩, 46), (⟨"CensusNightModel", "canRise", "(I[Z[I)Z"⟩, 46), (⟨"CensusNightModel", "finds", "(III[Z[I)Z"⟩, 46), (⟨"CensusNightModel", "canFall", "(I[Z[I)Z"⟩, 46), (⟨"CensusNightModel", "nextOthers", "(I)Z"⟩, 46), (⟨"CensusNightModel", "moves", "(IZ)V"⟩, 46)]
theorem lw_r4 : ∀ q ∈ lw_privs_4, lw_okq q := List.forall_mem_cons.mpr ⟨lw_p48, List.forall_mem_cons.mpr ⟨lw_p49, List.forall_mem_cons.mpr ⟨lw_p50, List.forall_mem_cons.mpr ⟨lw_p51, List.forall_mem_cons.mpr ⟨lw_p52, List.forall_mem_cons.mpr ⟨lw_p53, fun _ h => absurd h List.not_mem_nil⟩⟩⟩⟩⟩⟩
def lw_privs : List (MethodName × Nat) := lw_privs_1 ++ (lw_privs_2 ++ (lw_privs_3 ++ (lw_privs_4)))
def lw_tbl : List Cond := k2_sels lw_privs ++ tables_1
theorem lw_privs_ok : ∀ q ∈ lw_privs, lw_okq q := by
  show ∀ q ∈ lw_privs_1 ++ (lw_privs_2 ++ (lw_privs_3 ++ (lw_privs_4))), lw_okq q
  exact List.forall_mem_append.mpr ⟨lw_r1, List.forall_mem_append.mpr ⟨lw_r2, List.forall_mem_append.mpr ⟨lw_r3, lw_r4⟩⟩⟩
def RX0 : String := "CensusNight$Chances"
def TX0 : u_T := fun k => match k with
  | 0 => ("CensusNight$Chances", "knocks", "[I", true)
  | 1 => ("CensusNight$Chances", "answers", "[I", true)
  | 2 => ("CensusNight$Chances", "allKnocks", "I", false)
  | _ => ("CensusNight$Chances", "allAnswers", "I", false)
def tyX0 : Nat → FieldType := fun k => match k with
  | 0 => .array .int
  | 1 => .array .int
  | 2 => .int
  | _ => .int
abbrev wsX00 : List Cond := u_ws RX0 TX0 4
theorem nmX0 : ∀ a, a < 4 → ∀ b, b < 4 → a ≠ b → (TX0 a).2.1 ≠ (TX0 b).2.1 := by decide +kernel
theorem tyX0_ok : ∀ k, k < 4 → parseFieldDescriptor (TX0 k).2.2.1 = some (tyX0 k) := by decide +kernel
abbrev cX0_init : ByteArray := prog_2_method_1_code
def yX0_init : MethodName := ⟨RX0, "<init>", "()V"⟩
abbrev cX0_note : ByteArray := prog_2_method_2_code
def yX0_note : MethodName := ⟨RX0, "note", "(IIZ)V"⟩
abbrev cX0_greatest : ByteArray := prog_2_method_3_code
def yX0_greatest : MethodName := ⟨RX0, "greatest", "(I)I"⟩
abbrev cX0_isGreater : ByteArray := prog_2_method_4_code
def yX0_isGreater : MethodName := ⟨RX0, "isGreater", "(II)Z"⟩
def RX1 : String := "CensusNight$Door"
def TX1 : u_T := fun k => match k with
  | 0 => ("CensusNight$Door", "block", "I", true)
  | 1 => ("CensusNight$Door", "like", "I", true)
  | 2 => ("CensusNight$Door", "hours", "I", true)
  | 3 => ("CensusNight$Door", "truthAges", "[I", true)
  | 4 => ("CensusNight$Door", "ages", "[I", true)
  | 5 => ("CensusNight$Door", "truthHeads", "I", false)
  | 6 => ("CensusNight$Door", "reply", "I", false)
  | 7 => ("CensusNight$Door", "broken", "Z", false)
  | 8 => ("CensusNight$Door", "heads", "I", false)
  | 9 => ("CensusNight$Door", "struck", "I", false)
  | 10 => ("CensusNight$Door", "knocks", "I", false)
  | 11 => ("CensusNight$Door", "filledOthers", "I", false)
  | 12 => ("CensusNight$Door", "filledFrom", "I", false)
  | _ => ("CensusNight$Door", "secondHeads", "I", false)
def tyX1 : Nat → FieldType := fun k => match k with
  | 0 => .int
  | 1 => .int
  | 2 => .int
  | 3 => .array .int
  | 4 => .array .int
  | 5 => .int
  | 6 => .int
  | 7 => .boolean
  | 8 => .int
  | 9 => .int
  | 10 => .int
  | 11 => .int
  | 12 => .int
  | _ => .int
abbrev wsX10 : List Cond := u_ws RX1 TX1 14
theorem nmX1 : ∀ a, a < 14 → ∀ b, b < 14 → a ≠ b → (TX1 a).2.1 ≠ (TX1 b).2.1 := by decide +kernel
theorem tyX1_ok : ∀ k, k < 14 → parseFieldDescriptor (TX1 k).2.2.1 = some (tyX1 k) := by decide +kernel
abbrev cX1_init : ByteArray := prog_3_method_1_code
def yX1_init : MethodName := ⟨RX1, "<init>", "(III)V"⟩
abbrev cX1_learnTruth : ByteArray := prog_3_method_2_code
def yX1_learnTruth : MethodName := ⟨RX1, "learnTruth", "(LCensusNight$Shelf;)I"⟩
abbrev cX1_isToBeAsked : ByteArray := prog_3_method_3_code
def yX1_isToBeAsked : MethodName := ⟨RX1, "isToBeAsked", "()Z"⟩
abbrev cX1_startReturn : ByteArray := prog_3_method_4_code
def yX1_startReturn : MethodName := ⟨RX1, "startReturn", "(I)V"⟩
abbrev cX1_addHead : ByteArray := prog_3_method_5_code
def yX1_addHead : MethodName := ⟨RX1, "addHead", "(I)V"⟩
abbrev cX1_takePaper : ByteArray := prog_3_method_6_code
def yX1_takePaper : MethodName := ⟨RX1, "takePaper", "()I"⟩
abbrev cX1_takeKnock : ByteArray := prog_3_method_7_code
def yX1_takeKnock : MethodName := ⟨RX1, "takeKnock", "(I)Z"⟩
abbrev cX1_takeProxy : ByteArray := prog_3_method_8_code
def yX1_takeProxy : MethodName := ⟨RX1, "takeProxy", "(I)V"⟩
abbrev cX1_canFill : ByteArray := prog_3_method_9_code
def yX1_canFill : MethodName := ⟨RX1, "canFill", "(I)Z"⟩
abbrev cX1_takeHeadsOf : ByteArray := prog_3_method_10_code
def yX1_takeHeadsOf : MethodName := ⟨RX1, "takeHeadsOf", "(LCensusNight$Door;I)V"⟩
abbrev cX1_hasHead : ByteArray := prog_3_method_11_code
def yX1_hasHead : MethodName := ⟨RX1, "hasHead", "(I)Z"⟩
abbrev cX1_isStruck : ByteArray := prog_3_method_12_code
def yX1_isStruck : MethodName := ⟨RX1, "isStruck", "(I)Z"⟩
abbrev cX1_strike : ByteArray := prog_3_method_13_code
def yX1_strike : MethodName := ⟨RX1, "strike", "(I)V"⟩
abbrev cX1_counted : ByteArray := prog_3_method_14_code
def yX1_counted : MethodName := ⟨RX1, "counted", "()I"⟩
abbrev cX1_countedInBand : ByteArray := prog_3_method_15_code
def yX1_countedInBand : MethodName := ⟨RX1, "countedInBand", "(I)I"⟩
abbrev cX1_bandOf : ByteArray := prog_3_method_16_code
def yX1_bandOf : MethodName := ⟨RX1, "bandOf", "(I)I"⟩
abbrev cX1_countedThatMayHeap : ByteArray := prog_3_method_17_code
def yX1_countedThatMayHeap : MethodName := ⟨RX1, "countedThatMayHeap", "(I)I"⟩
abbrev cX1_tell : ByteArray := prog_3_method_18_code
def yX1_tell : MethodName := ⟨RX1, "tell", "(I)I"⟩
def RX2 : String := "CensusNight$Hiding"
def TX2 : u_T := fun k => match k with
  | 0 => ("CensusNight$Hiding", "small", "I", false)
  | _ => ("CensusNight$Hiding", "positive", "I", false)
def tyX2 : Nat → FieldType := fun k => match k with
  | 0 => .int
  | _ => .int
abbrev wsX20 : List Cond := u_ws RX2 TX2 2
theorem nmX2 : ∀ a, a < 2 → ∀ b, b < 2 → a ≠ b → (TX2 a).2.1 ≠ (TX2 b).2.1 := by decide +kernel
theorem tyX2_ok : ∀ k, k < 2 → parseFieldDescriptor (TX2 k).2.2.1 = some (tyX2 k) := by decide +kernel
abbrev cX2_init : ByteArray := prog_4_method_1_code
def yX2_init : MethodName := ⟨RX2, "<init>", "()V"⟩
abbrev cX2_find : ByteArray := prog_4_method_2_code
def yX2_find : MethodName := ⟨RX2, "find", "([II)I"⟩
abbrev cX2_choose : ByteArray := prog_4_method_3_code
def yX2_choose : MethodName := ⟨RX2, "choose", "(LCensusNight$Hiding;III)I"⟩
abbrev cX2_loneLines : ByteArray := prog_4_method_4_code
def yX2_loneLines : MethodName := ⟨RX2, "loneLines", "(I)I"⟩
abbrev cX2_isOneCell : ByteArray := prog_4_method_5_code
def yX2_isOneCell : MethodName := ⟨RX2, "isOneCell", "(I)Z"⟩
abbrev cX2_noneFollows : ByteArray := prog_4_method_6_code
def yX2_noneFollows : MethodName := ⟨RX2, "noneFollows", "(I)Z"⟩
abbrev cX2_canShrink : ByteArray := prog_4_method_7_code
def yX2_canShrink : MethodName := ⟨RX2, "canShrink", "(III)Z"⟩
abbrev cX2_canGrow : ByteArray := prog_4_method_8_code
def yX2_canGrow : MethodName := ⟨RX2, "canGrow", "(III)Z"⟩
abbrev cX2_columnsOf : ByteArray := prog_4_method_9_code
def yX2_columnsOf : MethodName := ⟨RX2, "columnsOf", "(I)I"⟩
abbrev cX2_rowsOf : ByteArray := prog_4_method_10_code
def yX2_rowsOf : MethodName := ⟨RX2, "rowsOf", "(I)I"⟩
def RX3 : String := "CensusNight$Law"
def TX3 : u_T := fun k => match k with
  | 0 => ("CensusNight$Law", "mostKnocks", "I", false)
  | 1 => ("CensusNight$Law", "knocksAhead", "I", false)
  | 2 => ("CensusNight$Law", "leastCell", "I", false)
  | _ => ("CensusNight$Law", "latestFault", "I", false)
def tyX3 : Nat → FieldType := fun k => match k with
  | 0 => .int
  | 1 => .int
  | 2 => .int
  | _ => .int
abbrev wsX30 : List Cond := u_ws RX3 TX3 4
theorem nmX3 : ∀ a, a < 4 → ∀ b, b < 4 → a ≠ b → (TX3 a).2.1 ≠ (TX3 b).2.1 := by decide +kernel
theorem tyX3_ok : ∀ k, k < 4 → parseFieldDescriptor (TX3 k).2.2.1 = some (tyX3 k) := by decide +kernel
abbrev cX3_init : ByteArray := prog_5_method_1_code
def yX3_init : MethodName := ⟨RX3, "<init>", "()V"⟩
abbrev cX3_read : ByteArray := prog_5_method_2_code
def yX3_read : MethodName := ⟨RX3, "read", "(LCensusNight$Shelf;)Z"⟩
abbrev cX3_firstWrongPlace : ByteArray := prog_5_method_3_code
def yX3_firstWrongPlace : MethodName := ⟨RX3, "firstWrongPlace", "(LCensusNight$Shelf;)I"⟩
abbrev cX3_mayStand : ByteArray := prog_5_method_4_code
def yX3_mayStand : MethodName := ⟨RX3, "mayStand", "(II)Z"⟩
def RX4 : String := "CensusNight$Shelf"
def TX4 : u_T := fun k => match k with
  | 0 => ("CensusNight$Shelf", "elements", "[J", true)
  | 1 => ("CensusNight$Shelf", "sort", "I", false)
  | 2 => ("CensusNight$Shelf", "size", "I", false)
  | _ => ("CensusNight$Shelf", "doorNumber", "I", false)
def tyX4 : Nat → FieldType := fun k => match k with
  | 0 => .array .long
  | 1 => .int
  | 2 => .int
  | _ => .int
abbrev wsX40 : List Cond := u_ws RX4 TX4 4
theorem nmX4 : ∀ a, a < 4 → ∀ b, b < 4 → a ≠ b → (TX4 a).2.1 ≠ (TX4 b).2.1 := by decide +kernel
theorem tyX4_ok : ∀ k, k < 4 → parseFieldDescriptor (TX4 k).2.2.1 = some (tyX4 k) := by decide +kernel
abbrev cX4_init : ByteArray := prog_6_method_1_code
def yX4_init : MethodName := ⟨RX4, "<init>", "()V"⟩
abbrev cX4_isRow : ByteArray := prog_6_method_2_code
def yX4_isRow : MethodName := ⟨RX4, "isRow", "()Z"⟩
abbrev cX4_isDoor : ByteArray := prog_6_method_3_code
def yX4_isDoor : MethodName := ⟨RX4, "isDoor", "()Z"⟩
abbrev cX4_putNothing : ByteArray := prog_6_method_4_code
def yX4_putNothing : MethodName := ⟨RX4, "putNothing", "()V"⟩
abbrev cX4_putDoor : ByteArray := prog_6_method_5_code
def yX4_putDoor : MethodName := ⟨RX4, "putDoor", "(I)V"⟩
abbrev cX4_putRow : ByteArray := prog_6_method_6_code
def yX4_putRow : MethodName := ⟨RX4, "putRow", "(II)V"⟩
abbrev cX4_contents : ByteArray := prog_6_method_7_code
def yX4_contents : MethodName := ⟨RX4, "contents", "()I"⟩
abbrev cX4_fitAsRow : ByteArray := prog_6_method_8_code
def yX4_fitAsRow : MethodName := ⟨RX4, "fitAsRow", "()I"⟩
abbrev cX4_fitAsDoor : ByteArray := prog_6_method_9_code
def yX4_fitAsDoor : MethodName := ⟨RX4, "fitAsDoor", "()I"⟩
abbrev cX4_hasElement : ByteArray := prog_6_method_10_code
def yX4_hasElement : MethodName := ⟨RX4, "hasElement", "(I)Z"⟩
abbrev cX4_hasStretch : ByteArray := prog_6_method_11_code
def yX4_hasStretch : MethodName := ⟨RX4, "hasStretch", "(II)Z"⟩
abbrev cX4_putElement : ByteArray := prog_6_method_12_code
def yX4_putElement : MethodName := ⟨RX4, "putElement", "(IJ)V"⟩
abbrev cX4_lowestBits : ByteArray := prog_6_method_13_code
def yX4_lowestBits : MethodName := ⟨RX4, "lowestBits", "(J)J"⟩
abbrev cX4_elementAsInt : ByteArray := prog_6_method_14_code
def yX4_elementAsInt : MethodName := ⟨RX4, "elementAsInt", "(I)I"⟩
abbrev cX4_elementAsAge : ByteArray := prog_6_method_15_code
def yX4_elementAsAge : MethodName := ⟨RX4, "elementAsAge", "(I)I"⟩
def RX5 : String := "CensusNight$Shifts"
def TX5 : u_T := fun k => match k with
  | 0 => ("CensusNight$Shifts", "work", "[I", true)
  | 1 => ("CensusNight$Shifts", "before", "[I", true)
  | 2 => ("CensusNight$Shifts", "queue", "[I", true)
  | _ => ("CensusNight$Shifts", "open", "I", false)
def tyX5 : Nat → FieldType := fun k => match k with
  | 0 => .array .int
  | 1 => .array .int
  | 2 => .array .int
  | _ => .int
abbrev wsX50 : List Cond := u_ws RX5 TX5 4
theorem nmX5 : ∀ a, a < 4 → ∀ b, b < 4 → a ≠ b → (TX5 a).2.1 ≠ (TX5 b).2.1 := by decide +kernel
theorem tyX5_ok : ∀ k, k < 4 → parseFieldDescriptor (TX5 k).2.2.1 = some (tyX5 k) := by decide +kernel
abbrev cX5_init : ByteArray := prog_7_method_1_code
def yX5_init : MethodName := ⟨RX5, "<init>", "()V"⟩
abbrev cX5_extreme : ByteArray := prog_7_method_2_code
def yX5_extreme : MethodName := ⟨RX5, "extreme", "([IIIZ)I"⟩
abbrev cX5_findWay : ByteArray := prog_7_method_3_code
def yX5_findWay : MethodName := ⟨RX5, "findWay", "(II)Z"⟩
abbrev cX5_canStep : ByteArray := prog_7_method_4_code
def yX5_canStep : MethodName := ⟨RX5, "canStep", "(II)Z"⟩
abbrev cX5_cellOf : ByteArray := prog_7_method_5_code
def yX5_cellOf : MethodName := ⟨RX5, "cellOf", "(II)I"⟩
abbrev cX5_wayRoom : ByteArray := prog_7_method_6_code
def yX5_wayRoom : MethodName := ⟨RX5, "wayRoom", "(II)I"⟩
abbrev cX5_moveAlong : ByteArray := prog_7_method_7_code
def yX5_moveAlong : MethodName := ⟨RX5, "moveAlong", "(III)V"⟩
def RX6 : String := "CensusNight$Table"
def TX6 : u_T := fun k => match k with
  | 0 => ("CensusNight$Table", "drafted", "[I", true)
  | 1 => ("CensusNight$Table", "cells", "[I", true)
  | 2 => ("CensusNight$Table", "hiding", "LCensusNight$Hiding;", true)
  | 3 => ("CensusNight$Table", "shifts", "LCensusNight$Shifts;", true)
  | 4 => ("CensusNight$Table", "hidden", "I", false)
  | _ => ("CensusNight$Table", "made", "Z", false)
def tyX6 : Nat → FieldType := fun k => match k with
  | 0 => .array .int
  | 1 => .array .int
  | 2 => .object "CensusNight$Hiding"
  | 3 => .object "CensusNight$Shifts"
  | 4 => .int
  | _ => .boolean
abbrev wsX60 : List Cond := u_ws RX6 TX6 6
theorem nmX6 : ∀ a, a < 6 → ∀ b, b < 6 → a ≠ b → (TX6 a).2.1 ≠ (TX6 b).2.1 := by decide +kernel
theorem tyX6_ok : ∀ k, k < 6 → parseFieldDescriptor (TX6 k).2.2.1 = some (tyX6 k) := by decide +kernel
abbrev cX6_init : ByteArray := prog_8_method_1_code
def yX6_init : MethodName := ⟨RX6, "<init>", "()V"⟩
abbrev cX6_draft : ByteArray := prog_8_method_2_code
def yX6_draft : MethodName := ⟨RX6, "draft", "(III)V"⟩
abbrev cX6_make : ByteArray := prog_8_method_3_code
def yX6_make : MethodName := ⟨RX6, "make", "(I)Z"⟩
abbrev cX6_hiddenCells : ByteArray := prog_8_method_4_code
def yX6_hiddenCells : MethodName := ⟨RX6, "hiddenCells", "()I"⟩
abbrev cX6_tell : ByteArray := prog_8_method_5_code
def yX6_tell : MethodName := ⟨RX6, "tell", "(II)I"⟩
abbrev cX6_extreme : ByteArray := prog_8_method_6_code
def yX6_extreme : MethodName := ⟨RX6, "extreme", "(IIZ)I"⟩
abbrev cX6_sum : ByteArray := prog_8_method_7_code
def yX6_sum : MethodName := ⟨RX6, "sum", "(II)I"⟩
abbrev cX6_isHidden : ByteArray := prog_8_method_8_code
def yX6_isHidden : MethodName := ⟨RX6, "isHidden", "(II)Z"⟩
abbrev cX6_isCell : ByteArray := prog_8_method_9_code
def yX6_isCell : MethodName := ⟨RX6, "isCell", "(II)Z"⟩
def RX7 : String := "CensusNight$Walks"
def TX7 : u_T := fun k => match k with
  | 0 => ("CensusNight$Walks", "nearBlocks", "[I", true)
  | 1 => ("CensusNight$Walks", "work", "[I", true)
  | 2 => ("CensusNight$Walks", "latest", "[I", true)
  | 3 => ("CensusNight$Walks", "members", "[I", true)
  | 4 => ("CensusNight$Walks", "trial", "[I", true)
  | 5 => ("CensusNight$Walks", "best", "[I", true)
  | 6 => ("CensusNight$Walks", "present", "I", false)
  | 7 => ("CensusNight$Walks", "most", "I", false)
  | 8 => ("CensusNight$Walks", "bestParts", "I", false)
  | _ => ("CensusNight$Walks", "bestGreatest", "I", false)
def tyX7 : Nat → FieldType := fun k => match k with
  | 0 => .array .int
  | 1 => .array .int
  | 2 => .array .int
  | 3 => .array .int
  | 4 => .array .int
  | 5 => .array .int
  | 6 => .int
  | 7 => .int
  | 8 => .int
  | _ => .int
abbrev wsX70 : List Cond := u_ws RX7 TX7 10
theorem nmX7 : ∀ a, a < 10 → ∀ b, b < 10 → a ≠ b → (TX7 a).2.1 ≠ (TX7 b).2.1 := by decide +kernel
theorem tyX7_ok : ∀ k, k < 10 → parseFieldDescriptor (TX7 k).2.2.1 = some (tyX7 k) := by decide +kernel
abbrev cX7_init : ByteArray := prog_9_method_1_code
def yX7_init : MethodName := ⟨RX7, "<init>", "()V"⟩
abbrev cX7_join : ByteArray := prog_9_method_2_code
def yX7_join : MethodName := ⟨RX7, "join", "(II)Z"⟩
abbrev cX7_numberOf : ByteArray := prog_9_method_3_code
def yX7_numberOf : MethodName := ⟨RX7, "numberOf", "(I)I"⟩
abbrev cX7_clearWork : ByteArray := prog_9_method_4_code
def yX7_clearWork : MethodName := ⟨RX7, "clearWork", "()V"⟩
abbrev cX7_addDoor : ByteArray := prog_9_method_5_code
def yX7_addDoor : MethodName := ⟨RX7, "addDoor", "(IZ)V"⟩
abbrev cX7_part : ByteArray := prog_9_method_6_code
def yX7_part : MethodName := ⟨RX7, "part", "(I)I"⟩
abbrev cX7_place : ByteArray := prog_9_method_7_code
def yX7_place : MethodName := ⟨RX7, "place", "(LCensusNight$Walks;II)V"⟩
abbrev cX7_judge : ByteArray := prog_9_method_8_code
def yX7_judge : MethodName := ⟨RX7, "judge", "(I)V"⟩
abbrev cX7_workOf : ByteArray := prog_9_method_9_code
def yX7_workOf : MethodName := ⟨RX7, "workOf", "(I)I"⟩
abbrev cX7_allTogether : ByteArray := prog_9_method_10_code
def yX7_allTogether : MethodName := ⟨RX7, "allTogether", "(I)Z"⟩
abbrev cX7_isTogether : ByteArray := prog_9_method_11_code
def yX7_isTogether : MethodName := ⟨RX7, "isTogether", "(I)Z"⟩
abbrev cX7_nearOnes : ByteArray := prog_9_method_12_code
def yX7_nearOnes : MethodName := ⟨RX7, "nearOnes", "(I)I"⟩
def RX8 : String := "CensusNight"
def TX8 : u_T := fun k => match k with
  | 0 => ("CensusNight", "shelves", "[LCensusNight$Shelf;", true)
  | 1 => ("CensusNight", "doors", "[LCensusNight$Door;", true)
  | 2 => ("CensusNight", "refusals", "[I", true)
  | 3 => ("CensusNight", "theLaw", "LCensusNight$Law;", true)
  | 4 => ("CensusNight", "chances", "LCensusNight$Chances;", true)
  | 5 => ("CensusNight", "walks", "LCensusNight$Walks;", true)
  | 6 => ("CensusNight", "theTable", "LCensusNight$Table;", true)
  | 7 => ("CensusNight", "doorCount", "I", false)
  | 8 => ("CensusNight", "secondBlocks", "I", false)
  | _ => ("CensusNight", "closed", "Z", false)
def tyX8 : Nat → FieldType := fun k => match k with
  | 0 => .array (.object "CensusNight$Shelf")
  | 1 => .array (.object "CensusNight$Door")
  | 2 => .array .int
  | 3 => .object "CensusNight$Law"
  | 4 => .object "CensusNight$Chances"
  | 5 => .object "CensusNight$Walks"
  | 6 => .object "CensusNight$Table"
  | 7 => .int
  | 8 => .int
  | _ => .boolean
abbrev wsX80 : List Cond := u_ws RX8 TX8 10
theorem nmX8 : ∀ a, a < 10 → ∀ b, b < 10 → a ≠ b → (TX8 a).2.1 ≠ (TX8 b).2.1 := by decide +kernel
theorem tyX8_ok : ∀ k, k < 10 → parseFieldDescriptor (TX8 k).2.2.1 = some (tyX8 k) := by decide +kernel
abbrev cX8_init : ByteArray := prog_1_method_1_code
def yX8_init : MethodName := ⟨RX8, "<init>", "()V"⟩
abbrev cX8_door : ByteArray := prog_1_method_2_code
def yX8_door : MethodName := ⟨RX8, "door", "(III)I"⟩
abbrev cX8_near : ByteArray := prog_1_method_3_code
def yX8_near : MethodName := ⟨RX8, "near", "(II)I"⟩
abbrev cX8_row : ByteArray := prog_1_method_4_code
def yX8_row : MethodName := ⟨RX8, "row", "(III)I"⟩
abbrev cX8_set : ByteArray := prog_1_method_5_code
def yX8_set : MethodName := ⟨RX8, "set", "(IIJ)I"⟩
abbrev cX8_copy : ByteArray := prog_1_method_6_code
def yX8_copy : MethodName := ⟨RX8, "copy", "(IIIII)I"⟩
abbrev cX8_element : ByteArray := prog_1_method_7_code
def yX8_element : MethodName := ⟨RX8, "element", "(II)J"⟩
abbrev cX8_show : ByteArray := prog_1_method_8_code
def yX8_show : MethodName := ⟨RX8, "show", "(II)I"⟩
abbrev cX8_holds : ByteArray := prog_1_method_9_code
def yX8_holds : MethodName := ⟨RX8, "holds", "(I)I"⟩
abbrev cX8_blockIn : ByteArray := prog_1_method_10_code
def yX8_blockIn : MethodName := ⟨RX8, "blockIn", "(I)I"⟩
abbrev cX8_law : ByteArray := prog_1_method_11_code
def yX8_law : MethodName := ⟨RX8, "law", "(I)I"⟩
abbrev cX8_fault : ByteArray := prog_1_method_12_code
def yX8_fault : MethodName := ⟨RX8, "fault", "()I"⟩
abbrev cX8_truth : ByteArray := prog_1_method_13_code
def yX8_truth : MethodName := ⟨RX8, "truth", "(II)I"⟩
abbrev cX8_paper : ByteArray := prog_1_method_14_code
def yX8_paper : MethodName := ⟨RX8, "paper", "(I)I"⟩
abbrev cX8_knock : ByteArray := prog_1_method_15_code
def yX8_knock : MethodName := ⟨RX8, "knock", "(II)I"⟩
abbrev cX8_proxy : ByteArray := prog_1_method_16_code
def yX8_proxy : MethodName := ⟨RX8, "proxy", "(II)I"⟩
abbrev cX8_twice : ByteArray := prog_1_method_17_code
def yX8_twice : MethodName := ⟨RX8, "twice", "(IIII)I"⟩
abbrev cX8_fill : ByteArray := prog_1_method_18_code
def yX8_fill : MethodName := ⟨RX8, "fill", "()I"⟩
abbrev cX8_from : ByteArray := prog_1_method_19_code
def yX8_from : MethodName := ⟨RX8, "from", "(I)I"⟩
abbrev cX8_about : ByteArray := prog_1_method_20_code
def yX8_about : MethodName := ⟨RX8, "about", "(II)I"⟩
abbrev cX8_age : ByteArray := prog_1_method_21_code
def yX8_age : MethodName := ⟨RX8, "age", "(II)I"⟩
abbrev cX8_count : ByteArray := prog_1_method_22_code
def yX8_count : MethodName := ⟨RX8, "count", "(IIZ)I"⟩
abbrev cX8_bestHour : ByteArray := prog_1_method_23_code
def yX8_bestHour : MethodName := ⟨RX8, "bestHour", "(I)I"⟩
abbrev cX8_cut : ByteArray := prog_1_method_24_code
def yX8_cut : MethodName := ⟨RX8, "cut", "(I)I"⟩
abbrev cX8_walk : ByteArray := prog_1_method_25_code
def yX8_walk : MethodName := ⟨RX8, "walk", "(I)I"⟩
abbrev cX8_second : ByteArray := prog_1_method_26_code
def yX8_second : MethodName := ⟨RX8, "second", "(II)I"⟩
abbrev cX8_right : ByteArray := prog_1_method_27_code
def yX8_right : MethodName := ⟨RX8, "right", "(Z)J"⟩
abbrev cX8_heap : ByteArray := prog_1_method_28_code
def yX8_heap : MethodName := ⟨RX8, "heap", "()I"⟩
abbrev cX8_table : ByteArray := prog_1_method_29_code
def yX8_table : MethodName := ⟨RX8, "table", "()I"⟩
abbrev cX8_told : ByteArray := prog_1_method_30_code
def yX8_told : MethodName := ⟨RX8, "told", "(II)I"⟩
abbrev cX8_could : ByteArray := prog_1_method_31_code
def yX8_could : MethodName := ⟨RX8, "could", "(IIZ)I"⟩
abbrev cX8_status : ByteArray := prog_1_method_32_code
def yX8_status : MethodName := ⟨RX8, "status", "(I)I"⟩
abbrev cX8_refuse : ByteArray := prog_1_method_33_code
def yX8_refuse : MethodName := ⟨RX8, "refuse", "(I)I"⟩
abbrev cX8_isBlock : ByteArray := prog_1_method_34_code
def yX8_isBlock : MethodName := ⟨RX8, "isBlock", "(I)Z"⟩
abbrev cX8_isLike : ByteArray := prog_1_method_35_code
def yX8_isLike : MethodName := ⟨RX8, "isLike", "(I)Z"⟩
abbrev cX8_isShelf : ByteArray := prog_1_method_36_code
def yX8_isShelf : MethodName := ⟨RX8, "isShelf", "(I)Z"⟩
abbrev cX8_isDoor : ByteArray := prog_1_method_37_code
def yX8_isDoor : MethodName := ⟨RX8, "isDoor", "(I)Z"⟩
abbrev cX8_doorAt : ByteArray := prog_1_method_38_code
def yX8_doorAt : MethodName := ⟨RX8, "doorAt", "(I)LCensusNight$Door;"⟩
abbrev cX8_fillDoor : ByteArray := prog_1_method_39_code
def yX8_fillDoor : MethodName := ⟨RX8, "fillDoor", "(I)Z"⟩
abbrev cX8_doorsOf : ByteArray := prog_1_method_40_code
def yX8_doorsOf : MethodName := ⟨RX8, "doorsOf", "(I)I"⟩
abbrev cX8_keepSecond : ByteArray := prog_1_method_41_code
def yX8_keepSecond : MethodName := ⟨RX8, "keepSecond", "(ILCensusNight$Shelf;)I"⟩
abbrev cX8_doorsWith : ByteArray := prog_1_method_42_code
def yX8_doorsWith : MethodName := ⟨RX8, "doorsWith", "(I)I"⟩
abbrev cX8_doorsToBeAsked : ByteArray := prog_1_method_43_code
def yX8_doorsToBeAsked : MethodName := ⟨RX8, "doorsToBeAsked", "()I"⟩
abbrev cX8_countedHeads : ByteArray := prog_1_method_44_code
def yX8_countedHeads : MethodName := ⟨RX8, "countedHeads", "()I"⟩
abbrev cX8_struckHeads : ByteArray := prog_1_method_45_code
def yX8_struckHeads : MethodName := ⟨RX8, "struckHeads", "()I"⟩
abbrev cX8_commonDivisor : ByteArray := prog_1_method_46_code
def yX8_commonDivisor : MethodName := ⟨RX8, "commonDivisor", "(JJ)J"⟩
def RX9 : String := "CensusNightModel"
def TX9 : u_T := fun k => match k with
  | 0 => ("CensusNightModel", "block", "[I", true)
  | 1 => ("CensusNightModel", "like", "[I", true)
  | 2 => ("CensusNightModel", "hours", "[I", true)
  | 3 => ("CensusNightModel", "truthSize", "[I", true)
  | 4 => ("CensusNightModel", "truthAge", "[I", true)
  | 5 => ("CensusNightModel", "returned", "[I", true)
  | 6 => ("CensusNightModel", "many", "[I", true)
  | 7 => ("CensusNightModel", "age", "[I", true)
  | 8 => ("CensusNightModel", "knocks", "[I", true)
  | 9 => ("CensusNightModel", "used", "[I", true)
  | 10 => ("CensusNightModel", "from", "[I", true)
  | 11 => ("CensusNightModel", "second", "[I", true)
  | 12 => ("CensusNightModel", "isBroken", "[Z", true)
  | 13 => ("CensusNightModel", "isStruck", "[Z", true)
  | 14 => ("CensusNightModel", "isNear", "[Z", true)
  | 15 => ("CensusNightModel", "hasSecond", "[Z", true)
  | 16 => ("CensusNightModel", "isSecond", "[Z", true)
  | 17 => ("CensusNightModel", "doors", "I", false)
  | 18 => ("CensusNightModel", "mostKnocks", "I", false)
  | 19 => ("CensusNightModel", "knocksAhead", "I", false)
  | 20 => ("CensusNightModel", "leastCell", "I", false)
  | 21 => ("CensusNightModel", "fault", "I", false)
  | 22 => ("CensusNightModel", "isClosed", "Z", false)
  | 23 => ("CensusNightModel", "asked", "[I", true)
  | 24 => ("CensusNightModel", "answered", "[I", true)
  | 25 => ("CensusNightModel", "refused", "[I", true)
  | 26 => ("CensusNightModel", "held", "[I", true)
  | 27 => ("CensusNightModel", "heldAs", "[I", true)
  | 28 => ("CensusNightModel", "size", "[I", true)
  | 29 => ("CensusNightModel", "cell", "[J", true)
  | 30 => ("CensusNightModel", "moved", "[J", true)
  | 31 => ("CensusNightModel", "walker", "[I", true)
  | 32 => ("CensusNightModel", "walk", "[I", true)
  | 33 => ("CensusNightModel", "bestWalk", "[I", true)
  | 34 => ("CensusNightModel", "walkOf", "[I", true)
  | 35 => ("CensusNightModel", "work", "[I", true)
  | 36 => ("CensusNightModel", "walkers", "I", false)
  | 37 => ("CensusNightModel", "made", "[I", true)
  | 38 => ("CensusNightModel", "tried", "[I", true)
  | 39 => ("CensusNightModel", "moving", "[I", true)
  | 40 => ("CensusNightModel", "isHidden", "[Z", true)
  | 41 => ("CensusNightModel", "isTried", "[Z", true)
  | 42 => ("CensusNightModel", "hasTable", "Z", false)
  | 43 => ("CensusNightModel", "whence", "[I", true)
  | 44 => ("CensusNightModel", "queue", "[I", true)
  | _ => ("CensusNightModel", "other", "[I", true)
def tyX9 : Nat → FieldType := fun k => match k with
  | 0 => .array .int
  | 1 => .array .int
  | 2 => .array .int
  | 3 => .array .int
  | 4 => .array .int
  | 5 => .array .int
  | 6 => .array .int
  | 7 => .array .int
  | 8 => .array .int
  | 9 => .array .int
  | 10 => .array .int
  | 11 => .array .int
  | 12 => .array .boolean
  | 13 => .array .boolean
  | 14 => .array .boolean
  | 15 => .array .boolean
  | 16 => .array .boolean
  | 17 => .int
  | 18 => .int
  | 19 => .int
  | 20 => .int
  | 21 => .int
  | 22 => .boolean
  | 23 => .array .int
  | 24 => .array .int
  | 25 => .array .int
  | 26 => .array .int
  | 27 => .array .int
  | 28 => .array .int
  | 29 => .array .long
  | 30 => .array .long
  | 31 => .array .int
  | 32 => .array .int
  | 33 => .array .int
  | 34 => .array .int
  | 35 => .array .int
  | 36 => .int
  | 37 => .array .int
  | 38 => .array .int
  | 39 => .array .int
  | 40 => .array .boolean
  | 41 => .array .boolean
  | 42 => .boolean
  | 43 => .array .int
  | 44 => .array .int
  | _ => .array .int
abbrev wsX90 : List Cond := u_ws RX9 TX9 46
theorem nmX9 : ∀ a, a < 46 → ∀ b, b < 46 → a ≠ b → (TX9 a).2.1 ≠ (TX9 b).2.1 := by decide +kernel
theorem tyX9_ok : ∀ k, k < 46 → parseFieldDescriptor (TX9 k).2.2.1 = some (tyX9 k) := by decide +kernel
abbrev cX9_init : ByteArray := prog_11_method_1_code
def yX9_init : MethodName := ⟨RX9, "<init>", "()V"⟩
abbrev cX9_isIn : ByteArray := prog_11_method_2_code
def yX9_isIn : MethodName := ⟨RX9, "isIn", "(JJJ)Z"⟩
abbrev cX9_no : ByteArray := prog_11_method_3_code
def yX9_no : MethodName := ⟨RX9, "no", "(I)I"⟩
abbrev cX9_isBlock : ByteArray := prog_11_method_4_code
def yX9_isBlock : MethodName := ⟨RX9, "isBlock", "(I)Z"⟩
abbrev cX9_isDoor : ByteArray := prog_11_method_5_code
def yX9_isDoor : MethodName := ⟨RX9, "isDoor", "(I)Z"⟩
abbrev cX9_isShelf : ByteArray := prog_11_method_6_code
def yX9_isShelf : MethodName := ⟨RX9, "isShelf", "(I)Z"⟩
abbrev cX9_lesser : ByteArray := prog_11_method_7_code
def yX9_lesser : MethodName := ⟨RX9, "lesser", "(II)I"⟩
abbrev cX9_door : ByteArray := prog_11_method_8_code
def yX9_door : MethodName := ⟨RX9, "door", "(III)I"⟩
abbrev cX9_near : ByteArray := prog_11_method_9_code
def yX9_near : MethodName := ⟨RX9, "near", "(II)I"⟩
abbrev cX9_fit : ByteArray := prog_11_method_10_code
def yX9_fit : MethodName := ⟨RX9, "fit", "(IJ)J"⟩
abbrev cX9_row : ByteArray := prog_11_method_11_code
def yX9_row : MethodName := ⟨RX9, "row", "(III)I"⟩
abbrev cX9_notRow : ByteArray := prog_11_method_12_code
def yX9_notRow : MethodName := ⟨RX9, "notRow", "(I)I"⟩
abbrev cX9_set : ByteArray := prog_11_method_13_code
def yX9_set : MethodName := ⟨RX9, "set", "(IIJ)I"⟩
abbrev cX9_copy : ByteArray := prog_11_method_14_code
def yX9_copy : MethodName := ⟨RX9, "copy", "(IIIII)I"⟩
abbrev cX9_element : ByteArray := prog_11_method_15_code
def yX9_element : MethodName := ⟨RX9, "element", "(II)J"⟩
abbrev cX9_show : ByteArray := prog_11_method_16_code
def yX9_show : MethodName := ⟨RX9, "show", "(II)I"⟩
abbrev cX9_holds : ByteArray := prog_11_method_17_code
def yX9_holds : MethodName := ⟨RX9, "holds", "(I)I"⟩
abbrev cX9_blockIn : ByteArray := prog_11_method_18_code
def yX9_blockIn : MethodName := ⟨RX9, "blockIn", "(I)I"⟩
abbrev cX9_letter : ByteArray := prog_11_method_19_code
def yX9_letter : MethodName := ⟨RX9, "letter", "(II)I"⟩
abbrev cX9_broken : ByteArray := prog_11_method_20_code
def yX9_broken : MethodName := ⟨RX9, "broken", "(I)I"⟩
abbrev cX9_law : ByteArray := prog_11_method_21_code
def yX9_law : MethodName := ⟨RX9, "law", "(I)I"⟩
abbrev cX9_fault : ByteArray := prog_11_method_22_code
def yX9_fault : MethodName := ⟨RX9, "fault", "()I"⟩
abbrev cX9_isLeast : ByteArray := prog_11_method_23_code
def yX9_isLeast : MethodName := ⟨RX9, "isLeast", "(IJ)Z"⟩
abbrev cX9_truth : ByteArray := prog_11_method_24_code
def yX9_truth : MethodName := ⟨RX9, "truth", "(II)I"⟩
abbrev cX9_isToBeAsked : ByteArray := prog_11_method_25_code
def yX9_isToBeAsked : MethodName := ⟨RX9, "isToBeAsked", "(I)Z"⟩
abbrev cX9_returns : ByteArray := prog_11_method_26_code
def yX9_returns : MethodName := ⟨RX9, "returns", "(III)V"⟩
abbrev cX9_paper : ByteArray := prog_11_method_27_code
def yX9_paper : MethodName := ⟨RX9, "paper", "(I)I"⟩
abbrev cX9_knock : ByteArray := prog_11_method_28_code
def yX9_knock : MethodName := ⟨RX9, "knock", "(II)I"⟩
abbrev cX9_proxy : ByteArray := prog_11_method_29_code
def yX9_proxy : MethodName := ⟨RX9, "proxy", "(II)I"⟩
abbrev cX9_isHead : ByteArray := prog_11_method_30_code
def yX9_isHead : MethodName := ⟨RX9, "isHead", "(II)Z"⟩
abbrev cX9_twice : ByteArray := prog_11_method_31_code
def yX9_twice : MethodName := ⟨RX9, "twice", "(IIII)I"⟩
abbrev cX9_donor : ByteArray := prog_11_method_32_code
def yX9_donor : MethodName := ⟨RX9, "donor", "(I)I"⟩
abbrev cX9_fill : ByteArray := prog_11_method_33_code
def yX9_fill : MethodName := ⟨RX9, "fill", "()I"⟩
abbrev cX9_from : ByteArray := prog_11_method_34_code
def yX9_from : MethodName := ⟨RX9, "from", "(I)I"⟩
abbrev cX9_struckAt : ByteArray := prog_11_method_35_code
def yX9_struckAt : MethodName := ⟨RX9, "struckAt", "(I)I"⟩
abbrev cX9_about : ByteArray := prog_11_method_36_code
def yX9_about : MethodName := ⟨RX9, "about", "(II)I"⟩
abbrev cX9_age : ByteArray := prog_11_method_37_code
def yX9_age : MethodName := ⟨RX9, "age", "(II)I"⟩
abbrev cX9_bandOf : ByteArray := prog_11_method_38_code
def yX9_bandOf : MethodName := ⟨RX9, "bandOf", "(I)I"⟩
abbrev cX9_counted : ByteArray := prog_11_method_39_code
def yX9_counted : MethodName := ⟨RX9, "counted", "(IIZ)I"⟩
abbrev cX9_count : ByteArray := prog_11_method_40_code
def yX9_count : MethodName := ⟨RX9, "count", "(IIZ)I"⟩
abbrev cX9_bestHour : ByteArray := prog_11_method_41_code
def yX9_bestHour : MethodName := ⟨RX9, "bestHour", "(I)I"⟩
abbrev cX9_hangs : ByteArray := prog_11_method_42_code
def yX9_hangs : MethodName := ⟨RX9, "hangs", "(I)Z"⟩
abbrev cX9_greatestWork : ByteArray := prog_11_method_43_code
def yX9_greatestWork : MethodName := ⟨RX9, "greatestWork", "(II)I"⟩
abbrev cX9_walksUpTo : ByteArray := prog_11_method_44_code
def yX9_walksUpTo : MethodName := ⟨RX9, "walksUpTo", "(I)I"⟩
abbrev cX9_nextWalks : ByteArray := prog_11_method_45_code
def yX9_nextWalks : MethodName := ⟨RX9, "nextWalks", "()Z"⟩
abbrev cX9_cut : ByteArray := prog_11_method_46_code
def yX9_cut : MethodName := ⟨RX9, "cut", "(I)I"⟩
abbrev cX9_walk : ByteArray := prog_11_method_47_code
def yX9_walk : MethodName := ⟨RX9, "walk", "(I)I"⟩
abbrev cX9_second : ByteArray := prog_11_method_48_code
def yX9_second : MethodName := ⟨RX9, "second", "(II)I"⟩
abbrev cX9_countedAll : ByteArray := prog_11_method_49_code
def yX9_countedAll : MethodName := ⟨RX9, "countedAll", "()I"⟩
abbrev cX9_divisor : ByteArray := prog_11_method_50_code
def yX9_divisor : MethodName := ⟨RX9, "divisor", "(JJ)J"⟩
abbrev cX9_right : ByteArray := prog_11_method_51_code
def yX9_right : MethodName := ⟨RX9, "right", "(Z)J"⟩
abbrev cX9_heap : ByteArray := prog_11_method_52_code
def yX9_heap : MethodName := ⟨RX9, "heap", "()I"⟩
abbrev cX9_finds : ByteArray := prog_11_method_53_code
def yX9_finds : MethodName := ⟨RX9, "finds", "(III[Z[I)Z"⟩
abbrev cX9_canRise : ByteArray := prog_11_method_54_code
def yX9_canRise : MethodName := ⟨RX9, "canRise", "(I[Z[I)Z"⟩
abbrev cX9_canFall : ByteArray := prog_11_method_55_code
def yX9_canFall : MethodName := ⟨RX9, "canFall", "(I[Z[I)Z"⟩
abbrev cX9_isSmall : ByteArray := prog_11_method_56_code
def yX9_isSmall : MethodName := ⟨RX9, "isSmall", "(I)Z"⟩
abbrev cX9_isSafe : ByteArray := prog_11_method_57_code
def yX9_isSafe : MethodName := ⟨RX9, "isSafe", "()Z"⟩
abbrev cX9_hides : ByteArray := prog_11_method_58_code
def yX9_hides : MethodName := ⟨RX9, "hides", "(I)V"⟩
abbrev cX9_areOthers : ByteArray := prog_11_method_59_code
def yX9_areOthers : MethodName := ⟨RX9, "areOthers", "(I)Z"⟩
abbrev cX9_nextOthers : ByteArray := prog_11_method_60_code
def yX9_nextOthers : MethodName := ⟨RX9, "nextOthers", "(I)Z"⟩
abbrev cX9_findOthers : ByteArray := prog_11_method_61_code
def yX9_findOthers : MethodName := ⟨RX9, "findOthers", "(I)Z"⟩
abbrev cX9_table : ByteArray := prog_11_method_62_code
def yX9_table : MethodName := ⟨RX9, "table", "()I"⟩
abbrev cX9_told : ByteArray := prog_11_method_63_code
def yX9_told : MethodName := ⟨RX9, "told", "(II)I"⟩
abbrev cX9_moves : ByteArray := prog_11_method_64_code
def yX9_moves : MethodName := ⟨RX9, "moves", "(IZ)V"⟩
abbrev cX9_could : ByteArray := prog_11_method_65_code
def yX9_could : MethodName := ⟨RX9, "could", "(IIZ)I"⟩
abbrev cX9_status : ByteArray := prog_11_method_66_code
def yX9_status : MethodName := ⟨RX9, "status", "(I)I"⟩
def RJ6 : String := "java/lang/Integer"
def TJ6 : u_T := fun k => match k with
  | _ => ("", "", "", false)
def tyJ6 : Nat → FieldType := fun k => match k with
  | _ => .int
abbrev wsJ60 : List Cond := u_ws RJ6 TJ6 0
theorem nmJ6 : ∀ a, a < 0 → ∀ b, b < 0 → a ≠ b → (TJ6 a).2.1 ≠ (TJ6 b).2.1 := by decide +kernel
theorem tyJ6_ok : ∀ k, k < 0 → parseFieldDescriptor (TJ6 k).2.2.1 = some (tyJ6 k) := by decide +kernel
abbrev cJ6_bitCount_0f7a4 : ByteArray := prog_12_method_49_code
def yJ6_bitCount_0f7a4 : MethodName := ⟨RJ6, "bitCount", "(I)I"⟩
def RJ9 : String := "java/lang/Math"
def TJ9 : u_T := fun k => match k with
  | _ => ("", "", "", false)
def tyJ9 : Nat → FieldType := fun k => match k with
  | _ => .int
abbrev wsJ90 : List Cond := u_ws RJ9 TJ9 0
theorem nmJ9 : ∀ a, a < 0 → ∀ b, b < 0 → a ≠ b → (TJ9 a).2.1 ≠ (TJ9 b).2.1 := by decide +kernel
theorem tyJ9_ok : ∀ k, k < 0 → parseFieldDescriptor (TJ9 k).2.2.1 = some (tyJ9 k) := by decide +kernel
abbrev cJ9_abs_0f7a4 : ByteArray := prog_13_method_59_code
def yJ9_abs_0f7a4 : MethodName := ⟨RJ9, "abs", "(I)I"⟩
abbrev cJ9_max_7cf53 : ByteArray := prog_13_method_65_code
def yJ9_max_7cf53 : MethodName := ⟨RJ9, "max", "(II)I"⟩
abbrev cJ9_min_7cf53 : ByteArray := prog_13_method_69_code
def yJ9_min_7cf53 : MethodName := ⟨RJ9, "min", "(II)I"⟩
def RJ0 : String := "java/lang/String"
def TJ0 : u_T := fun k => match k with
  | _ => ("", "", "", false)
def tyJ0 : Nat → FieldType := fun k => match k with
  | _ => .int
abbrev wsJ00 : List Cond := u_ws RJ0 TJ0 0
theorem nmJ0 : ∀ a, a < 0 → ∀ b, b < 0 → a ≠ b → (TJ0 a).2.1 ≠ (TJ0 b).2.1 := by decide +kernel
theorem tyJ0_ok : ∀ k, k < 0 → parseFieldDescriptor (TJ0 k).2.2.1 = some (tyJ0 k) := by decide +kernel
abbrev cJ0_charAt_5068e : ByteArray := prog_14_method_56_code
def yJ0_charAt_5068e : MethodName := ⟨RJ0, "charAt", "(I)C"⟩
abbrev cJ0_isLatin1_aae02 : ByteArray := prog_14_method_154_code
def yJ0_isLatin1_aae02 : MethodName := ⟨RJ0, "isLatin1", "()Z"⟩
abbrev cJ0_checkIndex_df160 : ByteArray := prog_14_method_155_code
def yJ0_checkIndex_df160 : MethodName := ⟨RJ0, "checkIndex", "(II)V"⟩
def RJ1 : String := "java/lang/StringLatin1"
def TJ1 : u_T := fun k => match k with
  | _ => ("", "", "", false)
def tyJ1 : Nat → FieldType := fun k => match k with
  | _ => .int
abbrev wsJ10 : List Cond := u_ws RJ1 TJ1 0
theorem nmJ1 : ∀ a, a < 0 → ∀ b, b < 0 → a ≠ b → (TJ1 a).2.1 ≠ (TJ1 b).2.1 := by decide +kernel
theorem tyJ1_ok : ∀ k, k < 0 → parseFieldDescriptor (TJ1 k).2.2.1 = some (tyJ1 k) := by decide +kernel
abbrev cJ1_charAt_3b067 : ByteArray := prog_15_method_2_code
def yJ1_charAt_3b067 : MethodName := ⟨RJ1, "charAt", "([BI)C"⟩
def RJ2 : String := "java/lang/StringUTF16"
def TJ2 : u_T := fun k => match k with
  | _ => ("", "", "", false)
def tyJ2 : Nat → FieldType := fun k => match k with
  | _ => .int
abbrev wsJ20 : List Cond := u_ws RJ2 TJ2 0
theorem nmJ2 : ∀ a, a < 0 → ∀ b, b < 0 → a ≠ b → (TJ2 a).2.1 ≠ (TJ2 b).2.1 := by decide +kernel
theorem tyJ2_ok : ∀ k, k < 0 → parseFieldDescriptor (TJ2 k).2.2.1 = some (tyJ2 k) := by decide +kernel
abbrev cJ2_getChar_3b067 : ByteArray := prog_16_method_5_code
def yJ2_getChar_3b067 : MethodName := ⟨RJ2, "getChar", "([BI)C"⟩
abbrev cJ2_length_9d52b : ByteArray := prog_16_method_6_code
def yJ2_length_9d52b : MethodName := ⟨RJ2, "length", "([B)I"⟩
abbrev cJ2_charAt_3b067 : ByteArray := prog_16_method_83_code
def yJ2_charAt_3b067 : MethodName := ⟨RJ2, "charAt", "([BI)C"⟩
abbrev cJ2_checkIndex_2214a : ByteArray := prog_16_method_91_code
def yJ2_checkIndex_2214a : MethodName := ⟨RJ2, "checkIndex", "(I[B)V"⟩
def RJ10 : String := "java/lang/System"
def TJ10 : u_T := fun k => match k with
  | _ => ("", "", "", false)
def tyJ10 : Nat → FieldType := fun k => match k with
  | _ => .int
abbrev wsJ100 : List Cond := u_ws RJ10 TJ10 0
theorem nmJ10 : ∀ a, a < 0 → ∀ b, b < 0 → a ≠ b → (TJ10 a).2.1 ≠ (TJ10 b).2.1 := by decide +kernel
theorem tyJ10_ok : ∀ k, k < 0 → parseFieldDescriptor (TJ10 k).2.2.1 = some (tyJ10 k) := by decide +kernel
def RJ7 : String := "java/util/Arrays"
def TJ7 : u_T := fun k => match k with
  | _ => ("", "", "", false)
def tyJ7 : Nat → FieldType := fun k => match k with
  | _ => .int
abbrev wsJ70 : List Cond := u_ws RJ7 TJ7 0
theorem nmJ7 : ∀ a, a < 0 → ∀ b, b < 0 → a ≠ b → (TJ7 a).2.1 ≠ (TJ7 b).2.1 := by decide +kernel
theorem tyJ7_ok : ∀ k, k < 0 → parseFieldDescriptor (TJ7 k).2.2.1 = some (tyJ7 k) := by decide +kernel
abbrev cJ7_fill_d0a16 : ByteArray := prog_18_method_101_code
def yJ7_fill_d0a16 : MethodName := ⟨RJ7, "fill", "([JJ)V"⟩
abbrev cJ7_fill_53178 : ByteArray := prog_18_method_103_code
def yJ7_fill_53178 : MethodName := ⟨RJ7, "fill", "([II)V"⟩
def RJ3 : String := "jdk/internal/util/Preconditions"
def TJ3 : u_T := fun k => match k with
  | _ => ("", "", "", false)
def tyJ3 : Nat → FieldType := fun k => match k with
  | _ => .int
abbrev wsJ30 : List Cond := u_ws RJ3 TJ3 0
theorem nmJ3 : ∀ a, a < 0 → ∀ b, b < 0 → a ≠ b → (TJ3 a).2.1 ≠ (TJ3 b).2.1 := by decide +kernel
theorem tyJ3_ok : ∀ k, k < 0 → parseFieldDescriptor (TJ3 k).2.2.1 = some (tyJ3 k) := by decide +kernel
abbrev cJ3_checkIndex_8e157 : ByteArray := prog_19_method_11_code
def yJ3_checkIndex_8e157 : MethodName := ⟨RJ3, "checkIndex", "(IILjava/util/function/BiFunction;)I"⟩
def RL : String := "CensusNightLaw"
abbrev cL_law : ByteArray := code
def yL_law : MethodName := ⟨RL, "law", "([I)Z"⟩
end
section
theorem dX0_init_0 : decode cX0_init 0 = .ok (.aload_n 0, 1) := by decide +kernel
theorem dX0_init_1 : decode cX0_init 1 = .ok (.invokespecial 3, 3) := by decide +kernel
theorem dX0_init_4 : decode cX0_init 4 = .ok (.aload_n 0, 1) := by decide +kernel
theorem dX0_init_5 : decode cX0_init 5 = .ok (.bipush 40, 2) := by decide +kernel
theorem dX0_init_7 : decode cX0_init 7 = .ok (.newarray .int, 2) := by decide +kernel
theorem dX0_init_9 : decode cX0_init 9 = .ok (.putfield 9, 3) := by decide +kernel
theorem dX0_init_12 : decode cX0_init 12 = .ok (.aload_n 0, 1) := by decide +kernel
theorem dX0_init_13 : decode cX0_init 13 = .ok (.bipush 40, 2) := by decide +kernel
theorem dX0_init_15 : decode cX0_init 15 = .ok (.newarray .int, 2) := by decide +kernel
theorem dX0_init_17 : decode cX0_init 17 = .ok (.putfield 15, 3) := by decide +kernel
theorem dX0_init_20 : decode cX0_init 20 = .ok (.return_, 1) := by decide +kernel
theorem dX0_note_0 : decode cX0_note 0 = .ok (.iload_n 1, 1) := by decide +kernel
theorem dX0_note_1 : decode cX0_note 1 = .ok (.bipush 10, 2) := by decide +kernel
theorem dX0_note_3 : decode cX0_note 3 = .ok (.imul, 1) := by decide +kernel
theorem dX0_note_4 : decode cX0_note 4 = .ok (.iload_n 2, 1) := by decide +kernel
theorem dX0_note_5 : decode cX0_note 5 = .ok (.iadd, 1) := by decide +kernel
theorem dX0_note_6 : decode cX0_note 6 = .ok (.istore 4, 2) := by decide +kernel
theorem dX0_note_8 : decode cX0_note 8 = .ok (.iload 4, 2) := by decide +kernel
theorem dX0_note_10 : decode cX0_note 10 = .ok (.ifCond .lt 13, 3) := by decide +kernel
theorem dX0_note_13 : decode cX0_note 13 = .ok (.iload 4, 2) := by decide +kernel
theorem dX0_note_15 : decode cX0_note 15 = .ok (.aload_n 0, 1) := by decide +kernel
theorem dX0_note_16 : decode cX0_note 16 = .ok (.getfield 9, 3) := by decide +kernel
theorem dX0_note_19 : decode cX0_note 19 = .ok (.arraylength, 1) := by decide +kernel
theorem dX0_note_20 : decode cX0_note 20 = .ok (.if_icmp .lt 4, 3) := by decide +kernel
theorem dX0_note_23 : decode cX0_note 23 = .ok (.return_, 1) := by decide +kernel
theorem dX0_note_24 : decode cX0_note 24 = .ok (.aload_n 0, 1) := by decide +kernel
theorem dX0_note_25 : decode cX0_note 25 = .ok (.getfield 9, 3) := by decide +kernel
theorem dX0_note_28 : decode cX0_note 28 = .ok (.iload 4, 2) := by decide +kernel
theorem dX0_note_30 : decode cX0_note 30 = .ok (.dup2, 1) := by decide +kernel
theorem dX0_note_31 : decode cX0_note 31 = .ok (.iaload, 1) := by decide +kernel
theorem dX0_note_32 : decode cX0_note 32 = .ok (.iconst 1, 1) := by decide +kernel
theorem dX0_note_33 : decode cX0_note 33 = .ok (.iadd, 1) := by decide +kernel
theorem dX0_note_34 : decode cX0_note 34 = .ok (.iastore, 1) := by decide +kernel
theorem dX0_note_35 : decode cX0_note 35 = .ok (.aload_n 0, 1) := by decide +kernel
theorem dX0_note_36 : decode cX0_note 36 = .ok (.dup, 1) := by decide +kernel
theorem dX0_note_37 : decode cX0_note 37 = .ok (.getfield 18, 3) := by decide +kernel
theorem dX0_note_40 : decode cX0_note 40 = .ok (.iconst 1, 1) := by decide +kernel
theorem dX0_note_41 : decode cX0_note 41 = .ok (.iadd, 1) := by decide +kernel
theorem dX0_note_42 : decode cX0_note 42 = .ok (.putfield 18, 3) := by decide +kernel
theorem dX0_note_45 : decode cX0_note 45 = .ok (.iload_n 3, 1) := by decide +kernel
theorem dX0_note_46 : decode cX0_note 46 = .ok (.ifCond .eq 24, 3) := by decide +kernel
theorem dX0_note_49 : decode cX0_note 49 = .ok (.aload_n 0, 1) := by decide +kernel
theorem dX0_note_50 : decode cX0_note 50 = .ok (.getfield 15, 3) := by decide +kernel
theorem dX0_note_53 : decode cX0_note 53 = .ok (.iload 4, 2) := by decide +kernel
theorem dX0_note_55 : decode cX0_note 55 = .ok (.dup2, 1) := by decide +kernel
theorem dX0_note_56 : decode cX0_note 56 = .ok (.iaload, 1) := by decide +kernel
theorem dX0_note_57 : decode cX0_note 57 = .ok (.iconst 1, 1) := by decide +kernel
theorem dX0_note_58 : decode cX0_note 58 = .ok (.iadd, 1) := by decide +kernel
theorem dX0_note_59 : decode cX0_note 59 = .ok (.iastore, 1) := by decide +kernel
theorem dX0_note_60 : decode cX0_note 60 = .ok (.aload_n 0, 1) := by decide +kernel
theorem dX0_note_61 : decode cX0_note 61 = .ok (.dup, 1) := by decide +kernel
theorem dX0_note_62 : decode cX0_note 62 = .ok (.getfield 22, 3) := by decide +kernel
theorem dX0_note_65 : decode cX0_note 65 = .ok (.iconst 1, 1) := by decide +kernel
theorem dX0_note_66 : decode cX0_note 66 = .ok (.iadd, 1) := by decide +kernel
theorem dX0_note_67 : decode cX0_note 67 = .ok (.putfield 22, 3) := by decide +kernel
theorem dX0_note_70 : decode cX0_note 70 = .ok (.return_, 1) := by decide +kernel
theorem dX0_greatest_0 : decode cX0_greatest 0 = .ok (.iconst 0, 1) := by decide +kernel
theorem dX0_greatest_1 : decode cX0_greatest 1 = .ok (.istore_n 2, 1) := by decide +kernel
theorem dX0_greatest_2 : decode cX0_greatest 2 = .ok (.iconst 1, 1) := by decide +kernel
theorem dX0_greatest_3 : decode cX0_greatest 3 = .ok (.istore_n 3, 1) := by decide +kernel
theorem dX0_greatest_4 : decode cX0_greatest 4 = .ok (.iload_n 3, 1) := by decide +kernel
theorem dX0_greatest_5 : decode cX0_greatest 5 = .ok (.bipush 10, 2) := by decide +kernel
theorem dX0_greatest_7 : decode cX0_greatest 7 = .ok (.if_icmp .ge 30, 3) := by decide +kernel
theorem dX0_greatest_10 : decode cX0_greatest 10 = .ok (.aload_n 0, 1) := by decide +kernel
theorem dX0_greatest_11 : decode cX0_greatest 11 = .ok (.iload_n 1, 1) := by decide +kernel
theorem dX0_greatest_12 : decode cX0_greatest 12 = .ok (.bipush 10, 2) := by decide +kernel
theorem dX0_greatest_14 : decode cX0_greatest 14 = .ok (.imul, 1) := by decide +kernel
theorem dX0_greatest_15 : decode cX0_greatest 15 = .ok (.iload_n 3, 1) := by decide +kernel
theorem dX0_greatest_16 : decode cX0_greatest 16 = .ok (.iadd, 1) := by decide +kernel
theorem dX0_greatest_17 : decode cX0_greatest 17 = .ok (.iload_n 1, 1) := by decide +kernel
theorem dX0_greatest_18 : decode cX0_greatest 18 = .ok (.bipush 10, 2) := by decide +kernel
theorem dX0_greatest_20 : decode cX0_greatest 20 = .ok (.imul, 1) := by decide +kernel
theorem dX0_greatest_21 : decode cX0_greatest 21 = .ok (.iload_n 2, 1) := by decide +kernel
theorem dX0_greatest_22 : decode cX0_greatest 22 = .ok (.iadd, 1) := by decide +kernel
theorem dX0_greatest_23 : decode cX0_greatest 23 = .ok (.invokevirtual 25, 3) := by decide +kernel
theorem dX0_greatest_26 : decode cX0_greatest 26 = .ok (.ifCond .eq 5, 3) := by decide +kernel
theorem dX0_greatest_29 : decode cX0_greatest 29 = .ok (.iload_n 3, 1) := by decide +kernel
theorem dX0_greatest_30 : decode cX0_greatest 30 = .ok (.istore_n 2, 1) := by decide +kernel
theorem dX0_greatest_31 : decode cX0_greatest 31 = .ok (.iinc 3 1, 3) := by decide +kernel
theorem dX0_greatest_34 : decode cX0_greatest 34 = .ok (.goto (-30), 3) := by decide +kernel
theorem dX0_greatest_37 : decode cX0_greatest 37 = .ok (.iload_n 2, 1) := by decide +kernel
theorem dX0_greatest_38 : decode cX0_greatest 38 = .ok (.ireturn, 1) := by decide +kernel
theorem dX0_isGreater_0 : decode cX0_isGreater 0 = .ok (.aload_n 0, 1) := by decide +kernel
theorem dX0_isGreater_1 : decode cX0_isGreater 1 = .ok (.getfield 15, 3) := by decide +kernel
theorem dX0_isGreater_4 : decode cX0_isGreater 4 = .ok (.iload_n 1, 1) := by decide +kernel
theorem dX0_isGreater_5 : decode cX0_isGreater 5 = .ok (.iaload, 1) := by decide +kernel
theorem dX0_isGreater_6 : decode cX0_isGreater 6 = .ok (.iconst 1, 1) := by decide +kernel
theorem dX0_isGreater_7 : decode cX0_isGreater 7 = .ok (.iadd, 1) := by decide +kernel
theorem dX0_isGreater_8 : decode cX0_isGreater 8 = .ok (.aload_n 0, 1) := by decide +kernel
theorem dX0_isGreater_9 : decode cX0_isGreater 9 = .ok (.getfield 9, 3) := by decide +kernel
theorem dX0_isGreater_12 : decode cX0_isGreater 12 = .ok (.iload_n 2, 1) := by decide +kernel
theorem dX0_isGreater_13 : decode cX0_isGreater 13 = .ok (.iaload, 1) := by decide +kernel
theorem dX0_isGreater_14 : decode cX0_isGreater 14 = .ok (.iconst 2, 1) := by decide +kernel
theorem dX0_isGreater_15 : decode cX0_isGreater 15 = .ok (.iadd, 1) := by decide +kernel
theorem dX0_isGreater_16 : decode cX0_isGreater 16 = .ok (.imul, 1) := by decide +kernel
theorem dX0_isGreater_17 : decode cX0_isGreater 17 = .ok (.istore_n 3, 1) := by decide +kernel
theorem dX0_isGreater_18 : decode cX0_isGreater 18 = .ok (.aload_n 0, 1) := by decide +kernel
theorem dX0_isGreater_19 : decode cX0_isGreater 19 = .ok (.getfield 15, 3) := by decide +kernel
theorem dX0_isGreater_22 : decode cX0_isGreater 22 = .ok (.iload_n 2, 1) := by decide +kernel
theorem dX0_isGreater_23 : decode cX0_isGreater 23 = .ok (.iaload, 1) := by decide +kernel
theorem dX0_isGreater_24 : decode cX0_isGreater 24 = .ok (.iconst 1, 1) := by decide +kernel
theorem dX0_isGreater_25 : decode cX0_isGreater 25 = .ok (.iadd, 1) := by decide +kernel
theorem dX0_isGreater_26 : decode cX0_isGreater 26 = .ok (.aload_n 0, 1) := by decide +kernel
theorem dX0_isGreater_27 : decode cX0_isGreater 27 = .ok (.getfield 9, 3) := by decide +kernel
theorem dX0_isGreater_30 : decode cX0_isGreater 30 = .ok (.iload_n 1, 1) := by decide +kernel
theorem dX0_isGreater_31 : decode cX0_isGreater 31 = .ok (.iaload, 1) := by decide +kernel
theorem dX0_isGreater_32 : decode cX0_isGreater 32 = .ok (.iconst 2, 1) := by decide +kernel
theorem dX0_isGreater_33 : decode cX0_isGreater 33 = .ok (.iadd, 1) := by decide +kernel
theorem dX0_isGreater_34 : decode cX0_isGreater 34 = .ok (.imul, 1) := by decide +kernel
theorem dX0_isGreater_35 : decode cX0_isGreater 35 = .ok (.istore 4, 2) := by decide +kernel
theorem dX0_isGreater_37 : decode cX0_isGreater 37 = .ok (.iload_n 3, 1) := by decide +kernel
theorem dX0_isGreater_38 : decode cX0_isGreater 38 = .ok (.iload 4, 2) := by decide +kernel
theorem dX0_isGreater_40 : decode cX0_isGreater 40 = .ok (.if_icmp .le 7, 3) := by decide +kernel
theorem dX0_isGreater_43 : decode cX0_isGreater 43 = .ok (.iconst 1, 1) := by decide +kernel
theorem dX0_isGreater_44 : decode cX0_isGreater 44 = .ok (.goto 4, 3) := by decide +kernel
theorem dX0_isGreater_47 : decode cX0_isGreater 47 = .ok (.iconst 0, 1) := by decide +kernel
theorem dX0_isGreater_48 : decode cX0_isGreater 48 = .ok (.ireturn, 1) := by decide +kernel
theorem dX1_init_0 : decode cX1_init 0 = .ok (.aload_n 0, 1) := by decide +kernel
theorem dX1_init_1 : decode cX1_init 1 = .ok (.invokespecial 3, 3) := by decide +kernel
theorem dX1_init_4 : decode cX1_init 4 = .ok (.aload_n 0, 1) := by decide +kernel
theorem dX1_init_5 : decode cX1_init 5 = .ok (.bipush 12, 2) := by decide +kernel
theorem dX1_init_7 : decode cX1_init 7 = .ok (.newarray .int, 2) := by decide +kernel
theorem dX1_init_9 : decode cX1_init 9 = .ok (.putfield 9, 3) := by decide +kernel
theorem dX1_init_12 : decode cX1_init 12 = .ok (.aload_n 0, 1) := by decide +kernel
theorem dX1_init_13 : decode cX1_init 13 = .ok (.bipush 12, 2) := by decide +kernel
theorem dX1_init_15 : decode cX1_init 15 = .ok (.newarray .int, 2) := by decide +kernel
theorem dX1_init_17 : decode cX1_init 17 = .ok (.putfield 15, 3) := by decide +kernel
theorem dX1_init_20 : decode cX1_init 20 = .ok (.aload_n 0, 1) := by decide +kernel
theorem dX1_init_21 : decode cX1_init 21 = .ok (.iconst 0, 1) := by decide +kernel
theorem dX1_init_22 : decode cX1_init 22 = .ok (.putfield 18, 3) := by decide +kernel
theorem dX1_init_25 : decode cX1_init 25 = .ok (.aload_n 0, 1) := by decide +kernel
theorem dX1_init_26 : decode cX1_init 26 = .ok (.iconst (-1), 1) := by decide +kernel
theorem dX1_init_27 : decode cX1_init 27 = .ok (.putfield 22, 3) := by decide +kernel
theorem dX1_init_30 : decode cX1_init 30 = .ok (.aload_n 0, 1) := by decide +kernel
theorem dX1_init_31 : decode cX1_init 31 = .ok (.iconst (-1), 1) := by decide +kernel
theorem dX1_init_32 : decode cX1_init 32 = .ok (.putfield 25, 3) := by decide +kernel
theorem dX1_init_35 : decode cX1_init 35 = .ok (.aload_n 0, 1) := by decide +kernel
theorem dX1_init_36 : decode cX1_init 36 = .ok (.iload_n 1, 1) := by decide +kernel
theorem dX1_init_37 : decode cX1_init 37 = .ok (.putfield 28, 3) := by decide +kernel
theorem dX1_init_40 : decode cX1_init 40 = .ok (.aload_n 0, 1) := by decide +kernel
theorem dX1_init_41 : decode cX1_init 41 = .ok (.iload_n 2, 1) := by decide +kernel
theorem dX1_init_42 : decode cX1_init 42 = .ok (.putfield 31, 3) := by decide +kernel
theorem dX1_init_45 : decode cX1_init 45 = .ok (.aload_n 0, 1) := by decide +kernel
theorem dX1_init_46 : decode cX1_init 46 = .ok (.iload_n 3, 1) := by decide +kernel
theorem dX1_init_47 : decode cX1_init 47 = .ok (.putfield 34, 3) := by decide +kernel
theorem dX1_init_50 : decode cX1_init 50 = .ok (.return_, 1) := by decide +kernel
theorem dX1_learnTruth_0 : decode cX1_learnTruth 0 = .ok (.aload_n 0, 1) := by decide +kernel
theorem dX1_learnTruth_1 : decode cX1_learnTruth 1 = .ok (.aload_n 1, 1) := by decide +kernel
theorem dX1_learnTruth_2 : decode cX1_learnTruth 2 = .ok (.getfield 37, 3) := by decide +kernel
theorem dX1_learnTruth_5 : decode cX1_learnTruth 5 = .ok (.bipush 12, 2) := by decide +kernel
theorem dX1_learnTruth_7 : decode cX1_learnTruth 7 = .ok (.invokestatic 42, 3) := by decide +kernel
theorem dX1_learnTruth_10 : decode cX1_learnTruth 10 = .ok (.putfield 48, 3) := by decide +kernel
theorem dX1_learnTruth_13 : decode cX1_learnTruth 13 = .ok (.iconst 0, 1) := by decide +kernel
theorem dX1_learnTruth_14 : decode cX1_learnTruth 14 = .ok (.istore_n 2, 1) := by decide +kernel
theorem dX1_learnTruth_15 : decode cX1_learnTruth 15 = .ok (.iload_n 2, 1) := by decide +kernel
theorem dX1_learnTruth_16 : decode cX1_learnTruth 16 = .ok (.aload_n 0, 1) := by decide +kernel
theorem dX1_learnTruth_17 : decode cX1_learnTruth 17 = .ok (.getfield 48, 3) := by decide +kernel
theorem dX1_learnTruth_20 : decode cX1_learnTruth 20 = .ok (.if_icmp .ge 20, 3) := by decide +kernel
theorem dX1_learnTruth_23 : decode cX1_learnTruth 23 = .ok (.aload_n 0, 1) := by decide +kernel
theorem dX1_learnTruth_24 : decode cX1_learnTruth 24 = .ok (.getfield 9, 3) := by decide +kernel
theorem dX1_learnTruth_27 : decode cX1_learnTruth 27 = .ok (.iload_n 2, 1) := by decide +kernel
theorem dX1_learnTruth_28 : decode cX1_learnTruth 28 = .ok (.aload_n 1, 1) := by decide +kernel
theorem dX1_learnTruth_29 : decode cX1_learnTruth 29 = .ok (.iload_n 2, 1) := by decide +kernel
theorem dX1_learnTruth_30 : decode cX1_learnTruth 30 = .ok (.invokevirtual 51, 3) := by decide +kernel
theorem dX1_learnTruth_33 : decode cX1_learnTruth 33 = .ok (.iastore, 1) := by decide +kernel
theorem dX1_learnTruth_34 : decode cX1_learnTruth 34 = .ok (.iinc 2 1, 3) := by decide +kernel
theorem dX1_learnTruth_37 : decode cX1_learnTruth 37 = .ok (.goto (-22), 3) := by decide +kernel
theorem dX1_learnTruth_40 : decode cX1_learnTruth 40 = .ok (.aload_n 0, 1) := by decide +kernel
theorem dX1_learnTruth_41 : decode cX1_learnTruth 41 = .ok (.getfield 48, 3) := by decide +kernel
theorem dX1_learnTruth_44 : decode cX1_learnTruth 44 = .ok (.ireturn, 1) := by decide +kernel
theorem dX1_isToBeAsked_0 : decode cX1_isToBeAsked 0 = .ok (.aload_n 0, 1) := by decide +kernel
theorem dX1_isToBeAsked_1 : decode cX1_isToBeAsked 1 = .ok (.getfield 18, 3) := by decide +kernel
theorem dX1_isToBeAsked_4 : decode cX1_isToBeAsked 4 = .ok (.ifCond .eq 18, 3) := by decide +kernel
theorem dX1_isToBeAsked_7 : decode cX1_isToBeAsked 7 = .ok (.aload_n 0, 1) := by decide +kernel
theorem dX1_isToBeAsked_8 : decode cX1_isToBeAsked 8 = .ok (.getfield 18, 3) := by decide +kernel
theorem dX1_isToBeAsked_11 : decode cX1_isToBeAsked 11 = .ok (.iconst 3, 1) := by decide +kernel
theorem dX1_isToBeAsked_12 : decode cX1_isToBeAsked 12 = .ok (.if_icmp .eq 10, 3) := by decide +kernel
theorem dX1_isToBeAsked_15 : decode cX1_isToBeAsked 15 = .ok (.aload_n 0, 1) := by decide +kernel
theorem dX1_isToBeAsked_16 : decode cX1_isToBeAsked 16 = .ok (.getfield 55, 3) := by decide +kernel
theorem dX1_isToBeAsked_19 : decode cX1_isToBeAsked 19 = .ok (.ifCond .eq 7, 3) := by decide +kernel
theorem dX1_isToBeAsked_22 : decode cX1_isToBeAsked 22 = .ok (.iconst 1, 1) := by decide +kernel
theorem dX1_isToBeAsked_23 : decode cX1_isToBeAsked 23 = .ok (.goto 4, 3) := by decide +kernel
theorem dX1_isToBeAsked_26 : decode cX1_isToBeAsked 26 = .ok (.iconst 0, 1) := by decide +kernel
theorem dX1_isToBeAsked_27 : decode cX1_isToBeAsked 27 = .ok (.ireturn, 1) := by decide +kernel
theorem dX1_startReturn_0 : decode cX1_startReturn 0 = .ok (.aload_n 0, 1) := by decide +kernel
theorem dX1_startReturn_1 : decode cX1_startReturn 1 = .ok (.iload_n 1, 1) := by decide +kernel
theorem dX1_startReturn_2 : decode cX1_startReturn 2 = .ok (.putfield 18, 3) := by decide +kernel
theorem dX1_startReturn_5 : decode cX1_startReturn 5 = .ok (.aload_n 0, 1) := by decide +kernel
theorem dX1_startReturn_6 : decode cX1_startReturn 6 = .ok (.iconst 0, 1) := by decide +kernel
theorem dX1_startReturn_7 : decode cX1_startReturn 7 = .ok (.putfield 55, 3) := by decide +kernel
theorem dX1_startReturn_10 : decode cX1_startReturn 10 = .ok (.aload_n 0, 1) := by decide +kernel
theorem dX1_startReturn_11 : decode cX1_startReturn 11 = .ok (.iconst 0, 1) := by decide +kernel
theorem dX1_startReturn_12 : decode cX1_startReturn 12 = .ok (.putfield 59, 3) := by decide +kernel
theorem dX1_startReturn_15 : decode cX1_startReturn 15 = .ok (.aload_n 0, 1) := by decide +kernel
theorem dX1_startReturn_16 : decode cX1_startReturn 16 = .ok (.iconst 0, 1) := by decide +kernel
theorem dX1_startReturn_17 : decode cX1_startReturn 17 = .ok (.putfield 62, 3) := by decide +kernel
theorem dX1_startReturn_20 : decode cX1_startReturn 20 = .ok (.return_, 1) := by decide +kernel
theorem dX1_addHead_0 : decode cX1_addHead 0 = .ok (.aload_n 0, 1) := by decide +kernel
theorem dX1_addHead_1 : decode cX1_addHead 1 = .ok (.getfield 59, 3) := by decide +kernel
theorem dX1_addHead_4 : decode cX1_addHead 4 = .ok (.bipush 12, 2) := by decide +kernel
theorem dX1_addHead_6 : decode cX1_addHead 6 = .ok (.if_icmp .ge 23, 3) := by decide +kernel
theorem dX1_addHead_9 : decode cX1_addHead 9 = .ok (.aload_n 0, 1) := by decide +kernel
theorem dX1_addHead_10 : decode cX1_addHead 10 = .ok (.getfield 15, 3) := by decide +kernel
theorem dX1_addHead_13 : decode cX1_addHead 13 = .ok (.aload_n 0, 1) := by decide +kernel
theorem dX1_addHead_14 : decode cX1_addHead 14 = .ok (.getfield 59, 3) := by decide +kernel
theorem dX1_addHead_17 : decode cX1_addHead 17 = .ok (.iload_n 1, 1) := by decide +kernel
theorem dX1_addHead_18 : decode cX1_addHead 18 = .ok (.iastore, 1) := by decide +kernel
theorem dX1_addHead_19 : decode cX1_addHead 19 = .ok (.aload_n 0, 1) := by decide +kernel
theorem dX1_addHead_20 : decode cX1_addHead 20 = .ok (.dup, 1) := by decide +kernel
theorem dX1_addHead_21 : decode cX1_addHead 21 = .ok (.getfield 59, 3) := by decide +kernel
theorem dX1_addHead_24 : decode cX1_addHead 24 = .ok (.iconst 1, 1) := by decide +kernel
theorem dX1_addHead_25 : decode cX1_addHead 25 = .ok (.iadd, 1) := by decide +kernel
theorem dX1_addHead_26 : decode cX1_addHead 26 = .ok (.putfield 59, 3) := by decide +kernel
theorem dX1_addHead_29 : decode cX1_addHead 29 = .ok (.return_, 1) := by decide +kernel
theorem dX1_takePaper_0 : decode cX1_takePaper 0 = .ok (.aload_n 0, 1) := by decide +kernel
theorem dX1_takePaper_1 : decode cX1_takePaper 1 = .ok (.iconst 1, 1) := by decide +kernel
theorem dX1_takePaper_2 : decode cX1_takePaper 2 = .ok (.invokevirtual 65, 3) := by decide +kernel
theorem dX1_takePaper_5 : decode cX1_takePaper 5 = .ok (.iconst 0, 1) := by decide +kernel
theorem dX1_takePaper_6 : decode cX1_takePaper 6 = .ok (.istore_n 1, 1) := by decide +kernel
theorem dX1_takePaper_7 : decode cX1_takePaper 7 = .ok (.iload_n 1, 1) := by decide +kernel
theorem dX1_takePaper_8 : decode cX1_takePaper 8 = .ok (.aload_n 0, 1) := by decide +kernel
theorem dX1_takePaper_9 : decode cX1_takePaper 9 = .ok (.getfield 48, 3) := by decide +kernel
theorem dX1_takePaper_12 : decode cX1_takePaper 12 = .ok (.if_icmp .ge 45, 3) := by decide +kernel
theorem dX1_takePaper_15 : decode cX1_takePaper 15 = .ok (.aload_n 0, 1) := by decide +kernel
theorem dX1_takePaper_16 : decode cX1_takePaper 16 = .ok (.getfield 55, 3) := by decide +kernel
theorem dX1_takePaper_19 : decode cX1_takePaper 19 = .ok (.ifCond .ne 38, 3) := by decide +kernel
theorem dX1_takePaper_22 : decode cX1_takePaper 22 = .ok (.aload_n 0, 1) := by decide +kernel
theorem dX1_takePaper_23 : decode cX1_takePaper 23 = .ok (.getfield 9, 3) := by decide +kernel
theorem dX1_takePaper_26 : decode cX1_takePaper 26 = .ok (.iload_n 1, 1) := by decide +kernel
theorem dX1_takePaper_27 : decode cX1_takePaper 27 = .ok (.iaload, 1) := by decide +kernel
theorem dX1_takePaper_28 : decode cX1_takePaper 28 = .ok (.bipush (-2), 2) := by decide +kernel
theorem dX1_takePaper_30 : decode cX1_takePaper 30 = .ok (.if_icmp .ne 11, 3) := by decide +kernel
theorem dX1_takePaper_33 : decode cX1_takePaper 33 = .ok (.aload_n 0, 1) := by decide +kernel
theorem dX1_takePaper_34 : decode cX1_takePaper 34 = .ok (.iconst 1, 1) := by decide +kernel
theorem dX1_takePaper_35 : decode cX1_takePaper 35 = .ok (.putfield 55, 3) := by decide +kernel
theorem dX1_takePaper_38 : decode cX1_takePaper 38 = .ok (.goto 13, 3) := by decide +kernel
theorem dX1_takePaper_41 : decode cX1_takePaper 41 = .ok (.aload_n 0, 1) := by decide +kernel
theorem dX1_takePaper_42 : decode cX1_takePaper 42 = .ok (.aload_n 0, 1) := by decide +kernel
theorem dX1_takePaper_43 : decode cX1_takePaper 43 = .ok (.getfield 9, 3) := by decide +kernel
theorem dX1_takePaper_46 : decode cX1_takePaper 46 = .ok (.iload_n 1, 1) := by decide +kernel
theorem dX1_takePaper_47 : decode cX1_takePaper 47 = .ok (.iaload, 1) := by decide +kernel
theorem dX1_takePaper_48 : decode cX1_takePaper 48 = .ok (.invokevirtual 69, 3) := by decide +kernel
theorem dX1_takePaper_51 : decode cX1_takePaper 51 = .ok (.iinc 1 1, 3) := by decide +kernel
theorem dX1_takePaper_54 : decode cX1_takePaper 54 = .ok (.goto (-47), 3) := by decide +kernel
theorem dX1_takePaper_57 : decode cX1_takePaper 57 = .ok (.aload_n 0, 1) := by decide +kernel
theorem dX1_takePaper_58 : decode cX1_takePaper 58 = .ok (.getfield 59, 3) := by decide +kernel
theorem dX1_takePaper_61 : decode cX1_takePaper 61 = .ok (.ireturn, 1) := by decide +kernel
theorem dX1_takeKnock_0 : decode cX1_takeKnock 0 = .ok (.aload_n 0, 1) := by decide +kernel
theorem dX1_takeKnock_1 : decode cX1_takeKnock 1 = .ok (.dup, 1) := by decide +kernel
theorem dX1_takeKnock_2 : decode cX1_takeKnock 2 = .ok (.getfield 72, 3) := by decide +kernel
theorem dX1_takeKnock_5 : decode cX1_takeKnock 5 = .ok (.iconst 1, 1) := by decide +kernel
theorem dX1_takeKnock_6 : decode cX1_takeKnock 6 = .ok (.iadd, 1) := by decide +kernel
theorem dX1_takeKnock_7 : decode cX1_takeKnock 7 = .ok (.putfield 72, 3) := by decide +kernel
theorem dX1_takeKnock_10 : decode cX1_takeKnock 10 = .ok (.aload_n 0, 1) := by decide +kernel
theorem dX1_takeKnock_11 : decode cX1_takeKnock 11 = .ok (.getfield 34, 3) := by decide +kernel
theorem dX1_takeKnock_14 : decode cX1_takeKnock 14 = .ok (.iload_n 1, 1) := by decide +kernel
theorem dX1_takeKnock_15 : decode cX1_takeKnock 15 = .ok (.ishr, 1) := by decide +kernel
theorem dX1_takeKnock_16 : decode cX1_takeKnock 16 = .ok (.iconst 1, 1) := by decide +kernel
theorem dX1_takeKnock_17 : decode cX1_takeKnock 17 = .ok (.iand, 1) := by decide +kernel
theorem dX1_takeKnock_18 : decode cX1_takeKnock 18 = .ok (.ifCond .ne 5, 3) := by decide +kernel
theorem dX1_takeKnock_21 : decode cX1_takeKnock 21 = .ok (.iconst 0, 1) := by decide +kernel
theorem dX1_takeKnock_22 : decode cX1_takeKnock 22 = .ok (.ireturn, 1) := by decide +kernel
theorem dX1_takeKnock_23 : decode cX1_takeKnock 23 = .ok (.aload_n 0, 1) := by decide +kernel
theorem dX1_takeKnock_24 : decode cX1_takeKnock 24 = .ok (.iconst 2, 1) := by decide +kernel
theorem dX1_takeKnock_25 : decode cX1_takeKnock 25 = .ok (.invokevirtual 65, 3) := by decide +kernel
theorem dX1_takeKnock_28 : decode cX1_takeKnock 28 = .ok (.iconst 0, 1) := by decide +kernel
theorem dX1_takeKnock_29 : decode cX1_takeKnock 29 = .ok (.istore_n 2, 1) := by decide +kernel
theorem dX1_takeKnock_30 : decode cX1_takeKnock 30 = .ok (.iload_n 2, 1) := by decide +kernel
theorem dX1_takeKnock_31 : decode cX1_takeKnock 31 = .ok (.aload_n 0, 1) := by decide +kernel
theorem dX1_takeKnock_32 : decode cX1_takeKnock 32 = .ok (.getfield 48, 3) := by decide +kernel
theorem dX1_takeKnock_35 : decode cX1_takeKnock 35 = .ok (.if_icmp .ge 19, 3) := by decide +kernel
theorem dX1_takeKnock_38 : decode cX1_takeKnock 38 = .ok (.aload_n 0, 1) := by decide +kernel
theorem dX1_takeKnock_39 : decode cX1_takeKnock 39 = .ok (.aload_n 0, 1) := by decide +kernel
theorem dX1_takeKnock_40 : decode cX1_takeKnock 40 = .ok (.getfield 9, 3) := by decide +kernel
theorem dX1_takeKnock_43 : decode cX1_takeKnock 43 = .ok (.iload_n 2, 1) := by decide +kernel
theorem dX1_takeKnock_44 : decode cX1_takeKnock 44 = .ok (.iaload, 1) := by decide +kernel
theorem dX1_takeKnock_45 : decode cX1_takeKnock 45 = .ok (.invokevirtual 69, 3) := by decide +kernel
theorem dX1_takeKnock_48 : decode cX1_takeKnock 48 = .ok (.iinc 2 1, 3) := by decide +kernel
theorem dX1_takeKnock_51 : decode cX1_takeKnock 51 = .ok (.goto (-21), 3) := by decide +kernel
theorem dX1_takeKnock_54 : decode cX1_takeKnock 54 = .ok (.iconst 1, 1) := by decide +kernel
theorem dX1_takeKnock_55 : decode cX1_takeKnock 55 = .ok (.ireturn, 1) := by decide +kernel
theorem dX1_takeProxy_0 : decode cX1_takeProxy 0 = .ok (.aload_n 0, 1) := by decide +kernel
theorem dX1_takeProxy_1 : decode cX1_takeProxy 1 = .ok (.iconst 3, 1) := by decide +kernel
theorem dX1_takeProxy_2 : decode cX1_takeProxy 2 = .ok (.invokevirtual 65, 3) := by decide +kernel
theorem dX1_takeProxy_5 : decode cX1_takeProxy 5 = .ok (.iconst 0, 1) := by decide +kernel
theorem dX1_takeProxy_6 : decode cX1_takeProxy 6 = .ok (.istore_n 2, 1) := by decide +kernel
theorem dX1_takeProxy_7 : decode cX1_takeProxy 7 = .ok (.iload_n 2, 1) := by decide +kernel
theorem dX1_takeProxy_8 : decode cX1_takeProxy 8 = .ok (.iload_n 1, 1) := by decide +kernel
theorem dX1_takeProxy_9 : decode cX1_takeProxy 9 = .ok (.if_icmp .ge 15, 3) := by decide +kernel
theorem dX1_takeProxy_12 : decode cX1_takeProxy 12 = .ok (.aload_n 0, 1) := by decide +kernel
theorem dX1_takeProxy_13 : decode cX1_takeProxy 13 = .ok (.bipush (-2), 2) := by decide +kernel
theorem dX1_takeProxy_15 : decode cX1_takeProxy 15 = .ok (.invokevirtual 69, 3) := by decide +kernel
theorem dX1_takeProxy_18 : decode cX1_takeProxy 18 = .ok (.iinc 2 1, 3) := by decide +kernel
theorem dX1_takeProxy_21 : decode cX1_takeProxy 21 = .ok (.goto (-14), 3) := by decide +kernel
theorem dX1_takeProxy_24 : decode cX1_takeProxy 24 = .ok (.return_, 1) := by decide +kernel
theorem dX1_canFill_0 : decode cX1_canFill 0 = .ok (.aload_n 0, 1) := by decide +kernel
theorem dX1_canFill_1 : decode cX1_canFill 1 = .ok (.getfield 18, 3) := by decide +kernel
theorem dX1_canFill_4 : decode cX1_canFill 4 = .ok (.iconst 1, 1) := by decide +kernel
theorem dX1_canFill_5 : decode cX1_canFill 5 = .ok (.if_icmp .ne 10, 3) := by decide +kernel
theorem dX1_canFill_8 : decode cX1_canFill 8 = .ok (.aload_n 0, 1) := by decide +kernel
theorem dX1_canFill_9 : decode cX1_canFill 9 = .ok (.getfield 55, 3) := by decide +kernel
theorem dX1_canFill_12 : decode cX1_canFill 12 = .ok (.ifCond .eq 11, 3) := by decide +kernel
theorem dX1_canFill_15 : decode cX1_canFill 15 = .ok (.aload_n 0, 1) := by decide +kernel
theorem dX1_canFill_16 : decode cX1_canFill 16 = .ok (.getfield 18, 3) := by decide +kernel
theorem dX1_canFill_19 : decode cX1_canFill 19 = .ok (.iconst 2, 1) := by decide +kernel
theorem dX1_canFill_20 : decode cX1_canFill 20 = .ok (.if_icmp .ne 7, 3) := by decide +kernel
theorem dX1_canFill_23 : decode cX1_canFill 23 = .ok (.iconst 1, 1) := by decide +kernel
theorem dX1_canFill_24 : decode cX1_canFill 24 = .ok (.goto 4, 3) := by decide +kernel
theorem dX1_canFill_27 : decode cX1_canFill 27 = .ok (.iconst 0, 1) := by decide +kernel
theorem dX1_canFill_28 : decode cX1_canFill 28 = .ok (.istore_n 2, 1) := by decide +kernel
theorem dX1_canFill_29 : decode cX1_canFill 29 = .ok (.iload_n 2, 1) := by decide +kernel
theorem dX1_canFill_30 : decode cX1_canFill 30 = .ok (.ifCond .eq 23, 3) := by decide +kernel
theorem dX1_canFill_33 : decode cX1_canFill 33 = .ok (.aload_n 0, 1) := by decide +kernel
theorem dX1_canFill_34 : decode cX1_canFill 34 = .ok (.getfield 31, 3) := by decide +kernel
theorem dX1_canFill_37 : decode cX1_canFill 37 = .ok (.iload_n 1, 1) := by decide +kernel
theorem dX1_canFill_38 : decode cX1_canFill 38 = .ok (.if_icmp .ne 15, 3) := by decide +kernel
theorem dX1_canFill_41 : decode cX1_canFill 41 = .ok (.aload_n 0, 1) := by decide +kernel
theorem dX1_canFill_42 : decode cX1_canFill 42 = .ok (.getfield 75, 3) := by decide +kernel
theorem dX1_canFill_45 : decode cX1_canFill 45 = .ok (.iconst 2, 1) := by decide +kernel
theorem dX1_canFill_46 : decode cX1_canFill 46 = .ok (.if_icmp .ge 7, 3) := by decide +kernel
theorem dX1_canFill_49 : decode cX1_canFill 49 = .ok (.iconst 1, 1) := by decide +kernel
theorem dX1_canFill_50 : decode cX1_canFill 50 = .ok (.goto 4, 3) := by decide +kernel
theorem dX1_canFill_53 : decode cX1_canFill 53 = .ok (.iconst 0, 1) := by decide +kernel
theorem dX1_canFill_54 : decode cX1_canFill 54 = .ok (.ireturn, 1) := by decide +kernel
theorem dX1_takeHeadsOf_0 : decode cX1_takeHeadsOf 0 = .ok (.aload_n 0, 1) := by decide +kernel
theorem dX1_takeHeadsOf_1 : decode cX1_takeHeadsOf 1 = .ok (.iconst 4, 1) := by decide +kernel
theorem dX1_takeHeadsOf_2 : decode cX1_takeHeadsOf 2 = .ok (.invokevirtual 65, 3) := by decide +kernel
theorem dX1_takeHeadsOf_5 : decode cX1_takeHeadsOf 5 = .ok (.iconst 0, 1) := by decide +kernel
theorem dX1_takeHeadsOf_6 : decode cX1_takeHeadsOf 6 = .ok (.istore_n 3, 1) := by decide +kernel
theorem dX1_takeHeadsOf_7 : decode cX1_takeHeadsOf 7 = .ok (.iload_n 3, 1) := by decide +kernel
theorem dX1_takeHeadsOf_8 : decode cX1_takeHeadsOf 8 = .ok (.aload_n 1, 1) := by decide +kernel
theorem dX1_takeHeadsOf_9 : decode cX1_takeHeadsOf 9 = .ok (.getfield 59, 3) := by decide +kernel
theorem dX1_takeHeadsOf_12 : decode cX1_takeHeadsOf 12 = .ok (.if_icmp .ge 27, 3) := by decide +kernel
theorem dX1_takeHeadsOf_15 : decode cX1_takeHeadsOf 15 = .ok (.aload_n 1, 1) := by decide +kernel
theorem dX1_takeHeadsOf_16 : decode cX1_takeHeadsOf 16 = .ok (.iload_n 3, 1) := by decide +kernel
theorem dX1_takeHeadsOf_17 : decode cX1_takeHeadsOf 17 = .ok (.invokevirtual 78, 3) := by decide +kernel
theorem dX1_takeHeadsOf_20 : decode cX1_takeHeadsOf 20 = .ok (.ifCond .ne 13, 3) := by decide +kernel
theorem dX1_takeHeadsOf_23 : decode cX1_takeHeadsOf 23 = .ok (.aload_n 0, 1) := by decide +kernel
theorem dX1_takeHeadsOf_24 : decode cX1_takeHeadsOf 24 = .ok (.aload_n 1, 1) := by decide +kernel
theorem dX1_takeHeadsOf_25 : decode cX1_takeHeadsOf 25 = .ok (.getfield 15, 3) := by decide +kernel
theorem dX1_takeHeadsOf_28 : decode cX1_takeHeadsOf 28 = .ok (.iload_n 3, 1) := by decide +kernel
theorem dX1_takeHeadsOf_29 : decode cX1_takeHeadsOf 29 = .ok (.iaload, 1) := by decide +kernel
theorem dX1_takeHeadsOf_30 : decode cX1_takeHeadsOf 30 = .ok (.invokevirtual 69, 3) := by decide +kernel
theorem dX1_takeHeadsOf_33 : decode cX1_takeHeadsOf 33 = .ok (.iinc 3 1, 3) := by decide +kernel
theorem dX1_takeHeadsOf_36 : decode cX1_takeHeadsOf 36 = .ok (.goto (-29), 3) := by decide +kernel
theorem dX1_takeHeadsOf_39 : decode cX1_takeHeadsOf 39 = .ok (.aload_n 0, 1) := by decide +kernel
theorem dX1_takeHeadsOf_40 : decode cX1_takeHeadsOf 40 = .ok (.iload_n 2, 1) := by decide +kernel
theorem dX1_takeHeadsOf_41 : decode cX1_takeHeadsOf 41 = .ok (.putfield 22, 3) := by decide +kernel
theorem dX1_takeHeadsOf_44 : decode cX1_takeHeadsOf 44 = .ok (.aload_n 1, 1) := by decide +kernel
theorem dX1_takeHeadsOf_45 : decode cX1_takeHeadsOf 45 = .ok (.dup, 1) := by decide +kernel
theorem dX1_takeHeadsOf_46 : decode cX1_takeHeadsOf 46 = .ok (.getfield 75, 3) := by decide +kernel
theorem dX1_takeHeadsOf_49 : decode cX1_takeHeadsOf 49 = .ok (.iconst 1, 1) := by decide +kernel
theorem dX1_takeHeadsOf_50 : decode cX1_takeHeadsOf 50 = .ok (.iadd, 1) := by decide +kernel
theorem dX1_takeHeadsOf_51 : decode cX1_takeHeadsOf 51 = .ok (.putfield 75, 3) := by decide +kernel
theorem dX1_takeHeadsOf_54 : decode cX1_takeHeadsOf 54 = .ok (.return_, 1) := by decide +kernel
theorem dX1_hasHead_0 : decode cX1_hasHead 0 = .ok (.iload_n 1, 1) := by decide +kernel
theorem dX1_hasHead_1 : decode cX1_hasHead 1 = .ok (.ifCond .lt 15, 3) := by decide +kernel
theorem dX1_hasHead_4 : decode cX1_hasHead 4 = .ok (.iload_n 1, 1) := by decide +kernel
theorem dX1_hasHead_5 : decode cX1_hasHead 5 = .ok (.aload_n 0, 1) := by decide +kernel
theorem dX1_hasHead_6 : decode cX1_hasHead 6 = .ok (.getfield 59, 3) := by decide +kernel
theorem dX1_hasHead_9 : decode cX1_hasHead 9 = .ok (.if_icmp .ge 7, 3) := by decide +kernel
theorem dX1_hasHead_12 : decode cX1_hasHead 12 = .ok (.iconst 1, 1) := by decide +kernel
theorem dX1_hasHead_13 : decode cX1_hasHead 13 = .ok (.goto 4, 3) := by decide +kernel
theorem dX1_hasHead_16 : decode cX1_hasHead 16 = .ok (.iconst 0, 1) := by decide +kernel
theorem dX1_hasHead_17 : decode cX1_hasHead 17 = .ok (.ireturn, 1) := by decide +kernel
theorem dX1_isStruck_0 : decode cX1_isStruck 0 = .ok (.aload_n 0, 1) := by decide +kernel
theorem dX1_isStruck_1 : decode cX1_isStruck 1 = .ok (.getfield 62, 3) := by decide +kernel
theorem dX1_isStruck_4 : decode cX1_isStruck 4 = .ok (.iload_n 1, 1) := by decide +kernel
theorem dX1_isStruck_5 : decode cX1_isStruck 5 = .ok (.ishr, 1) := by decide +kernel
theorem dX1_isStruck_6 : decode cX1_isStruck 6 = .ok (.iconst 1, 1) := by decide +kernel
theorem dX1_isStruck_7 : decode cX1_isStruck 7 = .ok (.iand, 1) := by decide +kernel
theorem dX1_isStruck_8 : decode cX1_isStruck 8 = .ok (.ifCond .eq 7, 3) := by decide +kernel
theorem dX1_isStruck_11 : decode cX1_isStruck 11 = .ok (.iconst 1, 1) := by decide +kernel
theorem dX1_isStruck_12 : decode cX1_isStruck 12 = .ok (.goto 4, 3) := by decide +kernel
theorem dX1_isStruck_15 : decode cX1_isStruck 15 = .ok (.iconst 0, 1) := by decide +kernel
theorem dX1_isStruck_16 : decode cX1_isStruck 16 = .ok (.ireturn, 1) := by decide +kernel
theorem dX1_strike_0 : decode cX1_strike 0 = .ok (.aload_n 0, 1) := by decide +kernel
theorem dX1_strike_1 : decode cX1_strike 1 = .ok (.dup, 1) := by decide +kernel
theorem dX1_strike_2 : decode cX1_strike 2 = .ok (.getfield 62, 3) := by decide +kernel
theorem dX1_strike_5 : decode cX1_strike 5 = .ok (.iconst 1, 1) := by decide +kernel
theorem dX1_strike_6 : decode cX1_strike 6 = .ok (.iload_n 1, 1) := by decide +kernel
theorem dX1_strike_7 : decode cX1_strike 7 = .ok (.ishl, 1) := by decide +kernel
theorem dX1_strike_8 : decode cX1_strike 8 = .ok (.ior, 1) := by decide +kernel
theorem dX1_strike_9 : decode cX1_strike 9 = .ok (.putfield 62, 3) := by decide +kernel
theorem dX1_strike_12 : decode cX1_strike 12 = .ok (.return_, 1) := by decide +kernel
theorem dX1_counted_0 : decode cX1_counted 0 = .ok (.aload_n 0, 1) := by decide +kernel
theorem dX1_counted_1 : decode cX1_counted 1 = .ok (.getfield 59, 3) := by decide +kernel
theorem dX1_counted_4 : decode cX1_counted 4 = .ok (.aload_n 0, 1) := by decide +kernel
theorem dX1_counted_5 : decode cX1_counted 5 = .ok (.getfield 62, 3) := by decide +kernel
theorem dX1_counted_8 : decode cX1_counted 8 = .ok (.invokestatic 82, 3) := by decide +kernel
theorem dX1_counted_11 : decode cX1_counted 11 = .ok (.isub, 1) := by decide +kernel
theorem dX1_counted_12 : decode cX1_counted 12 = .ok (.ireturn, 1) := by decide +kernel
theorem dX1_countedInBand_0 : decode cX1_countedInBand 0 = .ok (.iconst 0, 1) := by decide +kernel
theorem dX1_countedInBand_1 : decode cX1_countedInBand 1 = .ok (.istore_n 2, 1) := by decide +kernel
theorem dX1_countedInBand_2 : decode cX1_countedInBand 2 = .ok (.iconst 0, 1) := by decide +kernel
theorem dX1_countedInBand_3 : decode cX1_countedInBand 3 = .ok (.istore_n 3, 1) := by decide +kernel
theorem dX1_countedInBand_4 : decode cX1_countedInBand 4 = .ok (.iload_n 3, 1) := by decide +kernel
theorem dX1_countedInBand_5 : decode cX1_countedInBand 5 = .ok (.aload_n 0, 1) := by decide +kernel
theorem dX1_countedInBand_6 : decode cX1_countedInBand 6 = .ok (.getfield 59, 3) := by decide +kernel
theorem dX1_countedInBand_9 : decode cX1_countedInBand 9 = .ok (.if_icmp .ge 33, 3) := by decide +kernel
theorem dX1_countedInBand_12 : decode cX1_countedInBand 12 = .ok (.aload_n 0, 1) := by decide +kernel
theorem dX1_countedInBand_13 : decode cX1_countedInBand 13 = .ok (.iload_n 3, 1) := by decide +kernel
theorem dX1_countedInBand_14 : decode cX1_countedInBand 14 = .ok (.invokevirtual 78, 3) := by decide +kernel
theorem dX1_countedInBand_17 : decode cX1_countedInBand 17 = .ok (.ifCond .ne 19, 3) := by decide +kernel
theorem dX1_countedInBand_20 : decode cX1_countedInBand 20 = .ok (.aload_n 0, 1) := by decide +kernel
theorem dX1_countedInBand_21 : decode cX1_countedInBand 21 = .ok (.getfield 15, 3) := by decide +kernel
theorem dX1_countedInBand_24 : decode cX1_countedInBand 24 = .ok (.iload_n 3, 1) := by decide +kernel
theorem dX1_countedInBand_25 : decode cX1_countedInBand 25 = .ok (.iaload, 1) := by decide +kernel
theorem dX1_countedInBand_26 : decode cX1_countedInBand 26 = .ok (.invokestatic 87, 3) := by decide +kernel
theorem dX1_countedInBand_29 : decode cX1_countedInBand 29 = .ok (.iload_n 1, 1) := by decide +kernel
theorem dX1_countedInBand_30 : decode cX1_countedInBand 30 = .ok (.if_icmp .ne 6, 3) := by decide +kernel
theorem dX1_countedInBand_33 : decode cX1_countedInBand 33 = .ok (.iinc 2 1, 3) := by decide +kernel
theorem dX1_countedInBand_36 : decode cX1_countedInBand 36 = .ok (.iinc 3 1, 3) := by decide +kernel
theorem dX1_countedInBand_39 : decode cX1_countedInBand 39 = .ok (.goto (-35), 3) := by decide +kernel
theorem dX1_countedInBand_42 : decode cX1_countedInBand 42 = .ok (.iload_n 2, 1) := by decide +kernel
theorem dX1_countedInBand_43 : decode cX1_countedInBand 43 = .ok (.ireturn, 1) := by decide +kernel
theorem dX1_bandOf_0 : decode cX1_bandOf 0 = .ok (.iload_n 0, 1) := by decide +kernel
theorem dX1_bandOf_1 : decode cX1_bandOf 1 = .ok (.bipush (-2), 2) := by decide +kernel
theorem dX1_bandOf_3 : decode cX1_bandOf 3 = .ok (.if_icmp .ne 5, 3) := by decide +kernel
theorem dX1_bandOf_6 : decode cX1_bandOf 6 = .ok (.iconst 3, 1) := by decide +kernel
theorem dX1_bandOf_7 : decode cX1_bandOf 7 = .ok (.ireturn, 1) := by decide +kernel
theorem dX1_bandOf_8 : decode cX1_bandOf 8 = .ok (.iload_n 0, 1) := by decide +kernel
theorem dX1_bandOf_9 : decode cX1_bandOf 9 = .ok (.bipush 17, 2) := by decide +kernel
theorem dX1_bandOf_11 : decode cX1_bandOf 11 = .ok (.if_icmp .gt 5, 3) := by decide +kernel
theorem dX1_bandOf_14 : decode cX1_bandOf 14 = .ok (.iconst 0, 1) := by decide +kernel
theorem dX1_bandOf_15 : decode cX1_bandOf 15 = .ok (.ireturn, 1) := by decide +kernel
theorem dX1_bandOf_16 : decode cX1_bandOf 16 = .ok (.iload_n 0, 1) := by decide +kernel
theorem dX1_bandOf_17 : decode cX1_bandOf 17 = .ok (.bipush 64, 2) := by decide +kernel
theorem dX1_bandOf_19 : decode cX1_bandOf 19 = .ok (.if_icmp .gt 7, 3) := by decide +kernel
theorem dX1_bandOf_22 : decode cX1_bandOf 22 = .ok (.iconst 1, 1) := by decide +kernel
theorem dX1_bandOf_23 : decode cX1_bandOf 23 = .ok (.goto 4, 3) := by decide +kernel
theorem dX1_bandOf_26 : decode cX1_bandOf 26 = .ok (.iconst 2, 1) := by decide +kernel
theorem dX1_bandOf_27 : decode cX1_bandOf 27 = .ok (.ireturn, 1) := by decide +kernel
theorem dX1_countedThatMayHeap_0 : decode cX1_countedThatMayHeap 0 = .ok (.iconst 0, 1) := by decide +kernel
theorem dX1_countedThatMayHeap_1 : decode cX1_countedThatMayHeap 1 = .ok (.istore_n 2, 1) := by decide +kernel
theorem dX1_countedThatMayHeap_2 : decode cX1_countedThatMayHeap 2 = .ok (.iconst 0, 1) := by decide +kernel
theorem dX1_countedThatMayHeap_3 : decode cX1_countedThatMayHeap 3 = .ok (.istore_n 3, 1) := by decide +kernel
theorem dX1_countedThatMayHeap_4 : decode cX1_countedThatMayHeap 4 = .ok (.iload_n 3, 1) := by decide +kernel
theorem dX1_countedThatMayHeap_5 : decode cX1_countedThatMayHeap 5 = .ok (.aload_n 0, 1) := by decide +kernel
theorem dX1_countedThatMayHeap_6 : decode cX1_countedThatMayHeap 6 = .ok (.getfield 59, 3) := by decide +kernel
theorem dX1_countedThatMayHeap_9 : decode cX1_countedThatMayHeap 9 = .ok (.if_icmp .ge 69, 3) := by decide +kernel
theorem dX1_countedThatMayHeap_12 : decode cX1_countedThatMayHeap 12 = .ok (.aload_n 0, 1) := by decide +kernel
theorem dX1_countedThatMayHeap_13 : decode cX1_countedThatMayHeap 13 = .ok (.getfield 15, 3) := by decide +kernel
theorem dX1_countedThatMayHeap_16 : decode cX1_countedThatMayHeap 16 = .ok (.iload_n 3, 1) := by decide +kernel
theorem dX1_countedThatMayHeap_17 : decode cX1_countedThatMayHeap 17 = .ok (.iaload, 1) := by decide +kernel
theorem dX1_countedThatMayHeap_18 : decode cX1_countedThatMayHeap 18 = .ok (.bipush 23, 2) := by decide +kernel
theorem dX1_countedThatMayHeap_20 : decode cX1_countedThatMayHeap 20 = .ok (.if_icmp .lt 26, 3) := by decide +kernel
theorem dX1_countedThatMayHeap_23 : decode cX1_countedThatMayHeap 23 = .ok (.aload_n 0, 1) := by decide +kernel
theorem dX1_countedThatMayHeap_24 : decode cX1_countedThatMayHeap 24 = .ok (.getfield 15, 3) := by decide +kernel
theorem dX1_countedThatMayHeap_27 : decode cX1_countedThatMayHeap 27 = .ok (.iload_n 3, 1) := by decide +kernel
theorem dX1_countedThatMayHeap_28 : decode cX1_countedThatMayHeap 28 = .ok (.iaload, 1) := by decide +kernel
theorem dX1_countedThatMayHeap_29 : decode cX1_countedThatMayHeap 29 = .ok (.bipush 62, 2) := by decide +kernel
theorem dX1_countedThatMayHeap_31 : decode cX1_countedThatMayHeap 31 = .ok (.if_icmp .gt 15, 3) := by decide +kernel
theorem dX1_countedThatMayHeap_34 : decode cX1_countedThatMayHeap 34 = .ok (.aload_n 0, 1) := by decide +kernel
theorem dX1_countedThatMayHeap_35 : decode cX1_countedThatMayHeap 35 = .ok (.iload_n 3, 1) := by decide +kernel
theorem dX1_countedThatMayHeap_36 : decode cX1_countedThatMayHeap 36 = .ok (.invokevirtual 78, 3) := by decide +kernel
theorem dX1_countedThatMayHeap_39 : decode cX1_countedThatMayHeap 39 = .ok (.ifCond .ne 7, 3) := by decide +kernel
theorem dX1_countedThatMayHeap_42 : decode cX1_countedThatMayHeap 42 = .ok (.iconst 1, 1) := by decide +kernel
theorem dX1_countedThatMayHeap_43 : decode cX1_countedThatMayHeap 43 = .ok (.goto 4, 3) := by decide +kernel
theorem dX1_countedThatMayHeap_46 : decode cX1_countedThatMayHeap 46 = .ok (.iconst 0, 1) := by decide +kernel
theorem dX1_countedThatMayHeap_47 : decode cX1_countedThatMayHeap 47 = .ok (.istore 4, 2) := by decide +kernel
theorem dX1_countedThatMayHeap_49 : decode cX1_countedThatMayHeap 49 = .ok (.iload 4, 2) := by decide +kernel
theorem dX1_countedThatMayHeap_51 : decode cX1_countedThatMayHeap 51 = .ok (.ifCond .eq 21, 3) := by decide +kernel
theorem dX1_countedThatMayHeap_54 : decode cX1_countedThatMayHeap 54 = .ok (.iload_n 1, 1) := by decide +kernel
theorem dX1_countedThatMayHeap_55 : decode cX1_countedThatMayHeap 55 = .ok (.ifCond .le 17, 3) := by decide +kernel
theorem dX1_countedThatMayHeap_58 : decode cX1_countedThatMayHeap 58 = .ok (.aload_n 0, 1) := by decide +kernel
theorem dX1_countedThatMayHeap_59 : decode cX1_countedThatMayHeap 59 = .ok (.getfield 15, 3) := by decide +kernel
theorem dX1_countedThatMayHeap_62 : decode cX1_countedThatMayHeap 62 = .ok (.iload_n 3, 1) := by decide +kernel
theorem dX1_countedThatMayHeap_63 : decode cX1_countedThatMayHeap 63 = .ok (.iaload, 1) := by decide +kernel
theorem dX1_countedThatMayHeap_64 : decode cX1_countedThatMayHeap 64 = .ok (.iload_n 1, 1) := by decide +kernel
theorem dX1_countedThatMayHeap_65 : decode cX1_countedThatMayHeap 65 = .ok (.irem, 1) := by decide +kernel
theorem dX1_countedThatMayHeap_66 : decode cX1_countedThatMayHeap 66 = .ok (.ifCond .ne 6, 3) := by decide +kernel
theorem dX1_countedThatMayHeap_69 : decode cX1_countedThatMayHeap 69 = .ok (.iinc 2 1, 3) := by decide +kernel
theorem dX1_countedThatMayHeap_72 : decode cX1_countedThatMayHeap 72 = .ok (.iinc 3 1, 3) := by decide +kernel
theorem dX1_countedThatMayHeap_75 : decode cX1_countedThatMayHeap 75 = .ok (.goto (-71), 3) := by decide +kernel
theorem dX1_countedThatMayHeap_78 : decode cX1_countedThatMayHeap 78 = .ok (.iload_n 2, 1) := by decide +kernel
theorem dX1_countedThatMayHeap_79 : decode cX1_countedThatMayHeap 79 = .ok (.ireturn, 1) := by decide +kernel
theorem dX1_tell_0 : decode cX1_tell 0 = .ok (.iload_n 1, 1) := by decide +kernel
theorem dX1_tell_1 : decode cX1_tell 1 = .ok (.tableswitch 80 0 5 #[39, 44, 57, 62, 70, 75], 39) := by decide +kernel
theorem dX1_tell_40 : decode cX1_tell 40 = .ok (.aload_n 0, 1) := by decide +kernel
theorem dX1_tell_41 : decode cX1_tell 41 = .ok (.getfield 18, 3) := by decide +kernel
theorem dX1_tell_44 : decode cX1_tell 44 = .ok (.ireturn, 1) := by decide +kernel
theorem dX1_tell_45 : decode cX1_tell 45 = .ok (.aload_n 0, 1) := by decide +kernel
theorem dX1_tell_46 : decode cX1_tell 46 = .ok (.getfield 55, 3) := by decide +kernel
theorem dX1_tell_49 : decode cX1_tell 49 = .ok (.ifCond .eq 7, 3) := by decide +kernel
theorem dX1_tell_52 : decode cX1_tell 52 = .ok (.iconst 1, 1) := by decide +kernel
theorem dX1_tell_53 : decode cX1_tell 53 = .ok (.goto 4, 3) := by decide +kernel
theorem dX1_tell_56 : decode cX1_tell 56 = .ok (.iconst 0, 1) := by decide +kernel
theorem dX1_tell_57 : decode cX1_tell 57 = .ok (.ireturn, 1) := by decide +kernel
theorem dX1_tell_58 : decode cX1_tell 58 = .ok (.aload_n 0, 1) := by decide +kernel
theorem dX1_tell_59 : decode cX1_tell 59 = .ok (.getfield 59, 3) := by decide +kernel
theorem dX1_tell_62 : decode cX1_tell 62 = .ok (.ireturn, 1) := by decide +kernel
theorem dX1_tell_63 : decode cX1_tell 63 = .ok (.aload_n 0, 1) := by decide +kernel
theorem dX1_tell_64 : decode cX1_tell 64 = .ok (.getfield 62, 3) := by decide +kernel
theorem dX1_tell_67 : decode cX1_tell 67 = .ok (.invokestatic 82, 3) := by decide +kernel
theorem dX1_tell_70 : decode cX1_tell 70 = .ok (.ireturn, 1) := by decide +kernel
theorem dX1_tell_71 : decode cX1_tell 71 = .ok (.aload_n 0, 1) := by decide +kernel
theorem dX1_tell_72 : decode cX1_tell 72 = .ok (.getfield 72, 3) := by decide +kernel
theorem dX1_tell_75 : decode cX1_tell 75 = .ok (.ireturn, 1) := by decide +kernel
theorem dX1_tell_76 : decode cX1_tell 76 = .ok (.aload_n 0, 1) := by decide +kernel
theorem dX1_tell_77 : decode cX1_tell 77 = .ok (.getfield 75, 3) := by decide +kernel
theorem dX1_tell_80 : decode cX1_tell 80 = .ok (.ireturn, 1) := by decide +kernel
theorem dX1_tell_81 : decode cX1_tell 81 = .ok (.iconst (-1), 1) := by decide +kernel
theorem dX1_tell_82 : decode cX1_tell 82 = .ok (.ireturn, 1) := by decide +kernel
theorem dX2_init_0 : decode cX2_init 0 = .ok (.aload_n 0, 1) := by decide +kernel
theorem dX2_init_1 : decode cX2_init 1 = .ok (.invokespecial 5, 3) := by decide +kernel
theorem dX2_init_4 : decode cX2_init 4 = .ok (.return_, 1) := by decide +kernel
theorem dX2_find_0 : decode cX2_find 0 = .ok (.aload_n 0, 1) := by decide +kernel
theorem dX2_find_1 : decode cX2_find 1 = .ok (.iconst 0, 1) := by decide +kernel
theorem dX2_find_2 : decode cX2_find 2 = .ok (.putfield 11, 3) := by decide +kernel
theorem dX2_find_5 : decode cX2_find 5 = .ok (.aload_n 0, 1) := by decide +kernel
theorem dX2_find_6 : decode cX2_find 6 = .ok (.iconst 0, 1) := by decide +kernel
theorem dX2_find_7 : decode cX2_find 7 = .ok (.putfield 17, 3) := by decide +kernel
theorem dX2_find_10 : decode cX2_find 10 = .ok (.iconst 0, 1) := by decide +kernel
theorem dX2_find_11 : decode cX2_find 11 = .ok (.istore_n 3, 1) := by decide +kernel
theorem dX2_find_12 : decode cX2_find 12 = .ok (.iload_n 3, 1) := by decide +kernel
theorem dX2_find_13 : decode cX2_find 13 = .ok (.bipush 24, 2) := by decide +kernel
theorem dX2_find_15 : decode cX2_find 15 = .ok (.if_icmp .ge 56, 3) := by decide +kernel
theorem dX2_find_18 : decode cX2_find 18 = .ok (.iload_n 3, 1) := by decide +kernel
theorem dX2_find_19 : decode cX2_find 19 = .ok (.aload_n 1, 1) := by decide +kernel
theorem dX2_find_20 : decode cX2_find 20 = .ok (.arraylength, 1) := by decide +kernel
theorem dX2_find_21 : decode cX2_find 21 = .ok (.if_icmp .ge 50, 3) := by decide +kernel
theorem dX2_find_24 : decode cX2_find 24 = .ok (.aload_n 1, 1) := by decide +kernel
theorem dX2_find_25 : decode cX2_find 25 = .ok (.iload_n 3, 1) := by decide +kernel
theorem dX2_find_26 : decode cX2_find 26 = .ok (.iaload, 1) := by decide +kernel
theorem dX2_find_27 : decode cX2_find 27 = .ok (.ifCond .le 38, 3) := by decide +kernel
theorem dX2_find_30 : decode cX2_find 30 = .ok (.aload_n 0, 1) := by decide +kernel
theorem dX2_find_31 : decode cX2_find 31 = .ok (.dup, 1) := by decide +kernel
theorem dX2_find_32 : decode cX2_find 32 = .ok (.getfield 17, 3) := by decide +kernel
theorem dX2_find_35 : decode cX2_find 35 = .ok (.iconst 1, 1) := by decide +kernel
theorem dX2_find_36 : decode cX2_find 36 = .ok (.iload_n 3, 1) := by decide +kernel
theorem dX2_find_37 : decode cX2_find 37 = .ok (.ishl, 1) := by decide +kernel
theorem dX2_find_38 : decode cX2_find 38 = .ok (.ior, 1) := by decide +kernel
theorem dX2_find_39 : decode cX2_find 39 = .ok (.putfield 17, 3) := by decide +kernel
theorem dX2_find_42 : decode cX2_find 42 = .ok (.aload_n 0, 1) := by decide +kernel
theorem dX2_find_43 : decode cX2_find 43 = .ok (.dup, 1) := by decide +kernel
theorem dX2_find_44 : decode cX2_find 44 = .ok (.getfield 11, 3) := by decide +kernel
theorem dX2_find_47 : decode cX2_find 47 = .ok (.aload_n 1, 1) := by decide +kernel
theorem dX2_find_48 : decode cX2_find 48 = .ok (.iload_n 3, 1) := by decide +kernel
theorem dX2_find_49 : decode cX2_find 49 = .ok (.iaload, 1) := by decide +kernel
theorem dX2_find_50 : decode cX2_find 50 = .ok (.iload_n 2, 1) := by decide +kernel
theorem dX2_find_51 : decode cX2_find 51 = .ok (.if_icmp .ge 9, 3) := by decide +kernel
theorem dX2_find_54 : decode cX2_find 54 = .ok (.iconst 1, 1) := by decide +kernel
theorem dX2_find_55 : decode cX2_find 55 = .ok (.iload_n 3, 1) := by decide +kernel
theorem dX2_find_56 : decode cX2_find 56 = .ok (.ishl, 1) := by decide +kernel
theorem dX2_find_57 : decode cX2_find 57 = .ok (.goto 4, 3) := by decide +kernel
theorem dX2_find_60 : decode cX2_find 60 = .ok (.iconst 0, 1) := by decide +kernel
theorem dX2_find_61 : decode cX2_find 61 = .ok (.ior, 1) := by decide +kernel
theorem dX2_find_62 : decode cX2_find 62 = .ok (.putfield 11, 3) := by decide +kernel
theorem dX2_find_65 : decode cX2_find 65 = .ok (.iinc 3 1, 3) := by decide +kernel
theorem dX2_find_68 : decode cX2_find 68 = .ok (.goto (-56), 3) := by decide +kernel
theorem dX2_find_71 : decode cX2_find 71 = .ok (.iconst (-1), 1) := by decide +kernel
theorem dX2_find_72 : decode cX2_find 72 = .ok (.istore_n 3, 1) := by decide +kernel
theorem dX2_find_73 : decode cX2_find 73 = .ok (.iconst 0, 1) := by decide +kernel
theorem dX2_find_74 : decode cX2_find 74 = .ok (.istore 4, 2) := by decide +kernel
theorem dX2_find_76 : decode cX2_find 76 = .ok (.iload 4, 2) := by decide +kernel
theorem dX2_find_78 : decode cX2_find 78 = .ok (.iconst 4, 1) := by decide +kernel
theorem dX2_find_79 : decode cX2_find 79 = .ok (.if_icmp .gt 26, 3) := by decide +kernel
theorem dX2_find_82 : decode cX2_find 82 = .ok (.iload_n 3, 1) := by decide +kernel
theorem dX2_find_83 : decode cX2_find 83 = .ok (.iconst (-1), 1) := by decide +kernel
theorem dX2_find_84 : decode cX2_find 84 = .ok (.if_icmp .ne 21, 3) := by decide +kernel
theorem dX2_find_87 : decode cX2_find 87 = .ok (.aload_n 0, 1) := by decide +kernel
theorem dX2_find_88 : decode cX2_find 88 = .ok (.iconst 0, 1) := by decide +kernel
theorem dX2_find_89 : decode cX2_find 89 = .ok (.aload_n 0, 1) := by decide +kernel
theorem dX2_find_90 : decode cX2_find 90 = .ok (.getfield 11, 3) := by decide +kernel
theorem dX2_find_93 : decode cX2_find 93 = .ok (.iload 4, 2) := by decide +kernel
theorem dX2_find_95 : decode cX2_find 95 = .ok (.invokestatic 20, 3) := by decide +kernel
theorem dX2_find_98 : decode cX2_find 98 = .ok (.istore_n 3, 1) := by decide +kernel
theorem dX2_find_99 : decode cX2_find 99 = .ok (.iinc 4 1, 3) := by decide +kernel
theorem dX2_find_102 : decode cX2_find 102 = .ok (.goto (-26), 3) := by decide +kernel
theorem dX2_find_105 : decode cX2_find 105 = .ok (.iload_n 3, 1) := by decide +kernel
theorem dX2_find_106 : decode cX2_find 106 = .ok (.ireturn, 1) := by decide +kernel
theorem dX2_choose_0 : decode cX2_choose 0 = .ok (.iload_n 2, 1) := by decide +kernel
theorem dX2_choose_1 : decode cX2_choose 1 = .ok (.invokestatic 24, 3) := by decide +kernel
theorem dX2_choose_4 : decode cX2_choose 4 = .ok (.iload_n 3, 1) := by decide +kernel
theorem dX2_choose_5 : decode cX2_choose 5 = .ok (.if_icmp .le 5, 3) := by decide +kernel
theorem dX2_choose_8 : decode cX2_choose 8 = .ok (.iconst (-1), 1) := by decide +kernel
theorem dX2_choose_9 : decode cX2_choose 9 = .ok (.ireturn, 1) := by decide +kernel
theorem dX2_choose_10 : decode cX2_choose 10 = .ok (.iload_n 3, 1) := by decide +kernel
theorem dX2_choose_11 : decode cX2_choose 11 = .ok (.ifCond .gt 17, 3) := by decide +kernel
theorem dX2_choose_14 : decode cX2_choose 14 = .ok (.aload_n 0, 1) := by decide +kernel
theorem dX2_choose_15 : decode cX2_choose 15 = .ok (.iload_n 2, 1) := by decide +kernel
theorem dX2_choose_16 : decode cX2_choose 16 = .ok (.invokevirtual 28, 3) := by decide +kernel
theorem dX2_choose_19 : decode cX2_choose 19 = .ok (.ifCond .eq 7, 3) := by decide +kernel
theorem dX2_choose_22 : decode cX2_choose 22 = .ok (.iload_n 2, 1) := by decide +kernel
theorem dX2_choose_23 : decode cX2_choose 23 = .ok (.goto 4, 3) := by decide +kernel
theorem dX2_choose_26 : decode cX2_choose 26 = .ok (.iconst (-1), 1) := by decide +kernel
theorem dX2_choose_27 : decode cX2_choose 27 = .ok (.ireturn, 1) := by decide +kernel
theorem dX2_choose_28 : decode cX2_choose 28 = .ok (.aload_n 0, 1) := by decide +kernel
theorem dX2_choose_29 : decode cX2_choose 29 = .ok (.iload_n 2, 1) := by decide +kernel
theorem dX2_choose_30 : decode cX2_choose 30 = .ok (.ldc 32, 2) := by decide +kernel
theorem dX2_choose_32 : decode cX2_choose 32 = .ok (.iload_n 1, 1) := by decide +kernel
theorem dX2_choose_33 : decode cX2_choose 33 = .ok (.ishl, 1) := by decide +kernel
theorem dX2_choose_34 : decode cX2_choose 34 = .ok (.ldc 32, 2) := by decide +kernel
theorem dX2_choose_36 : decode cX2_choose 36 = .ok (.iand, 1) := by decide +kernel
theorem dX2_choose_37 : decode cX2_choose 37 = .ok (.ior, 1) := by decide +kernel
theorem dX2_choose_38 : decode cX2_choose 38 = .ok (.invokevirtual 28, 3) := by decide +kernel
theorem dX2_choose_41 : decode cX2_choose 41 = .ok (.ifCond .ne 5, 3) := by decide +kernel
theorem dX2_choose_44 : decode cX2_choose 44 = .ok (.iconst (-1), 1) := by decide +kernel
theorem dX2_choose_45 : decode cX2_choose 45 = .ok (.ireturn, 1) := by decide +kernel
theorem dX2_choose_46 : decode cX2_choose 46 = .ok (.iload_n 1, 1) := by decide +kernel
theorem dX2_choose_47 : decode cX2_choose 47 = .ok (.istore 4, 2) := by decide +kernel
theorem dX2_choose_49 : decode cX2_choose 49 = .ok (.iload 4, 2) := by decide +kernel
theorem dX2_choose_51 : decode cX2_choose 51 = .ok (.bipush 24, 2) := by decide +kernel
theorem dX2_choose_53 : decode cX2_choose 53 = .ok (.if_icmp .ge 49, 3) := by decide +kernel
theorem dX2_choose_56 : decode cX2_choose 56 = .ok (.aload_n 0, 1) := by decide +kernel
theorem dX2_choose_57 : decode cX2_choose 57 = .ok (.getfield 11, 3) := by decide +kernel
theorem dX2_choose_60 : decode cX2_choose 60 = .ok (.iload 4, 2) := by decide +kernel
theorem dX2_choose_62 : decode cX2_choose 62 = .ok (.ishr, 1) := by decide +kernel
theorem dX2_choose_63 : decode cX2_choose 63 = .ok (.iconst 1, 1) := by decide +kernel
theorem dX2_choose_64 : decode cX2_choose 64 = .ok (.iand, 1) := by decide +kernel
theorem dX2_choose_65 : decode cX2_choose 65 = .ok (.ifCond .ne 31, 3) := by decide +kernel
theorem dX2_choose_68 : decode cX2_choose 68 = .ok (.aload_n 0, 1) := by decide +kernel
theorem dX2_choose_69 : decode cX2_choose 69 = .ok (.iload 4, 2) := by decide +kernel
theorem dX2_choose_71 : decode cX2_choose 71 = .ok (.iconst 1, 1) := by decide +kernel
theorem dX2_choose_72 : decode cX2_choose 72 = .ok (.iadd, 1) := by decide +kernel
theorem dX2_choose_73 : decode cX2_choose 73 = .ok (.iload_n 2, 1) := by decide +kernel
theorem dX2_choose_74 : decode cX2_choose 74 = .ok (.iconst 1, 1) := by decide +kernel
theorem dX2_choose_75 : decode cX2_choose 75 = .ok (.iload 4, 2) := by decide +kernel
theorem dX2_choose_77 : decode cX2_choose 77 = .ok (.ishl, 1) := by decide +kernel
theorem dX2_choose_78 : decode cX2_choose 78 = .ok (.ior, 1) := by decide +kernel
theorem dX2_choose_79 : decode cX2_choose 79 = .ok (.iload_n 3, 1) := by decide +kernel
theorem dX2_choose_80 : decode cX2_choose 80 = .ok (.iconst 1, 1) := by decide +kernel
theorem dX2_choose_81 : decode cX2_choose 81 = .ok (.isub, 1) := by decide +kernel
theorem dX2_choose_82 : decode cX2_choose 82 = .ok (.invokestatic 20, 3) := by decide +kernel
theorem dX2_choose_85 : decode cX2_choose 85 = .ok (.istore 5, 2) := by decide +kernel
theorem dX2_choose_87 : decode cX2_choose 87 = .ok (.iload 5, 2) := by decide +kernel
theorem dX2_choose_89 : decode cX2_choose 89 = .ok (.iconst (-1), 1) := by decide +kernel
theorem dX2_choose_90 : decode cX2_choose 90 = .ok (.if_icmp .eq 6, 3) := by decide +kernel
theorem dX2_choose_93 : decode cX2_choose 93 = .ok (.iload 5, 2) := by decide +kernel
theorem dX2_choose_95 : decode cX2_choose 95 = .ok (.ireturn, 1) := by decide +kernel
theorem dX2_choose_96 : decode cX2_choose 96 = .ok (.iinc 4 1, 3) := by decide +kernel
theorem dX2_choose_99 : decode cX2_choose 99 = .ok (.goto (-50), 3) := by decide +kernel
theorem dX2_choose_102 : decode cX2_choose 102 = .ok (.iconst (-1), 1) := by decide +kernel
theorem dX2_choose_103 : decode cX2_choose 103 = .ok (.ireturn, 1) := by decide +kernel
theorem dX2_loneLines_0 : decode cX2_loneLines 0 = .ok (.iconst 0, 1) := by decide +kernel
theorem dX2_loneLines_1 : decode cX2_loneLines 1 = .ok (.istore_n 1, 1) := by decide +kernel
theorem dX2_loneLines_2 : decode cX2_loneLines 2 = .ok (.iconst 0, 1) := by decide +kernel
theorem dX2_loneLines_3 : decode cX2_loneLines 3 = .ok (.istore_n 2, 1) := by decide +kernel
theorem dX2_loneLines_4 : decode cX2_loneLines 4 = .ok (.iload_n 2, 1) := by decide +kernel
theorem dX2_loneLines_5 : decode cX2_loneLines 5 = .ok (.bipush 6, 2) := by decide +kernel
theorem dX2_loneLines_7 : decode cX2_loneLines 7 = .ok (.if_icmp .ge 31, 3) := by decide +kernel
theorem dX2_loneLines_10 : decode cX2_loneLines 10 = .ok (.iload_n 1, 1) := by decide +kernel
theorem dX2_loneLines_11 : decode cX2_loneLines 11 = .ok (.iload_n 0, 1) := by decide +kernel
theorem dX2_loneLines_12 : decode cX2_loneLines 12 = .ok (.bipush 15, 2) := by decide +kernel
theorem dX2_loneLines_14 : decode cX2_loneLines 14 = .ok (.iload_n 2, 1) := by decide +kernel
theorem dX2_loneLines_15 : decode cX2_loneLines 15 = .ok (.iconst 4, 1) := by decide +kernel
theorem dX2_loneLines_16 : decode cX2_loneLines 16 = .ok (.imul, 1) := by decide +kernel
theorem dX2_loneLines_17 : decode cX2_loneLines 17 = .ok (.ishl, 1) := by decide +kernel
theorem dX2_loneLines_18 : decode cX2_loneLines 18 = .ok (.iand, 1) := by decide +kernel
theorem dX2_loneLines_19 : decode cX2_loneLines 19 = .ok (.invokestatic 33, 3) := by decide +kernel
theorem dX2_loneLines_22 : decode cX2_loneLines 22 = .ok (.ifCond .eq 7, 3) := by decide +kernel
theorem dX2_loneLines_25 : decode cX2_loneLines 25 = .ok (.iconst 1, 1) := by decide +kernel
theorem dX2_loneLines_26 : decode cX2_loneLines 26 = .ok (.goto 4, 3) := by decide +kernel
theorem dX2_loneLines_29 : decode cX2_loneLines 29 = .ok (.iconst 0, 1) := by decide +kernel
theorem dX2_loneLines_30 : decode cX2_loneLines 30 = .ok (.iadd, 1) := by decide +kernel
theorem dX2_loneLines_31 : decode cX2_loneLines 31 = .ok (.istore_n 1, 1) := by decide +kernel
theorem dX2_loneLines_32 : decode cX2_loneLines 32 = .ok (.iinc 2 1, 3) := by decide +kernel
theorem dX2_loneLines_35 : decode cX2_loneLines 35 = .ok (.goto (-31), 3) := by decide +kernel
theorem dX2_loneLines_38 : decode cX2_loneLines 38 = .ok (.iconst 0, 1) := by decide +kernel
theorem dX2_loneLines_39 : decode cX2_loneLines 39 = .ok (.istore_n 2, 1) := by decide +kernel
theorem dX2_loneLines_40 : decode cX2_loneLines 40 = .ok (.iconst 0, 1) := by decide +kernel
theorem dX2_loneLines_41 : decode cX2_loneLines 41 = .ok (.istore_n 3, 1) := by decide +kernel
theorem dX2_loneLines_42 : decode cX2_loneLines 42 = .ok (.iload_n 3, 1) := by decide +kernel
theorem dX2_loneLines_43 : decode cX2_loneLines 43 = .ok (.iconst 4, 1) := by decide +kernel
theorem dX2_loneLines_44 : decode cX2_loneLines 44 = .ok (.if_icmp .ge 29, 3) := by decide +kernel
theorem dX2_loneLines_47 : decode cX2_loneLines 47 = .ok (.iload_n 2, 1) := by decide +kernel
theorem dX2_loneLines_48 : decode cX2_loneLines 48 = .ok (.iload_n 0, 1) := by decide +kernel
theorem dX2_loneLines_49 : decode cX2_loneLines 49 = .ok (.ldc 36, 2) := by decide +kernel
theorem dX2_loneLines_51 : decode cX2_loneLines 51 = .ok (.iload_n 3, 1) := by decide +kernel
theorem dX2_loneLines_52 : decode cX2_loneLines 52 = .ok (.ishl, 1) := by decide +kernel
theorem dX2_loneLines_53 : decode cX2_loneLines 53 = .ok (.iand, 1) := by decide +kernel
theorem dX2_loneLines_54 : decode cX2_loneLines 54 = .ok (.invokestatic 33, 3) := by decide +kernel
theorem dX2_loneLines_57 : decode cX2_loneLines 57 = .ok (.ifCond .eq 7, 3) := by decide +kernel
theorem dX2_loneLines_60 : decode cX2_loneLines 60 = .ok (.iconst 1, 1) := by decide +kernel
theorem dX2_loneLines_61 : decode cX2_loneLines 61 = .ok (.goto 4, 3) := by decide +kernel
theorem dX2_loneLines_64 : decode cX2_loneLines 64 = .ok (.iconst 0, 1) := by decide +kernel
theorem dX2_loneLines_65 : decode cX2_loneLines 65 = .ok (.iadd, 1) := by decide +kernel
theorem dX2_loneLines_66 : decode cX2_loneLines 66 = .ok (.istore_n 2, 1) := by decide +kernel
theorem dX2_loneLines_67 : decode cX2_loneLines 67 = .ok (.iinc 3 1, 3) := by decide +kernel
theorem dX2_loneLines_70 : decode cX2_loneLines 70 = .ok (.goto (-28), 3) := by decide +kernel
theorem dX2_loneLines_73 : decode cX2_loneLines 73 = .ok (.iload_n 1, 1) := by decide +kernel
theorem dX2_loneLines_74 : decode cX2_loneLines 74 = .ok (.iload_n 2, 1) := by decide +kernel
theorem dX2_loneLines_75 : decode cX2_loneLines 75 = .ok (.invokestatic 37, 3) := by decide +kernel
theorem dX2_loneLines_78 : decode cX2_loneLines 78 = .ok (.ireturn, 1) := by decide +kernel
theorem dX2_isOneCell_0 : decode cX2_isOneCell 0 = .ok (.iload_n 0, 1) := by decide +kernel
theorem dX2_isOneCell_1 : decode cX2_isOneCell 1 = .ok (.ifCond .eq 15, 3) := by decide +kernel
theorem dX2_isOneCell_4 : decode cX2_isOneCell 4 = .ok (.iload_n 0, 1) := by decide +kernel
theorem dX2_isOneCell_5 : decode cX2_isOneCell 5 = .ok (.iload_n 0, 1) := by decide +kernel
theorem dX2_isOneCell_6 : decode cX2_isOneCell 6 = .ok (.iconst 1, 1) := by decide +kernel
theorem dX2_isOneCell_7 : decode cX2_isOneCell 7 = .ok (.isub, 1) := by decide +kernel
theorem dX2_isOneCell_8 : decode cX2_isOneCell 8 = .ok (.iand, 1) := by decide +kernel
theorem dX2_isOneCell_9 : decode cX2_isOneCell 9 = .ok (.ifCond .ne 7, 3) := by decide +kernel
theorem dX2_isOneCell_12 : decode cX2_isOneCell 12 = .ok (.iconst 1, 1) := by decide +kernel
theorem dX2_isOneCell_13 : decode cX2_isOneCell 13 = .ok (.goto 4, 3) := by decide +kernel
theorem dX2_isOneCell_16 : decode cX2_isOneCell 16 = .ok (.iconst 0, 1) := by decide +kernel
theorem dX2_isOneCell_17 : decode cX2_isOneCell 17 = .ok (.ireturn, 1) := by decide +kernel
theorem dX2_noneFollows_0 : decode cX2_noneFollows 0 = .ok (.iconst 0, 1) := by decide +kernel
theorem dX2_noneFollows_1 : decode cX2_noneFollows 1 = .ok (.istore_n 2, 1) := by decide +kernel
theorem dX2_noneFollows_2 : decode cX2_noneFollows 2 = .ok (.iload_n 2, 1) := by decide +kernel
theorem dX2_noneFollows_3 : decode cX2_noneFollows 3 = .ok (.bipush 24, 2) := by decide +kernel
theorem dX2_noneFollows_5 : decode cX2_noneFollows 5 = .ok (.if_icmp .ge 75, 3) := by decide +kernel
theorem dX2_noneFollows_8 : decode cX2_noneFollows 8 = .ok (.aload_n 0, 1) := by decide +kernel
theorem dX2_noneFollows_9 : decode cX2_noneFollows 9 = .ok (.getfield 11, 3) := by decide +kernel
theorem dX2_noneFollows_12 : decode cX2_noneFollows 12 = .ok (.iload_n 2, 1) := by decide +kernel
theorem dX2_noneFollows_13 : decode cX2_noneFollows 13 = .ok (.ishr, 1) := by decide +kernel
theorem dX2_noneFollows_14 : decode cX2_noneFollows 14 = .ok (.iconst 1, 1) := by decide +kernel
theorem dX2_noneFollows_15 : decode cX2_noneFollows 15 = .ok (.iand, 1) := by decide +kernel
theorem dX2_noneFollows_16 : decode cX2_noneFollows 16 = .ok (.ifCond .ne 6, 3) := by decide +kernel
theorem dX2_noneFollows_19 : decode cX2_noneFollows 19 = .ok (.goto 55, 3) := by decide +kernel
theorem dX2_noneFollows_22 : decode cX2_noneFollows 22 = .ok (.iload_n 1, 1) := by decide +kernel
theorem dX2_noneFollows_23 : decode cX2_noneFollows 23 = .ok (.iconst 1, 1) := by decide +kernel
theorem dX2_noneFollows_24 : decode cX2_noneFollows 24 = .ok (.iload_n 2, 1) := by decide +kernel
theorem dX2_noneFollows_25 : decode cX2_noneFollows 25 = .ok (.ishl, 1) := by decide +kernel
theorem dX2_noneFollows_26 : decode cX2_noneFollows 26 = .ok (.iconst (-1), 1) := by decide +kernel
theorem dX2_noneFollows_27 : decode cX2_noneFollows 27 = .ok (.ixor, 1) := by decide +kernel
theorem dX2_noneFollows_28 : decode cX2_noneFollows 28 = .ok (.iand, 1) := by decide +kernel
theorem dX2_noneFollows_29 : decode cX2_noneFollows 29 = .ok (.istore_n 3, 1) := by decide +kernel
theorem dX2_noneFollows_30 : decode cX2_noneFollows 30 = .ok (.bipush 15, 2) := by decide +kernel
theorem dX2_noneFollows_32 : decode cX2_noneFollows 32 = .ok (.iload_n 2, 1) := by decide +kernel
theorem dX2_noneFollows_33 : decode cX2_noneFollows 33 = .ok (.iconst 4, 1) := by decide +kernel
theorem dX2_noneFollows_34 : decode cX2_noneFollows 34 = .ok (.idiv, 1) := by decide +kernel
theorem dX2_noneFollows_35 : decode cX2_noneFollows 35 = .ok (.iconst 4, 1) := by decide +kernel
theorem dX2_noneFollows_36 : decode cX2_noneFollows 36 = .ok (.imul, 1) := by decide +kernel
theorem dX2_noneFollows_37 : decode cX2_noneFollows 37 = .ok (.ishl, 1) := by decide +kernel
theorem dX2_noneFollows_38 : decode cX2_noneFollows 38 = .ok (.istore 4, 2) := by decide +kernel
theorem dX2_noneFollows_40 : decode cX2_noneFollows 40 = .ok (.ldc 36, 2) := by decide +kernel
theorem dX2_noneFollows_42 : decode cX2_noneFollows 42 = .ok (.iload_n 2, 1) := by decide +kernel
theorem dX2_noneFollows_43 : decode cX2_noneFollows 43 = .ok (.iconst 4, 1) := by decide +kernel
theorem dX2_noneFollows_44 : decode cX2_noneFollows 44 = .ok (.irem, 1) := by decide +kernel
theorem dX2_noneFollows_45 : decode cX2_noneFollows 45 = .ok (.ishl, 1) := by decide +kernel
theorem dX2_noneFollows_46 : decode cX2_noneFollows 46 = .ok (.istore 5, 2) := by decide +kernel
theorem dX2_noneFollows_48 : decode cX2_noneFollows 48 = .ok (.aload_n 0, 1) := by decide +kernel
theorem dX2_noneFollows_49 : decode cX2_noneFollows 49 = .ok (.iload 4, 2) := by decide +kernel
theorem dX2_noneFollows_51 : decode cX2_noneFollows 51 = .ok (.iload 5, 2) := by decide +kernel
theorem dX2_noneFollows_53 : decode cX2_noneFollows 53 = .ok (.iload_n 3, 1) := by decide +kernel
theorem dX2_noneFollows_54 : decode cX2_noneFollows 54 = .ok (.invokevirtual 43, 3) := by decide +kernel
theorem dX2_noneFollows_57 : decode cX2_noneFollows 57 = .ok (.ifCond .ne 17, 3) := by decide +kernel
theorem dX2_noneFollows_60 : decode cX2_noneFollows 60 = .ok (.aload_n 0, 1) := by decide +kernel
theorem dX2_noneFollows_61 : decode cX2_noneFollows 61 = .ok (.iload 4, 2) := by decide +kernel
theorem dX2_noneFollows_63 : decode cX2_noneFollows 63 = .ok (.iload 5, 2) := by decide +kernel
theorem dX2_noneFollows_65 : decode cX2_noneFollows 65 = .ok (.iload_n 3, 1) := by decide +kernel
theorem dX2_noneFollows_66 : decode cX2_noneFollows 66 = .ok (.invokevirtual 47, 3) := by decide +kernel
theorem dX2_noneFollows_69 : decode cX2_noneFollows 69 = .ok (.ifCond .ne 5, 3) := by decide +kernel
theorem dX2_noneFollows_72 : decode cX2_noneFollows 72 = .ok (.iconst 0, 1) := by decide +kernel
theorem dX2_noneFollows_73 : decode cX2_noneFollows 73 = .ok (.ireturn, 1) := by decide +kernel
theorem dX2_noneFollows_74 : decode cX2_noneFollows 74 = .ok (.iinc 2 1, 3) := by decide +kernel
theorem dX2_noneFollows_77 : decode cX2_noneFollows 77 = .ok (.goto (-75), 3) := by decide +kernel
theorem dX2_noneFollows_80 : decode cX2_noneFollows 80 = .ok (.iconst 1, 1) := by decide +kernel
theorem dX2_noneFollows_81 : decode cX2_noneFollows 81 = .ok (.ireturn, 1) := by decide +kernel
theorem dX2_canShrink_0 : decode cX2_canShrink 0 = .ok (.iload_n 1, 1) := by decide +kernel
theorem dX2_canShrink_1 : decode cX2_canShrink 1 = .ok (.istore 4, 2) := by decide +kernel
theorem dX2_canShrink_3 : decode cX2_canShrink 3 = .ok (.iconst 0, 1) := by decide +kernel
theorem dX2_canShrink_4 : decode cX2_canShrink 4 = .ok (.istore 5, 2) := by decide +kernel
theorem dX2_canShrink_6 : decode cX2_canShrink 6 = .ok (.iconst 0, 1) := by decide +kernel
theorem dX2_canShrink_7 : decode cX2_canShrink 7 = .ok (.istore 6, 2) := by decide +kernel
theorem dX2_canShrink_9 : decode cX2_canShrink 9 = .ok (.iload 6, 2) := by decide +kernel
theorem dX2_canShrink_11 : decode cX2_canShrink 11 = .ok (.bipush 6, 2) := by decide +kernel
theorem dX2_canShrink_13 : decode cX2_canShrink 13 = .ok (.if_icmp .ge 55, 3) := by decide +kernel
theorem dX2_canShrink_16 : decode cX2_canShrink 16 = .ok (.iload 4, 2) := by decide +kernel
theorem dX2_canShrink_18 : decode cX2_canShrink 18 = .ok (.iload 5, 2) := by decide +kernel
theorem dX2_canShrink_20 : decode cX2_canShrink 20 = .ok (.if_icmp .eq 48, 3) := by decide +kernel
theorem dX2_canShrink_23 : decode cX2_canShrink 23 = .ok (.iload 4, 2) := by decide +kernel
theorem dX2_canShrink_25 : decode cX2_canShrink 25 = .ok (.iload_n 3, 1) := by decide +kernel
theorem dX2_canShrink_26 : decode cX2_canShrink 26 = .ok (.iand, 1) := by decide +kernel
theorem dX2_canShrink_27 : decode cX2_canShrink 27 = .ok (.invokestatic 50, 3) := by decide +kernel
theorem dX2_canShrink_30 : decode cX2_canShrink 30 = .ok (.istore 7, 2) := by decide +kernel
theorem dX2_canShrink_32 : decode cX2_canShrink 32 = .ok (.iload 7, 2) := by decide +kernel
theorem dX2_canShrink_34 : decode cX2_canShrink 34 = .ok (.iload_n 2, 1) := by decide +kernel
theorem dX2_canShrink_35 : decode cX2_canShrink 35 = .ok (.iand, 1) := by decide +kernel
theorem dX2_canShrink_36 : decode cX2_canShrink 36 = .ok (.ifCond .eq 5, 3) := by decide +kernel
theorem dX2_canShrink_39 : decode cX2_canShrink 39 = .ok (.iconst 1, 1) := by decide +kernel
theorem dX2_canShrink_40 : decode cX2_canShrink 40 = .ok (.ireturn, 1) := by decide +kernel
theorem dX2_canShrink_41 : decode cX2_canShrink 41 = .ok (.iload 4, 2) := by decide +kernel
theorem dX2_canShrink_43 : decode cX2_canShrink 43 = .ok (.istore 5, 2) := by decide +kernel
theorem dX2_canShrink_45 : decode cX2_canShrink 45 = .ok (.iload 4, 2) := by decide +kernel
theorem dX2_canShrink_47 : decode cX2_canShrink 47 = .ok (.iload 7, 2) := by decide +kernel
theorem dX2_canShrink_49 : decode cX2_canShrink 49 = .ok (.iload_n 3, 1) := by decide +kernel
theorem dX2_canShrink_50 : decode cX2_canShrink 50 = .ok (.iand, 1) := by decide +kernel
theorem dX2_canShrink_51 : decode cX2_canShrink 51 = .ok (.aload_n 0, 1) := by decide +kernel
theorem dX2_canShrink_52 : decode cX2_canShrink 52 = .ok (.getfield 17, 3) := by decide +kernel
theorem dX2_canShrink_55 : decode cX2_canShrink 55 = .ok (.iand, 1) := by decide +kernel
theorem dX2_canShrink_56 : decode cX2_canShrink 56 = .ok (.invokestatic 53, 3) := by decide +kernel
theorem dX2_canShrink_59 : decode cX2_canShrink 59 = .ok (.ior, 1) := by decide +kernel
theorem dX2_canShrink_60 : decode cX2_canShrink 60 = .ok (.istore 4, 2) := by decide +kernel
theorem dX2_canShrink_62 : decode cX2_canShrink 62 = .ok (.iinc 6 1, 3) := by decide +kernel
theorem dX2_canShrink_65 : decode cX2_canShrink 65 = .ok (.goto (-56), 3) := by decide +kernel
theorem dX2_canShrink_68 : decode cX2_canShrink 68 = .ok (.iconst 0, 1) := by decide +kernel
theorem dX2_canShrink_69 : decode cX2_canShrink 69 = .ok (.ireturn, 1) := by decide +kernel
theorem dX2_canGrow_0 : decode cX2_canGrow 0 = .ok (.iload_n 2, 1) := by decide +kernel
theorem dX2_canGrow_1 : decode cX2_canGrow 1 = .ok (.istore 4, 2) := by decide +kernel
theorem dX2_canGrow_3 : decode cX2_canGrow 3 = .ok (.iconst 0, 1) := by decide +kernel
theorem dX2_canGrow_4 : decode cX2_canGrow 4 = .ok (.istore 5, 2) := by decide +kernel
theorem dX2_canGrow_6 : decode cX2_canGrow 6 = .ok (.iconst 0, 1) := by decide +kernel
theorem dX2_canGrow_7 : decode cX2_canGrow 7 = .ok (.istore 6, 2) := by decide +kernel
theorem dX2_canGrow_9 : decode cX2_canGrow 9 = .ok (.iload 6, 2) := by decide +kernel
theorem dX2_canGrow_11 : decode cX2_canGrow 11 = .ok (.bipush 6, 2) := by decide +kernel
theorem dX2_canGrow_13 : decode cX2_canGrow 13 = .ok (.if_icmp .ge 55, 3) := by decide +kernel
theorem dX2_canGrow_16 : decode cX2_canGrow 16 = .ok (.iload 4, 2) := by decide +kernel
theorem dX2_canGrow_18 : decode cX2_canGrow 18 = .ok (.iload 5, 2) := by decide +kernel
theorem dX2_canGrow_20 : decode cX2_canGrow 20 = .ok (.if_icmp .eq 48, 3) := by decide +kernel
theorem dX2_canGrow_23 : decode cX2_canGrow 23 = .ok (.iload 4, 2) := by decide +kernel
theorem dX2_canGrow_25 : decode cX2_canGrow 25 = .ok (.iload_n 3, 1) := by decide +kernel
theorem dX2_canGrow_26 : decode cX2_canGrow 26 = .ok (.iand, 1) := by decide +kernel
theorem dX2_canGrow_27 : decode cX2_canGrow 27 = .ok (.aload_n 0, 1) := by decide +kernel
theorem dX2_canGrow_28 : decode cX2_canGrow 28 = .ok (.getfield 17, 3) := by decide +kernel
theorem dX2_canGrow_31 : decode cX2_canGrow 31 = .ok (.iand, 1) := by decide +kernel
theorem dX2_canGrow_32 : decode cX2_canGrow 32 = .ok (.invokestatic 53, 3) := by decide +kernel
theorem dX2_canGrow_35 : decode cX2_canGrow 35 = .ok (.istore 7, 2) := by decide +kernel
theorem dX2_canGrow_37 : decode cX2_canGrow 37 = .ok (.iload 7, 2) := by decide +kernel
theorem dX2_canGrow_39 : decode cX2_canGrow 39 = .ok (.iload_n 1, 1) := by decide +kernel
theorem dX2_canGrow_40 : decode cX2_canGrow 40 = .ok (.iand, 1) := by decide +kernel
theorem dX2_canGrow_41 : decode cX2_canGrow 41 = .ok (.ifCond .eq 5, 3) := by decide +kernel
theorem dX2_canGrow_44 : decode cX2_canGrow 44 = .ok (.iconst 1, 1) := by decide +kernel
theorem dX2_canGrow_45 : decode cX2_canGrow 45 = .ok (.ireturn, 1) := by decide +kernel
theorem dX2_canGrow_46 : decode cX2_canGrow 46 = .ok (.iload 4, 2) := by decide +kernel
theorem dX2_canGrow_48 : decode cX2_canGrow 48 = .ok (.istore 5, 2) := by decide +kernel
theorem dX2_canGrow_50 : decode cX2_canGrow 50 = .ok (.iload 4, 2) := by decide +kernel
theorem dX2_canGrow_52 : decode cX2_canGrow 52 = .ok (.iload 7, 2) := by decide +kernel
theorem dX2_canGrow_54 : decode cX2_canGrow 54 = .ok (.iload_n 3, 1) := by decide +kernel
theorem dX2_canGrow_55 : decode cX2_canGrow 55 = .ok (.iand, 1) := by decide +kernel
theorem dX2_canGrow_56 : decode cX2_canGrow 56 = .ok (.invokestatic 50, 3) := by decide +kernel
theorem dX2_canGrow_59 : decode cX2_canGrow 59 = .ok (.ior, 1) := by decide +kernel
theorem dX2_canGrow_60 : decode cX2_canGrow 60 = .ok (.istore 4, 2) := by decide +kernel
theorem dX2_canGrow_62 : decode cX2_canGrow 62 = .ok (.iinc 6 1, 3) := by decide +kernel
theorem dX2_canGrow_65 : decode cX2_canGrow 65 = .ok (.goto (-56), 3) := by decide +kernel
theorem dX2_canGrow_68 : decode cX2_canGrow 68 = .ok (.iconst 0, 1) := by decide +kernel
theorem dX2_canGrow_69 : decode cX2_canGrow 69 = .ok (.ireturn, 1) := by decide +kernel
theorem dX2_columnsOf_0 : decode cX2_columnsOf 0 = .ok (.iload_n 0, 1) := by decide +kernel
theorem dX2_columnsOf_1 : decode cX2_columnsOf 1 = .ok (.iload_n 0, 1) := by decide +kernel
theorem dX2_columnsOf_2 : decode cX2_columnsOf 2 = .ok (.bipush 8, 2) := by decide +kernel
theorem dX2_columnsOf_4 : decode cX2_columnsOf 4 = .ok (.ishr, 1) := by decide +kernel
theorem dX2_columnsOf_5 : decode cX2_columnsOf 5 = .ok (.ior, 1) := by decide +kernel
theorem dX2_columnsOf_6 : decode cX2_columnsOf 6 = .ok (.iload_n 0, 1) := by decide +kernel
theorem dX2_columnsOf_7 : decode cX2_columnsOf 7 = .ok (.bipush 16, 2) := by decide +kernel
theorem dX2_columnsOf_9 : decode cX2_columnsOf 9 = .ok (.ishr, 1) := by decide +kernel
theorem dX2_columnsOf_10 : decode cX2_columnsOf 10 = .ok (.ior, 1) := by decide +kernel
theorem dX2_columnsOf_11 : decode cX2_columnsOf 11 = .ok (.istore_n 1, 1) := by decide +kernel
theorem dX2_columnsOf_12 : decode cX2_columnsOf 12 = .ok (.iload_n 1, 1) := by decide +kernel
theorem dX2_columnsOf_13 : decode cX2_columnsOf 13 = .ok (.iload_n 1, 1) := by decide +kernel
theorem dX2_columnsOf_14 : decode cX2_columnsOf 14 = .ok (.iconst 4, 1) := by decide +kernel
theorem dX2_columnsOf_15 : decode cX2_columnsOf 15 = .ok (.ishr, 1) := by decide +kernel
theorem dX2_columnsOf_16 : decode cX2_columnsOf 16 = .ok (.ior, 1) := by decide +kernel
theorem dX2_columnsOf_17 : decode cX2_columnsOf 17 = .ok (.bipush 15, 2) := by decide +kernel
theorem dX2_columnsOf_19 : decode cX2_columnsOf 19 = .ok (.iand, 1) := by decide +kernel
theorem dX2_columnsOf_20 : decode cX2_columnsOf 20 = .ok (.ldc 36, 2) := by decide +kernel
theorem dX2_columnsOf_22 : decode cX2_columnsOf 22 = .ok (.imul, 1) := by decide +kernel
theorem dX2_columnsOf_23 : decode cX2_columnsOf 23 = .ok (.ireturn, 1) := by decide +kernel
theorem dX2_rowsOf_0 : decode cX2_rowsOf 0 = .ok (.iload_n 0, 1) := by decide +kernel
theorem dX2_rowsOf_1 : decode cX2_rowsOf 1 = .ok (.iload_n 0, 1) := by decide +kernel
theorem dX2_rowsOf_2 : decode cX2_rowsOf 2 = .ok (.iconst 1, 1) := by decide +kernel
theorem dX2_rowsOf_3 : decode cX2_rowsOf 3 = .ok (.ishr, 1) := by decide +kernel
theorem dX2_rowsOf_4 : decode cX2_rowsOf 4 = .ok (.ior, 1) := by decide +kernel
theorem dX2_rowsOf_5 : decode cX2_rowsOf 5 = .ok (.istore_n 1, 1) := by decide +kernel
theorem dX2_rowsOf_6 : decode cX2_rowsOf 6 = .ok (.iload_n 1, 1) := by decide +kernel
theorem dX2_rowsOf_7 : decode cX2_rowsOf 7 = .ok (.iload_n 1, 1) := by decide +kernel
theorem dX2_rowsOf_8 : decode cX2_rowsOf 8 = .ok (.iconst 2, 1) := by decide +kernel
theorem dX2_rowsOf_9 : decode cX2_rowsOf 9 = .ok (.ishr, 1) := by decide +kernel
theorem dX2_rowsOf_10 : decode cX2_rowsOf 10 = .ok (.ior, 1) := by decide +kernel
theorem dX2_rowsOf_11 : decode cX2_rowsOf 11 = .ok (.ldc 36, 2) := by decide +kernel
theorem dX2_rowsOf_13 : decode cX2_rowsOf 13 = .ok (.iand, 1) := by decide +kernel
theorem dX2_rowsOf_14 : decode cX2_rowsOf 14 = .ok (.bipush 15, 2) := by decide +kernel
theorem dX2_rowsOf_16 : decode cX2_rowsOf 16 = .ok (.imul, 1) := by decide +kernel
theorem dX2_rowsOf_17 : decode cX2_rowsOf 17 = .ok (.ireturn, 1) := by decide +kernel
theorem dX3_init_0 : decode cX3_init 0 = .ok (.aload_n 0, 1) := by decide +kernel
theorem dX3_init_1 : decode cX3_init 1 = .ok (.invokespecial 3, 3) := by decide +kernel
theorem dX3_init_4 : decode cX3_init 4 = .ok (.aload_n 0, 1) := by decide +kernel
theorem dX3_init_5 : decode cX3_init 5 = .ok (.iconst 3, 1) := by decide +kernel
theorem dX3_init_6 : decode cX3_init 6 = .ok (.putfield 9, 3) := by decide +kernel
theorem dX3_init_9 : decode cX3_init 9 = .ok (.aload_n 0, 1) := by decide +kernel
theorem dX3_init_10 : decode cX3_init 10 = .ok (.iconst 2, 1) := by decide +kernel
theorem dX3_init_11 : decode cX3_init 11 = .ok (.putfield 15, 3) := by decide +kernel
theorem dX3_init_14 : decode cX3_init 14 = .ok (.aload_n 0, 1) := by decide +kernel
theorem dX3_init_15 : decode cX3_init 15 = .ok (.iconst 3, 1) := by decide +kernel
theorem dX3_init_16 : decode cX3_init 16 = .ok (.putfield 18, 3) := by decide +kernel
theorem dX3_init_19 : decode cX3_init 19 = .ok (.aload_n 0, 1) := by decide +kernel
theorem dX3_init_20 : decode cX3_init 20 = .ok (.iconst (-1), 1) := by decide +kernel
theorem dX3_init_21 : decode cX3_init 21 = .ok (.putfield 21, 3) := by decide +kernel
theorem dX3_init_24 : decode cX3_init 24 = .ok (.return_, 1) := by decide +kernel
theorem dX3_read_0 : decode cX3_read 0 = .ok (.aload_n 0, 1) := by decide +kernel
theorem dX3_read_1 : decode cX3_read 1 = .ok (.aload_n 1, 1) := by decide +kernel
theorem dX3_read_2 : decode cX3_read 2 = .ok (.invokestatic 24, 3) := by decide +kernel
theorem dX3_read_5 : decode cX3_read 5 = .ok (.putfield 21, 3) := by decide +kernel
theorem dX3_read_8 : decode cX3_read 8 = .ok (.aload_n 0, 1) := by decide +kernel
theorem dX3_read_9 : decode cX3_read 9 = .ok (.getfield 21, 3) := by decide +kernel
theorem dX3_read_12 : decode cX3_read 12 = .ok (.iconst (-1), 1) := by decide +kernel
theorem dX3_read_13 : decode cX3_read 13 = .ok (.if_icmp .eq 5, 3) := by decide +kernel
theorem dX3_read_16 : decode cX3_read 16 = .ok (.iconst 0, 1) := by decide +kernel
theorem dX3_read_17 : decode cX3_read 17 = .ok (.ireturn, 1) := by decide +kernel
theorem dX3_read_18 : decode cX3_read 18 = .ok (.aload_n 0, 1) := by decide +kernel
theorem dX3_read_19 : decode cX3_read 19 = .ok (.aload_n 1, 1) := by decide +kernel
theorem dX3_read_20 : decode cX3_read 20 = .ok (.iconst 1, 1) := by decide +kernel
theorem dX3_read_21 : decode cX3_read 21 = .ok (.invokevirtual 28, 3) := by decide +kernel
theorem dX3_read_24 : decode cX3_read 24 = .ok (.bipush 48, 2) := by decide +kernel
theorem dX3_read_26 : decode cX3_read 26 = .ok (.isub, 1) := by decide +kernel
theorem dX3_read_27 : decode cX3_read 27 = .ok (.putfield 9, 3) := by decide +kernel
theorem dX3_read_30 : decode cX3_read 30 = .ok (.aload_n 0, 1) := by decide +kernel
theorem dX3_read_31 : decode cX3_read 31 = .ok (.aload_n 1, 1) := by decide +kernel
theorem dX3_read_32 : decode cX3_read 32 = .ok (.iconst 3, 1) := by decide +kernel
theorem dX3_read_33 : decode cX3_read 33 = .ok (.invokevirtual 28, 3) := by decide +kernel
theorem dX3_read_36 : decode cX3_read 36 = .ok (.bipush 48, 2) := by decide +kernel
theorem dX3_read_38 : decode cX3_read 38 = .ok (.isub, 1) := by decide +kernel
theorem dX3_read_39 : decode cX3_read 39 = .ok (.putfield 15, 3) := by decide +kernel
theorem dX3_read_42 : decode cX3_read 42 = .ok (.aload_n 0, 1) := by decide +kernel
theorem dX3_read_43 : decode cX3_read 43 = .ok (.aload_n 1, 1) := by decide +kernel
theorem dX3_read_44 : decode cX3_read 44 = .ok (.iconst 5, 1) := by decide +kernel
theorem dX3_read_45 : decode cX3_read 45 = .ok (.invokevirtual 28, 3) := by decide +kernel
theorem dX3_read_48 : decode cX3_read 48 = .ok (.bipush 48, 2) := by decide +kernel
theorem dX3_read_50 : decode cX3_read 50 = .ok (.isub, 1) := by decide +kernel
theorem dX3_read_51 : decode cX3_read 51 = .ok (.putfield 18, 3) := by decide +kernel
theorem dX3_read_54 : decode cX3_read 54 = .ok (.iconst 1, 1) := by decide +kernel
theorem dX3_read_55 : decode cX3_read 55 = .ok (.ireturn, 1) := by decide +kernel
theorem dX3_firstWrongPlace_0 : decode cX3_firstWrongPlace 0 = .ok (.iconst 0, 1) := by decide +kernel
theorem dX3_firstWrongPlace_1 : decode cX3_firstWrongPlace 1 = .ok (.istore_n 1, 1) := by decide +kernel
theorem dX3_firstWrongPlace_2 : decode cX3_firstWrongPlace 2 = .ok (.iload_n 1, 1) := by decide +kernel
theorem dX3_firstWrongPlace_3 : decode cX3_firstWrongPlace 3 = .ok (.bipush 6, 2) := by decide +kernel
theorem dX3_firstWrongPlace_5 : decode cX3_firstWrongPlace 5 = .ok (.if_icmp .ge 31, 3) := by decide +kernel
theorem dX3_firstWrongPlace_8 : decode cX3_firstWrongPlace 8 = .ok (.iload_n 1, 1) := by decide +kernel
theorem dX3_firstWrongPlace_9 : decode cX3_firstWrongPlace 9 = .ok (.aload_n 0, 1) := by decide +kernel
theorem dX3_firstWrongPlace_10 : decode cX3_firstWrongPlace 10 = .ok (.getfield 34, 3) := by decide +kernel
theorem dX3_firstWrongPlace_13 : decode cX3_firstWrongPlace 13 = .ok (.if_icmp .ge 15, 3) := by decide +kernel
theorem dX3_firstWrongPlace_16 : decode cX3_firstWrongPlace 16 = .ok (.iload_n 1, 1) := by decide +kernel
theorem dX3_firstWrongPlace_17 : decode cX3_firstWrongPlace 17 = .ok (.aload_n 0, 1) := by decide +kernel
theorem dX3_firstWrongPlace_18 : decode cX3_firstWrongPlace 18 = .ok (.iload_n 1, 1) := by decide +kernel
theorem dX3_firstWrongPlace_19 : decode cX3_firstWrongPlace 19 = .ok (.invokevirtual 28, 3) := by decide +kernel
theorem dX3_firstWrongPlace_22 : decode cX3_firstWrongPlace 22 = .ok (.invokestatic 37, 3) := by decide +kernel
theorem dX3_firstWrongPlace_25 : decode cX3_firstWrongPlace 25 = .ok (.ifCond .ne 5, 3) := by decide +kernel
theorem dX3_firstWrongPlace_28 : decode cX3_firstWrongPlace 28 = .ok (.iload_n 1, 1) := by decide +kernel
theorem dX3_firstWrongPlace_29 : decode cX3_firstWrongPlace 29 = .ok (.ireturn, 1) := by decide +kernel
theorem dX3_firstWrongPlace_30 : decode cX3_firstWrongPlace 30 = .ok (.iinc 1 1, 3) := by decide +kernel
theorem dX3_firstWrongPlace_33 : decode cX3_firstWrongPlace 33 = .ok (.goto (-31), 3) := by decide +kernel
theorem dX3_firstWrongPlace_36 : decode cX3_firstWrongPlace 36 = .ok (.aload_n 0, 1) := by decide +kernel
theorem dX3_firstWrongPlace_37 : decode cX3_firstWrongPlace 37 = .ok (.getfield 34, 3) := by decide +kernel
theorem dX3_firstWrongPlace_40 : decode cX3_firstWrongPlace 40 = .ok (.bipush 6, 2) := by decide +kernel
theorem dX3_firstWrongPlace_42 : decode cX3_firstWrongPlace 42 = .ok (.if_icmp .le 8, 3) := by decide +kernel
theorem dX3_firstWrongPlace_45 : decode cX3_firstWrongPlace 45 = .ok (.bipush 6, 2) := by decide +kernel
theorem dX3_firstWrongPlace_47 : decode cX3_firstWrongPlace 47 = .ok (.goto 4, 3) := by decide +kernel
theorem dX3_firstWrongPlace_50 : decode cX3_firstWrongPlace 50 = .ok (.iconst (-1), 1) := by decide +kernel
theorem dX3_firstWrongPlace_51 : decode cX3_firstWrongPlace 51 = .ok (.ireturn, 1) := by decide +kernel
theorem dX3_mayStand_0 : decode cX3_mayStand 0 = .ok (.iload_n 0, 1) := by decide +kernel
theorem dX3_mayStand_1 : decode cX3_mayStand 1 = .ok (.iconst 2, 1) := by decide +kernel
theorem dX3_mayStand_2 : decode cX3_mayStand 2 = .ok (.irem, 1) := by decide +kernel
theorem dX3_mayStand_3 : decode cX3_mayStand 3 = .ok (.ifCond .ne 21, 3) := by decide +kernel
theorem dX3_mayStand_6 : decode cX3_mayStand 6 = .ok (.iload_n 1, 1) := by decide +kernel
theorem dX3_mayStand_7 : decode cX3_mayStand 7 = .ok (.ldc 41, 2) := by decide +kernel
theorem dX3_mayStand_9 : decode cX3_mayStand 9 = .ok (.iload_n 0, 1) := by decide +kernel
theorem dX3_mayStand_10 : decode cX3_mayStand 10 = .ok (.iconst 2, 1) := by decide +kernel
theorem dX3_mayStand_11 : decode cX3_mayStand 11 = .ok (.idiv, 1) := by decide +kernel
theorem dX3_mayStand_12 : decode cX3_mayStand 12 = .ok (.invokevirtual 43, 3) := by decide +kernel
theorem dX3_mayStand_15 : decode cX3_mayStand 15 = .ok (.if_icmp .ne 7, 3) := by decide +kernel
theorem dX3_mayStand_18 : decode cX3_mayStand 18 = .ok (.iconst 1, 1) := by decide +kernel
theorem dX3_mayStand_19 : decode cX3_mayStand 19 = .ok (.goto 4, 3) := by decide +kernel
theorem dX3_mayStand_22 : decode cX3_mayStand 22 = .ok (.iconst 0, 1) := by decide +kernel
theorem dX3_mayStand_23 : decode cX3_mayStand 23 = .ok (.ireturn, 1) := by decide +kernel
theorem dX3_mayStand_24 : decode cX3_mayStand 24 = .ok (.iload_n 1, 1) := by decide +kernel
theorem dX3_mayStand_25 : decode cX3_mayStand 25 = .ok (.iload_n 0, 1) := by decide +kernel
theorem dX3_mayStand_26 : decode cX3_mayStand 26 = .ok (.iconst 5, 1) := by decide +kernel
theorem dX3_mayStand_27 : decode cX3_mayStand 27 = .ok (.if_icmp .ne 8, 3) := by decide +kernel
theorem dX3_mayStand_30 : decode cX3_mayStand 30 = .ok (.bipush 50, 2) := by decide +kernel
theorem dX3_mayStand_32 : decode cX3_mayStand 32 = .ok (.goto 5, 3) := by decide +kernel
theorem dX3_mayStand_35 : decode cX3_mayStand 35 = .ok (.bipush 49, 2) := by decide +kernel
theorem dX3_mayStand_37 : decode cX3_mayStand 37 = .ok (.if_icmp .lt 13, 3) := by decide +kernel
theorem dX3_mayStand_40 : decode cX3_mayStand 40 = .ok (.iload_n 1, 1) := by decide +kernel
theorem dX3_mayStand_41 : decode cX3_mayStand 41 = .ok (.bipush 57, 2) := by decide +kernel
theorem dX3_mayStand_43 : decode cX3_mayStand 43 = .ok (.if_icmp .gt 7, 3) := by decide +kernel
theorem dX3_mayStand_46 : decode cX3_mayStand 46 = .ok (.iconst 1, 1) := by decide +kernel
theorem dX3_mayStand_47 : decode cX3_mayStand 47 = .ok (.goto 4, 3) := by decide +kernel
theorem dX3_mayStand_50 : decode cX3_mayStand 50 = .ok (.iconst 0, 1) := by decide +kernel
theorem dX3_mayStand_51 : decode cX3_mayStand 51 = .ok (.ireturn, 1) := by decide +kernel
theorem dX4_init_0 : decode cX4_init 0 = .ok (.aload_n 0, 1) := by decide +kernel
theorem dX4_init_1 : decode cX4_init 1 = .ok (.invokespecial 3, 3) := by decide +kernel
theorem dX4_init_4 : decode cX4_init 4 = .ok (.aload_n 0, 1) := by decide +kernel
theorem dX4_init_5 : decode cX4_init 5 = .ok (.bipush 30, 2) := by decide +kernel
theorem dX4_init_7 : decode cX4_init 7 = .ok (.newarray .long, 2) := by decide +kernel
theorem dX4_init_9 : decode cX4_init 9 = .ok (.putfield 11, 3) := by decide +kernel
theorem dX4_init_12 : decode cX4_init 12 = .ok (.aload_n 0, 1) := by decide +kernel
theorem dX4_init_13 : decode cX4_init 13 = .ok (.iconst (-1), 1) := by decide +kernel
theorem dX4_init_14 : decode cX4_init 14 = .ok (.putfield 15, 3) := by decide +kernel
theorem dX4_init_17 : decode cX4_init 17 = .ok (.aload_n 0, 1) := by decide +kernel
theorem dX4_init_18 : decode cX4_init 18 = .ok (.iconst (-1), 1) := by decide +kernel
theorem dX4_init_19 : decode cX4_init 19 = .ok (.putfield 19, 3) := by decide +kernel
theorem dX4_init_22 : decode cX4_init 22 = .ok (.return_, 1) := by decide +kernel
theorem dX4_isRow_0 : decode cX4_isRow 0 = .ok (.aload_n 0, 1) := by decide +kernel
theorem dX4_isRow_1 : decode cX4_isRow 1 = .ok (.getfield 15, 3) := by decide +kernel
theorem dX4_isRow_4 : decode cX4_isRow 4 = .ok (.iconst (-1), 1) := by decide +kernel
theorem dX4_isRow_5 : decode cX4_isRow 5 = .ok (.if_icmp .eq 7, 3) := by decide +kernel
theorem dX4_isRow_8 : decode cX4_isRow 8 = .ok (.iconst 1, 1) := by decide +kernel
theorem dX4_isRow_9 : decode cX4_isRow 9 = .ok (.goto 4, 3) := by decide +kernel
theorem dX4_isRow_12 : decode cX4_isRow 12 = .ok (.iconst 0, 1) := by decide +kernel
theorem dX4_isRow_13 : decode cX4_isRow 13 = .ok (.ireturn, 1) := by decide +kernel
theorem dX4_isDoor_0 : decode cX4_isDoor 0 = .ok (.aload_n 0, 1) := by decide +kernel
theorem dX4_isDoor_1 : decode cX4_isDoor 1 = .ok (.getfield 19, 3) := by decide +kernel
theorem dX4_isDoor_4 : decode cX4_isDoor 4 = .ok (.iconst (-1), 1) := by decide +kernel
theorem dX4_isDoor_5 : decode cX4_isDoor 5 = .ok (.if_icmp .eq 7, 3) := by decide +kernel
theorem dX4_isDoor_8 : decode cX4_isDoor 8 = .ok (.iconst 1, 1) := by decide +kernel
theorem dX4_isDoor_9 : decode cX4_isDoor 9 = .ok (.goto 4, 3) := by decide +kernel
theorem dX4_isDoor_12 : decode cX4_isDoor 12 = .ok (.iconst 0, 1) := by decide +kernel
theorem dX4_isDoor_13 : decode cX4_isDoor 13 = .ok (.ireturn, 1) := by decide +kernel
theorem dX4_putNothing_0 : decode cX4_putNothing 0 = .ok (.aload_n 0, 1) := by decide +kernel
theorem dX4_putNothing_1 : decode cX4_putNothing 1 = .ok (.iconst (-1), 1) := by decide +kernel
theorem dX4_putNothing_2 : decode cX4_putNothing 2 = .ok (.putfield 15, 3) := by decide +kernel
theorem dX4_putNothing_5 : decode cX4_putNothing 5 = .ok (.aload_n 0, 1) := by decide +kernel
theorem dX4_putNothing_6 : decode cX4_putNothing 6 = .ok (.iconst 0, 1) := by decide +kernel
theorem dX4_putNothing_7 : decode cX4_putNothing 7 = .ok (.putfield 22, 3) := by decide +kernel
theorem dX4_putNothing_10 : decode cX4_putNothing 10 = .ok (.aload_n 0, 1) := by decide +kernel
theorem dX4_putNothing_11 : decode cX4_putNothing 11 = .ok (.iconst (-1), 1) := by decide +kernel
theorem dX4_putNothing_12 : decode cX4_putNothing 12 = .ok (.putfield 19, 3) := by decide +kernel
theorem dX4_putNothing_15 : decode cX4_putNothing 15 = .ok (.return_, 1) := by decide +kernel
theorem dX4_putDoor_0 : decode cX4_putDoor 0 = .ok (.aload_n 0, 1) := by decide +kernel
theorem dX4_putDoor_1 : decode cX4_putDoor 1 = .ok (.invokevirtual 25, 3) := by decide +kernel
theorem dX4_putDoor_4 : decode cX4_putDoor 4 = .ok (.aload_n 0, 1) := by decide +kernel
theorem dX4_putDoor_5 : decode cX4_putDoor 5 = .ok (.iload_n 1, 1) := by decide +kernel
theorem dX4_putDoor_6 : decode cX4_putDoor 6 = .ok (.putfield 19, 3) := by decide +kernel
theorem dX4_putDoor_9 : decode cX4_putDoor 9 = .ok (.return_, 1) := by decide +kernel
theorem dX4_putRow_0 : decode cX4_putRow 0 = .ok (.aload_n 0, 1) := by decide +kernel
theorem dX4_putRow_1 : decode cX4_putRow 1 = .ok (.invokevirtual 25, 3) := by decide +kernel
theorem dX4_putRow_4 : decode cX4_putRow 4 = .ok (.aload_n 0, 1) := by decide +kernel
theorem dX4_putRow_5 : decode cX4_putRow 5 = .ok (.iload_n 1, 1) := by decide +kernel
theorem dX4_putRow_6 : decode cX4_putRow 6 = .ok (.putfield 15, 3) := by decide +kernel
theorem dX4_putRow_9 : decode cX4_putRow 9 = .ok (.aload_n 0, 1) := by decide +kernel
theorem dX4_putRow_10 : decode cX4_putRow 10 = .ok (.iload_n 2, 1) := by decide +kernel
theorem dX4_putRow_11 : decode cX4_putRow 11 = .ok (.putfield 22, 3) := by decide +kernel
theorem dX4_putRow_14 : decode cX4_putRow 14 = .ok (.aload_n 0, 1) := by decide +kernel
theorem dX4_putRow_15 : decode cX4_putRow 15 = .ok (.getfield 11, 3) := by decide +kernel
theorem dX4_putRow_18 : decode cX4_putRow 18 = .ok (.lconst 0, 1) := by decide +kernel
theorem dX4_putRow_19 : decode cX4_putRow 19 = .ok (.invokestatic 28, 3) := by decide +kernel
theorem dX4_putRow_22 : decode cX4_putRow 22 = .ok (.return_, 1) := by decide +kernel
theorem dX4_contents_0 : decode cX4_contents 0 = .ok (.aload_n 0, 1) := by decide +kernel
theorem dX4_contents_1 : decode cX4_contents 1 = .ok (.invokevirtual 34, 3) := by decide +kernel
theorem dX4_contents_4 : decode cX4_contents 4 = .ok (.ifCond .eq 13, 3) := by decide +kernel
theorem dX4_contents_7 : decode cX4_contents 7 = .ok (.bipush 100, 2) := by decide +kernel
theorem dX4_contents_9 : decode cX4_contents 9 = .ok (.aload_n 0, 1) := by decide +kernel
theorem dX4_contents_10 : decode cX4_contents 10 = .ok (.getfield 15, 3) := by decide +kernel
theorem dX4_contents_13 : decode cX4_contents 13 = .ok (.iadd, 1) := by decide +kernel
theorem dX4_contents_14 : decode cX4_contents 14 = .ok (.goto 7, 3) := by decide +kernel
theorem dX4_contents_17 : decode cX4_contents 17 = .ok (.aload_n 0, 1) := by decide +kernel
theorem dX4_contents_18 : decode cX4_contents 18 = .ok (.getfield 19, 3) := by decide +kernel
theorem dX4_contents_21 : decode cX4_contents 21 = .ok (.ireturn, 1) := by decide +kernel
theorem dX4_fitAsRow_0 : decode cX4_fitAsRow 0 = .ok (.aload_n 0, 1) := by decide +kernel
theorem dX4_fitAsRow_1 : decode cX4_fitAsRow 1 = .ok (.invokevirtual 38, 3) := by decide +kernel
theorem dX4_fitAsRow_4 : decode cX4_fitAsRow 4 = .ok (.ifCond .eq 6, 3) := by decide +kernel
theorem dX4_fitAsRow_7 : decode cX4_fitAsRow 7 = .ok (.bipush (-2), 2) := by decide +kernel
theorem dX4_fitAsRow_9 : decode cX4_fitAsRow 9 = .ok (.ireturn, 1) := by decide +kernel
theorem dX4_fitAsRow_10 : decode cX4_fitAsRow 10 = .ok (.aload_n 0, 1) := by decide +kernel
theorem dX4_fitAsRow_11 : decode cX4_fitAsRow 11 = .ok (.invokevirtual 34, 3) := by decide +kernel
theorem dX4_fitAsRow_14 : decode cX4_fitAsRow 14 = .ok (.ifCond .eq 7, 3) := by decide +kernel
theorem dX4_fitAsRow_17 : decode cX4_fitAsRow 17 = .ok (.iconst 0, 1) := by decide +kernel
theorem dX4_fitAsRow_18 : decode cX4_fitAsRow 18 = .ok (.goto 5, 3) := by decide +kernel
theorem dX4_fitAsRow_21 : decode cX4_fitAsRow 21 = .ok (.bipush (-3), 2) := by decide +kernel
theorem dX4_fitAsRow_23 : decode cX4_fitAsRow 23 = .ok (.ireturn, 1) := by decide +kernel
theorem dX4_fitAsDoor_0 : decode cX4_fitAsDoor 0 = .ok (.aload_n 0, 1) := by decide +kernel
theorem dX4_fitAsDoor_1 : decode cX4_fitAsDoor 1 = .ok (.invokevirtual 34, 3) := by decide +kernel
theorem dX4_fitAsDoor_4 : decode cX4_fitAsDoor 4 = .ok (.ifCond .eq 6, 3) := by decide +kernel
theorem dX4_fitAsDoor_7 : decode cX4_fitAsDoor 7 = .ok (.bipush (-2), 2) := by decide +kernel
theorem dX4_fitAsDoor_9 : decode cX4_fitAsDoor 9 = .ok (.ireturn, 1) := by decide +kernel
theorem dX4_fitAsDoor_10 : decode cX4_fitAsDoor 10 = .ok (.aload_n 0, 1) := by decide +kernel
theorem dX4_fitAsDoor_11 : decode cX4_fitAsDoor 11 = .ok (.invokevirtual 38, 3) := by decide +kernel
theorem dX4_fitAsDoor_14 : decode cX4_fitAsDoor 14 = .ok (.ifCond .eq 7, 3) := by decide +kernel
theorem dX4_fitAsDoor_17 : decode cX4_fitAsDoor 17 = .ok (.iconst 0, 1) := by decide +kernel
theorem dX4_fitAsDoor_18 : decode cX4_fitAsDoor 18 = .ok (.goto 5, 3) := by decide +kernel
theorem dX4_fitAsDoor_21 : decode cX4_fitAsDoor 21 = .ok (.bipush (-3), 2) := by decide +kernel
theorem dX4_fitAsDoor_23 : decode cX4_fitAsDoor 23 = .ok (.ireturn, 1) := by decide +kernel
theorem dX4_hasElement_0 : decode cX4_hasElement 0 = .ok (.iload_n 1, 1) := by decide +kernel
theorem dX4_hasElement_1 : decode cX4_hasElement 1 = .ok (.ifCond .lt 15, 3) := by decide +kernel
theorem dX4_hasElement_4 : decode cX4_hasElement 4 = .ok (.iload_n 1, 1) := by decide +kernel
theorem dX4_hasElement_5 : decode cX4_hasElement 5 = .ok (.aload_n 0, 1) := by decide +kernel
theorem dX4_hasElement_6 : decode cX4_hasElement 6 = .ok (.getfield 22, 3) := by decide +kernel
theorem dX4_hasElement_9 : decode cX4_hasElement 9 = .ok (.if_icmp .ge 7, 3) := by decide +kernel
theorem dX4_hasElement_12 : decode cX4_hasElement 12 = .ok (.iconst 1, 1) := by decide +kernel
theorem dX4_hasElement_13 : decode cX4_hasElement 13 = .ok (.goto 4, 3) := by decide +kernel
theorem dX4_hasElement_16 : decode cX4_hasElement 16 = .ok (.iconst 0, 1) := by decide +kernel
theorem dX4_hasElement_17 : decode cX4_hasElement 17 = .ok (.ireturn, 1) := by decide +kernel
theorem dX4_hasStretch_0 : decode cX4_hasStretch 0 = .ok (.iload_n 1, 1) := by decide +kernel
theorem dX4_hasStretch_1 : decode cX4_hasStretch 1 = .ok (.ifCond .lt 29, 3) := by decide +kernel
theorem dX4_hasStretch_4 : decode cX4_hasStretch 4 = .ok (.iload_n 2, 1) := by decide +kernel
theorem dX4_hasStretch_5 : decode cX4_hasStretch 5 = .ok (.ifCond .lt 25, 3) := by decide +kernel
theorem dX4_hasStretch_8 : decode cX4_hasStretch 8 = .ok (.iload_n 2, 1) := by decide +kernel
theorem dX4_hasStretch_9 : decode cX4_hasStretch 9 = .ok (.aload_n 0, 1) := by decide +kernel
theorem dX4_hasStretch_10 : decode cX4_hasStretch 10 = .ok (.getfield 22, 3) := by decide +kernel
theorem dX4_hasStretch_13 : decode cX4_hasStretch 13 = .ok (.if_icmp .gt 17, 3) := by decide +kernel
theorem dX4_hasStretch_16 : decode cX4_hasStretch 16 = .ok (.iload_n 1, 1) := by decide +kernel
theorem dX4_hasStretch_17 : decode cX4_hasStretch 17 = .ok (.aload_n 0, 1) := by decide +kernel
theorem dX4_hasStretch_18 : decode cX4_hasStretch 18 = .ok (.getfield 22, 3) := by decide +kernel
theorem dX4_hasStretch_21 : decode cX4_hasStretch 21 = .ok (.iload_n 2, 1) := by decide +kernel
theorem dX4_hasStretch_22 : decode cX4_hasStretch 22 = .ok (.isub, 1) := by decide +kernel
theorem dX4_hasStretch_23 : decode cX4_hasStretch 23 = .ok (.if_icmp .gt 7, 3) := by decide +kernel
theorem dX4_hasStretch_26 : decode cX4_hasStretch 26 = .ok (.iconst 1, 1) := by decide +kernel
theorem dX4_hasStretch_27 : decode cX4_hasStretch 27 = .ok (.goto 4, 3) := by decide +kernel
theorem dX4_hasStretch_30 : decode cX4_hasStretch 30 = .ok (.iconst 0, 1) := by decide +kernel
theorem dX4_hasStretch_31 : decode cX4_hasStretch 31 = .ok (.ireturn, 1) := by decide +kernel
theorem dX4_putElement_0 : decode cX4_putElement 0 = .ok (.aload_n 0, 1) := by decide +kernel
theorem dX4_putElement_1 : decode cX4_putElement 1 = .ok (.iload_n 1, 1) := by decide +kernel
theorem dX4_putElement_2 : decode cX4_putElement 2 = .ok (.invokevirtual 41, 3) := by decide +kernel
theorem dX4_putElement_5 : decode cX4_putElement 5 = .ok (.ifCond .eq 14, 3) := by decide +kernel
theorem dX4_putElement_8 : decode cX4_putElement 8 = .ok (.aload_n 0, 1) := by decide +kernel
theorem dX4_putElement_9 : decode cX4_putElement 9 = .ok (.getfield 11, 3) := by decide +kernel
theorem dX4_putElement_12 : decode cX4_putElement 12 = .ok (.iload_n 1, 1) := by decide +kernel
theorem dX4_putElement_13 : decode cX4_putElement 13 = .ok (.aload_n 0, 1) := by decide +kernel
theorem dX4_putElement_14 : decode cX4_putElement 14 = .ok (.lload_n 2, 1) := by decide +kernel
theorem dX4_putElement_15 : decode cX4_putElement 15 = .ok (.invokevirtual 45, 3) := by decide +kernel
theorem dX4_putElement_18 : decode cX4_putElement 18 = .ok (.lastore, 1) := by decide +kernel
theorem dX4_putElement_19 : decode cX4_putElement 19 = .ok (.return_, 1) := by decide +kernel
theorem dX4_lowestBits_0 : decode cX4_lowestBits 0 = .ok (.aload_n 0, 1) := by decide +kernel
theorem dX4_lowestBits_1 : decode cX4_lowestBits 1 = .ok (.getfield 15, 3) := by decide +kernel
theorem dX4_lowestBits_4 : decode cX4_lowestBits 4 = .ok (.tableswitch 42 0 2 #[28, 33, 38], 28) := by decide +kernel
theorem dX4_lowestBits_32 : decode cX4_lowestBits 32 = .ok (.lload_n 1, 1) := by decide +kernel
theorem dX4_lowestBits_33 : decode cX4_lowestBits 33 = .ok (.l2i, 1) := by decide +kernel
theorem dX4_lowestBits_34 : decode cX4_lowestBits 34 = .ok (.i2b, 1) := by decide +kernel
theorem dX4_lowestBits_35 : decode cX4_lowestBits 35 = .ok (.i2l, 1) := by decide +kernel
theorem dX4_lowestBits_36 : decode cX4_lowestBits 36 = .ok (.lreturn, 1) := by decide +kernel
theorem dX4_lowestBits_37 : decode cX4_lowestBits 37 = .ok (.lload_n 1, 1) := by decide +kernel
theorem dX4_lowestBits_38 : decode cX4_lowestBits 38 = .ok (.l2i, 1) := by decide +kernel
theorem dX4_lowestBits_39 : decode cX4_lowestBits 39 = .ok (.i2s, 1) := by decide +kernel
theorem dX4_lowestBits_40 : decode cX4_lowestBits 40 = .ok (.i2l, 1) := by decide +kernel
theorem dX4_lowestBits_41 : decode cX4_lowestBits 41 = .ok (.lreturn, 1) := by decide +kernel
theorem dX4_lowestBits_42 : decode cX4_lowestBits 42 = .ok (.lload_n 1, 1) := by decide +kernel
theorem dX4_lowestBits_43 : decode cX4_lowestBits 43 = .ok (.l2i, 1) := by decide +kernel
theorem dX4_lowestBits_44 : decode cX4_lowestBits 44 = .ok (.i2l, 1) := by decide +kernel
theorem dX4_lowestBits_45 : decode cX4_lowestBits 45 = .ok (.lreturn, 1) := by decide +kernel
theorem dX4_lowestBits_46 : decode cX4_lowestBits 46 = .ok (.lload_n 1, 1) := by decide +kernel
theorem dX4_lowestBits_47 : decode cX4_lowestBits 47 = .ok (.lreturn, 1) := by decide +kernel
theorem dX4_elementAsInt_0 : decode cX4_elementAsInt 0 = .ok (.aload_n 0, 1) := by decide +kernel
theorem dX4_elementAsInt_1 : decode cX4_elementAsInt 1 = .ok (.iload_n 1, 1) := by decide +kernel
theorem dX4_elementAsInt_2 : decode cX4_elementAsInt 2 = .ok (.invokevirtual 41, 3) := by decide +kernel
theorem dX4_elementAsInt_5 : decode cX4_elementAsInt 5 = .ok (.ifCond .eq 13, 3) := by decide +kernel
theorem dX4_elementAsInt_8 : decode cX4_elementAsInt 8 = .ok (.aload_n 0, 1) := by decide +kernel
theorem dX4_elementAsInt_9 : decode cX4_elementAsInt 9 = .ok (.getfield 11, 3) := by decide +kernel
theorem dX4_elementAsInt_12 : decode cX4_elementAsInt 12 = .ok (.iload_n 1, 1) := by decide +kernel
theorem dX4_elementAsInt_13 : decode cX4_elementAsInt 13 = .ok (.laload, 1) := by decide +kernel
theorem dX4_elementAsInt_14 : decode cX4_elementAsInt 14 = .ok (.l2i, 1) := by decide +kernel
theorem dX4_elementAsInt_15 : decode cX4_elementAsInt 15 = .ok (.goto 4, 3) := by decide +kernel
theorem dX4_elementAsInt_18 : decode cX4_elementAsInt 18 = .ok (.iconst 0, 1) := by decide +kernel
theorem dX4_elementAsInt_19 : decode cX4_elementAsInt 19 = .ok (.ireturn, 1) := by decide +kernel
theorem dX4_elementAsAge_0 : decode cX4_elementAsAge 0 = .ok (.aload_n 0, 1) := by decide +kernel
theorem dX4_elementAsAge_1 : decode cX4_elementAsAge 1 = .ok (.iload_n 1, 1) := by decide +kernel
theorem dX4_elementAsAge_2 : decode cX4_elementAsAge 2 = .ok (.invokevirtual 49, 3) := by decide +kernel
theorem dX4_elementAsAge_5 : decode cX4_elementAsAge 5 = .ok (.istore_n 2, 1) := by decide +kernel
theorem dX4_elementAsAge_6 : decode cX4_elementAsAge 6 = .ok (.aload_n 0, 1) := by decide +kernel
theorem dX4_elementAsAge_7 : decode cX4_elementAsAge 7 = .ok (.iload_n 1, 1) := by decide +kernel
theorem dX4_elementAsAge_8 : decode cX4_elementAsAge 8 = .ok (.invokevirtual 41, 3) := by decide +kernel
theorem dX4_elementAsAge_11 : decode cX4_elementAsAge 11 = .ok (.ifCond .eq 20, 3) := by decide +kernel
theorem dX4_elementAsAge_14 : decode cX4_elementAsAge 14 = .ok (.aload_n 0, 1) := by decide +kernel
theorem dX4_elementAsAge_15 : decode cX4_elementAsAge 15 = .ok (.getfield 11, 3) := by decide +kernel
theorem dX4_elementAsAge_18 : decode cX4_elementAsAge 18 = .ok (.iload_n 1, 1) := by decide +kernel
theorem dX4_elementAsAge_19 : decode cX4_elementAsAge 19 = .ok (.laload, 1) := by decide +kernel
theorem dX4_elementAsAge_20 : decode cX4_elementAsAge 20 = .ok (.ldc2_w 55, 3) := by decide +kernel
theorem dX4_elementAsAge_23 : decode cX4_elementAsAge 23 = .ok (.lcmp, 1) := by decide +kernel
theorem dX4_elementAsAge_24 : decode cX4_elementAsAge 24 = .ok (.ifCond .ne 7, 3) := by decide +kernel
theorem dX4_elementAsAge_27 : decode cX4_elementAsAge 27 = .ok (.iconst 1, 1) := by decide +kernel
theorem dX4_elementAsAge_28 : decode cX4_elementAsAge 28 = .ok (.goto 4, 3) := by decide +kernel
theorem dX4_elementAsAge_31 : decode cX4_elementAsAge 31 = .ok (.iconst 0, 1) := by decide +kernel
theorem dX4_elementAsAge_32 : decode cX4_elementAsAge 32 = .ok (.istore_n 3, 1) := by decide +kernel
theorem dX4_elementAsAge_33 : decode cX4_elementAsAge 33 = .ok (.iload_n 3, 1) := by decide +kernel
theorem dX4_elementAsAge_34 : decode cX4_elementAsAge 34 = .ok (.ifCond .ne 13, 3) := by decide +kernel
theorem dX4_elementAsAge_37 : decode cX4_elementAsAge 37 = .ok (.iload_n 2, 1) := by decide +kernel
theorem dX4_elementAsAge_38 : decode cX4_elementAsAge 38 = .ok (.ifCond .lt 9, 3) := by decide +kernel
theorem dX4_elementAsAge_41 : decode cX4_elementAsAge 41 = .ok (.iload_n 2, 1) := by decide +kernel
theorem dX4_elementAsAge_42 : decode cX4_elementAsAge 42 = .ok (.bipush 110, 2) := by decide +kernel
theorem dX4_elementAsAge_44 : decode cX4_elementAsAge 44 = .ok (.if_icmp .le 8, 3) := by decide +kernel
theorem dX4_elementAsAge_47 : decode cX4_elementAsAge 47 = .ok (.bipush (-2), 2) := by decide +kernel
theorem dX4_elementAsAge_49 : decode cX4_elementAsAge 49 = .ok (.goto 4, 3) := by decide +kernel
theorem dX4_elementAsAge_52 : decode cX4_elementAsAge 52 = .ok (.iload_n 2, 1) := by decide +kernel
theorem dX4_elementAsAge_53 : decode cX4_elementAsAge 53 = .ok (.ireturn, 1) := by decide +kernel
theorem dX5_init_0 : decode cX5_init 0 = .ok (.aload_n 0, 1) := by decide +kernel
theorem dX5_init_1 : decode cX5_init 1 = .ok (.invokespecial 3, 3) := by decide +kernel
theorem dX5_init_4 : decode cX5_init 4 = .ok (.aload_n 0, 1) := by decide +kernel
theorem dX5_init_5 : decode cX5_init 5 = .ok (.bipush 24, 2) := by decide +kernel
theorem dX5_init_7 : decode cX5_init 7 = .ok (.newarray .int, 2) := by decide +kernel
theorem dX5_init_9 : decode cX5_init 9 = .ok (.putfield 11, 3) := by decide +kernel
theorem dX5_init_12 : decode cX5_init 12 = .ok (.aload_n 0, 1) := by decide +kernel
theorem dX5_init_13 : decode cX5_init 13 = .ok (.bipush 10, 2) := by decide +kernel
theorem dX5_init_15 : decode cX5_init 15 = .ok (.newarray .int, 2) := by decide +kernel
theorem dX5_init_17 : decode cX5_init 17 = .ok (.putfield 17, 3) := by decide +kernel
theorem dX5_init_20 : decode cX5_init 20 = .ok (.aload_n 0, 1) := by decide +kernel
theorem dX5_init_21 : decode cX5_init 21 = .ok (.bipush 10, 2) := by decide +kernel
theorem dX5_init_23 : decode cX5_init 23 = .ok (.newarray .int, 2) := by decide +kernel
theorem dX5_init_25 : decode cX5_init 25 = .ok (.putfield 20, 3) := by decide +kernel
theorem dX5_init_28 : decode cX5_init 28 = .ok (.return_, 1) := by decide +kernel
theorem dX5_extreme_0 : decode cX5_extreme 0 = .ok (.aload_n 1, 1) := by decide +kernel
theorem dX5_extreme_1 : decode cX5_extreme 1 = .ok (.iconst 0, 1) := by decide +kernel
theorem dX5_extreme_2 : decode cX5_extreme 2 = .ok (.aload_n 0, 1) := by decide +kernel
theorem dX5_extreme_3 : decode cX5_extreme 3 = .ok (.getfield 11, 3) := by decide +kernel
theorem dX5_extreme_6 : decode cX5_extreme 6 = .ok (.iconst 0, 1) := by decide +kernel
theorem dX5_extreme_7 : decode cX5_extreme 7 = .ok (.bipush 24, 2) := by decide +kernel
theorem dX5_extreme_9 : decode cX5_extreme 9 = .ok (.invokestatic 23, 3) := by decide +kernel
theorem dX5_extreme_12 : decode cX5_extreme 12 = .ok (.aload_n 0, 1) := by decide +kernel
theorem dX5_extreme_13 : decode cX5_extreme 13 = .ok (.iload_n 2, 1) := by decide +kernel
theorem dX5_extreme_14 : decode cX5_extreme 14 = .ok (.iconst 1, 1) := by decide +kernel
theorem dX5_extreme_15 : decode cX5_extreme 15 = .ok (.iload_n 3, 1) := by decide +kernel
theorem dX5_extreme_16 : decode cX5_extreme 16 = .ok (.ishl, 1) := by decide +kernel
theorem dX5_extreme_17 : decode cX5_extreme 17 = .ok (.iconst (-1), 1) := by decide +kernel
theorem dX5_extreme_18 : decode cX5_extreme 18 = .ok (.ixor, 1) := by decide +kernel
theorem dX5_extreme_19 : decode cX5_extreme 19 = .ok (.iand, 1) := by decide +kernel
theorem dX5_extreme_20 : decode cX5_extreme 20 = .ok (.putfield 29, 3) := by decide +kernel
theorem dX5_extreme_23 : decode cX5_extreme 23 = .ok (.iload_n 3, 1) := by decide +kernel
theorem dX5_extreme_24 : decode cX5_extreme 24 = .ok (.iconst 4, 1) := by decide +kernel
theorem dX5_extreme_25 : decode cX5_extreme 25 = .ok (.idiv, 1) := by decide +kernel
theorem dX5_extreme_26 : decode cX5_extreme 26 = .ok (.istore 5, 2) := by decide +kernel
theorem dX5_extreme_28 : decode cX5_extreme 28 = .ok (.bipush 6, 2) := by decide +kernel
theorem dX5_extreme_30 : decode cX5_extreme 30 = .ok (.iload_n 3, 1) := by decide +kernel
theorem dX5_extreme_31 : decode cX5_extreme 31 = .ok (.iconst 4, 1) := by decide +kernel
theorem dX5_extreme_32 : decode cX5_extreme 32 = .ok (.irem, 1) := by decide +kernel
theorem dX5_extreme_33 : decode cX5_extreme 33 = .ok (.iadd, 1) := by decide +kernel
theorem dX5_extreme_34 : decode cX5_extreme 34 = .ok (.istore 6, 2) := by decide +kernel
theorem dX5_extreme_36 : decode cX5_extreme 36 = .ok (.iload 4, 2) := by decide +kernel
theorem dX5_extreme_38 : decode cX5_extreme 38 = .ok (.ifCond .eq 8, 3) := by decide +kernel
theorem dX5_extreme_41 : decode cX5_extreme 41 = .ok (.iload 6, 2) := by decide +kernel
theorem dX5_extreme_43 : decode cX5_extreme 43 = .ok (.goto 5, 3) := by decide +kernel
theorem dX5_extreme_46 : decode cX5_extreme 46 = .ok (.iload 5, 2) := by decide +kernel
theorem dX5_extreme_48 : decode cX5_extreme 48 = .ok (.istore 7, 2) := by decide +kernel
theorem dX5_extreme_50 : decode cX5_extreme 50 = .ok (.iload 4, 2) := by decide +kernel
theorem dX5_extreme_52 : decode cX5_extreme 52 = .ok (.ifCond .eq 8, 3) := by decide +kernel
theorem dX5_extreme_55 : decode cX5_extreme 55 = .ok (.iload 5, 2) := by decide +kernel
theorem dX5_extreme_57 : decode cX5_extreme 57 = .ok (.goto 5, 3) := by decide +kernel
theorem dX5_extreme_60 : decode cX5_extreme 60 = .ok (.iload 6, 2) := by decide +kernel
theorem dX5_extreme_62 : decode cX5_extreme 62 = .ok (.istore 8, 2) := by decide +kernel
theorem dX5_extreme_64 : decode cX5_extreme 64 = .ok (.iconst 0, 1) := by decide +kernel
theorem dX5_extreme_65 : decode cX5_extreme 65 = .ok (.istore 9, 2) := by decide +kernel
theorem dX5_extreme_67 : decode cX5_extreme 67 = .ok (.iload 9, 2) := by decide +kernel
theorem dX5_extreme_69 : decode cX5_extreme 69 = .ok (.ldc 33, 2) := by decide +kernel
theorem dX5_extreme_71 : decode cX5_extreme 71 = .ok (.if_icmp .ge 88, 3) := by decide +kernel
theorem dX5_extreme_74 : decode cX5_extreme 74 = .ok (.aload_n 0, 1) := by decide +kernel
theorem dX5_extreme_75 : decode cX5_extreme 75 = .ok (.iload 7, 2) := by decide +kernel
theorem dX5_extreme_77 : decode cX5_extreme 77 = .ok (.iload 8, 2) := by decide +kernel
theorem dX5_extreme_79 : decode cX5_extreme 79 = .ok (.invokevirtual 34, 3) := by decide +kernel
theorem dX5_extreme_82 : decode cX5_extreme 82 = .ok (.ifCond .eq 77, 3) := by decide +kernel
theorem dX5_extreme_85 : decode cX5_extreme 85 = .ok (.aload_n 0, 1) := by decide +kernel
theorem dX5_extreme_86 : decode cX5_extreme 86 = .ok (.iload 7, 2) := by decide +kernel
theorem dX5_extreme_88 : decode cX5_extreme 88 = .ok (.iload 8, 2) := by decide +kernel
theorem dX5_extreme_90 : decode cX5_extreme 90 = .ok (.invokevirtual 38, 3) := by decide +kernel
theorem dX5_extreme_93 : decode cX5_extreme 93 = .ok (.istore 10, 2) := by decide +kernel
theorem dX5_extreme_95 : decode cX5_extreme 95 = .ok (.iload 4, 2) := by decide +kernel
theorem dX5_extreme_97 : decode cX5_extreme 97 = .ok (.ifCond .ne 16, 3) := by decide +kernel
theorem dX5_extreme_100 : decode cX5_extreme 100 = .ok (.iload 10, 2) := by decide +kernel
theorem dX5_extreme_102 : decode cX5_extreme 102 = .ok (.aload_n 0, 1) := by decide +kernel
theorem dX5_extreme_103 : decode cX5_extreme 103 = .ok (.getfield 11, 3) := by decide +kernel
theorem dX5_extreme_106 : decode cX5_extreme 106 = .ok (.iload_n 3, 1) := by decide +kernel
theorem dX5_extreme_107 : decode cX5_extreme 107 = .ok (.iaload, 1) := by decide +kernel
theorem dX5_extreme_108 : decode cX5_extreme 108 = .ok (.invokestatic 42, 3) := by decide +kernel
theorem dX5_extreme_111 : decode cX5_extreme 111 = .ok (.istore 10, 2) := by decide +kernel
theorem dX5_extreme_113 : decode cX5_extreme 113 = .ok (.iload 10, 2) := by decide +kernel
theorem dX5_extreme_115 : decode cX5_extreme 115 = .ok (.ifCond .gt 6, 3) := by decide +kernel
theorem dX5_extreme_118 : decode cX5_extreme 118 = .ok (.goto 41, 3) := by decide +kernel
theorem dX5_extreme_121 : decode cX5_extreme 121 = .ok (.aload_n 0, 1) := by decide +kernel
theorem dX5_extreme_122 : decode cX5_extreme 122 = .ok (.iload 7, 2) := by decide +kernel
theorem dX5_extreme_124 : decode cX5_extreme 124 = .ok (.iload 8, 2) := by decide +kernel
theorem dX5_extreme_126 : decode cX5_extreme 126 = .ok (.iload 10, 2) := by decide +kernel
theorem dX5_extreme_128 : decode cX5_extreme 128 = .ok (.invokevirtual 47, 3) := by decide +kernel
theorem dX5_extreme_131 : decode cX5_extreme 131 = .ok (.aload_n 0, 1) := by decide +kernel
theorem dX5_extreme_132 : decode cX5_extreme 132 = .ok (.getfield 11, 3) := by decide +kernel
theorem dX5_extreme_135 : decode cX5_extreme 135 = .ok (.iload_n 3, 1) := by decide +kernel
theorem dX5_extreme_136 : decode cX5_extreme 136 = .ok (.dup2, 1) := by decide +kernel
theorem dX5_extreme_137 : decode cX5_extreme 137 = .ok (.iaload, 1) := by decide +kernel
theorem dX5_extreme_138 : decode cX5_extreme 138 = .ok (.iload 4, 2) := by decide +kernel
theorem dX5_extreme_140 : decode cX5_extreme 140 = .ok (.ifCond .eq 8, 3) := by decide +kernel
theorem dX5_extreme_143 : decode cX5_extreme 143 = .ok (.iload 10, 2) := by decide +kernel
theorem dX5_extreme_145 : decode cX5_extreme 145 = .ok (.goto 6, 3) := by decide +kernel
theorem dX5_extreme_148 : decode cX5_extreme 148 = .ok (.iload 10, 2) := by decide +kernel
theorem dX5_extreme_150 : decode cX5_extreme 150 = .ok (.ineg, 1) := by decide +kernel
theorem dX5_extreme_151 : decode cX5_extreme 151 = .ok (.iadd, 1) := by decide +kernel
theorem dX5_extreme_152 : decode cX5_extreme 152 = .ok (.iastore, 1) := by decide +kernel
theorem dX5_extreme_153 : decode cX5_extreme 153 = .ok (.iinc 9 1, 3) := by decide +kernel
theorem dX5_extreme_156 : decode cX5_extreme 156 = .ok (.goto (-89), 3) := by decide +kernel
theorem dX5_extreme_159 : decode cX5_extreme 159 = .ok (.aload_n 0, 1) := by decide +kernel
theorem dX5_extreme_160 : decode cX5_extreme 160 = .ok (.getfield 11, 3) := by decide +kernel
theorem dX5_extreme_163 : decode cX5_extreme 163 = .ok (.iload_n 3, 1) := by decide +kernel
theorem dX5_extreme_164 : decode cX5_extreme 164 = .ok (.iaload, 1) := by decide +kernel
theorem dX5_extreme_165 : decode cX5_extreme 165 = .ok (.ireturn, 1) := by decide +kernel
theorem dX5_findWay_0 : decode cX5_findWay 0 = .ok (.aload_n 0, 1) := by decide +kernel
theorem dX5_findWay_1 : decode cX5_findWay 1 = .ok (.getfield 17, 3) := by decide +kernel
theorem dX5_findWay_4 : decode cX5_findWay 4 = .ok (.iconst (-1), 1) := by decide +kernel
theorem dX5_findWay_5 : decode cX5_findWay 5 = .ok (.invokestatic 51, 3) := by decide +kernel
theorem dX5_findWay_8 : decode cX5_findWay 8 = .ok (.aload_n 0, 1) := by decide +kernel
theorem dX5_findWay_9 : decode cX5_findWay 9 = .ok (.getfield 17, 3) := by decide +kernel
theorem dX5_findWay_12 : decode cX5_findWay 12 = .ok (.iload_n 1, 1) := by decide +kernel
theorem dX5_findWay_13 : decode cX5_findWay 13 = .ok (.iload_n 1, 1) := by decide +kernel
theorem dX5_findWay_14 : decode cX5_findWay 14 = .ok (.iastore, 1) := by decide +kernel
theorem dX5_findWay_15 : decode cX5_findWay 15 = .ok (.aload_n 0, 1) := by decide +kernel
theorem dX5_findWay_16 : decode cX5_findWay 16 = .ok (.getfield 20, 3) := by decide +kernel
theorem dX5_findWay_19 : decode cX5_findWay 19 = .ok (.iconst 0, 1) := by decide +kernel
theorem dX5_findWay_20 : decode cX5_findWay 20 = .ok (.iload_n 1, 1) := by decide +kernel
theorem dX5_findWay_21 : decode cX5_findWay 21 = .ok (.iastore, 1) := by decide +kernel
theorem dX5_findWay_22 : decode cX5_findWay 22 = .ok (.iconst 1, 1) := by decide +kernel
theorem dX5_findWay_23 : decode cX5_findWay 23 = .ok (.istore_n 3, 1) := by decide +kernel
theorem dX5_findWay_24 : decode cX5_findWay 24 = .ok (.iconst 0, 1) := by decide +kernel
theorem dX5_findWay_25 : decode cX5_findWay 25 = .ok (.istore 4, 2) := by decide +kernel
theorem dX5_findWay_27 : decode cX5_findWay 27 = .ok (.iload 4, 2) := by decide +kernel
theorem dX5_findWay_29 : decode cX5_findWay 29 = .ok (.iload_n 3, 1) := by decide +kernel
theorem dX5_findWay_30 : decode cX5_findWay 30 = .ok (.if_icmp .ge 93, 3) := by decide +kernel
theorem dX5_findWay_33 : decode cX5_findWay 33 = .ok (.aload_n 0, 1) := by decide +kernel
theorem dX5_findWay_34 : decode cX5_findWay 34 = .ok (.getfield 17, 3) := by decide +kernel
theorem dX5_findWay_37 : decode cX5_findWay 37 = .ok (.iload_n 2, 1) := by decide +kernel
theorem dX5_findWay_38 : decode cX5_findWay 38 = .ok (.iaload, 1) := by decide +kernel
theorem dX5_findWay_39 : decode cX5_findWay 39 = .ok (.iconst (-1), 1) := by decide +kernel
theorem dX5_findWay_40 : decode cX5_findWay 40 = .ok (.if_icmp .ne 83, 3) := by decide +kernel
theorem dX5_findWay_43 : decode cX5_findWay 43 = .ok (.iconst 0, 1) := by decide +kernel
theorem dX5_findWay_44 : decode cX5_findWay 44 = .ok (.istore 5, 2) := by decide +kernel
theorem dX5_findWay_46 : decode cX5_findWay 46 = .ok (.iload 5, 2) := by decide +kernel
theorem dX5_findWay_48 : decode cX5_findWay 48 = .ok (.bipush 10, 2) := by decide +kernel
theorem dX5_findWay_50 : decode cX5_findWay 50 = .ok (.if_icmp .ge 67, 3) := by decide +kernel
theorem dX5_findWay_53 : decode cX5_findWay 53 = .ok (.aload_n 0, 1) := by decide +kernel
theorem dX5_findWay_54 : decode cX5_findWay 54 = .ok (.getfield 17, 3) := by decide +kernel
theorem dX5_findWay_57 : decode cX5_findWay 57 = .ok (.iload 5, 2) := by decide +kernel
theorem dX5_findWay_59 : decode cX5_findWay 59 = .ok (.iaload, 1) := by decide +kernel
theorem dX5_findWay_60 : decode cX5_findWay 60 = .ok (.iconst (-1), 1) := by decide +kernel
theorem dX5_findWay_61 : decode cX5_findWay 61 = .ok (.if_icmp .ne 50, 3) := by decide +kernel
theorem dX5_findWay_64 : decode cX5_findWay 64 = .ok (.iload_n 3, 1) := by decide +kernel
theorem dX5_findWay_65 : decode cX5_findWay 65 = .ok (.bipush 10, 2) := by decide +kernel
theorem dX5_findWay_67 : decode cX5_findWay 67 = .ok (.if_icmp .ge 44, 3) := by decide +kernel
theorem dX5_findWay_70 : decode cX5_findWay 70 = .ok (.aload_n 0, 1) := by decide +kernel
theorem dX5_findWay_71 : decode cX5_findWay 71 = .ok (.aload_n 0, 1) := by decide +kernel
theorem dX5_findWay_72 : decode cX5_findWay 72 = .ok (.getfield 20, 3) := by decide +kernel
theorem dX5_findWay_75 : decode cX5_findWay 75 = .ok (.iload 4, 2) := by decide +kernel
theorem dX5_findWay_77 : decode cX5_findWay 77 = .ok (.iaload, 1) := by decide +kernel
theorem dX5_findWay_78 : decode cX5_findWay 78 = .ok (.iload 5, 2) := by decide +kernel
theorem dX5_findWay_80 : decode cX5_findWay 80 = .ok (.invokevirtual 57, 3) := by decide +kernel
theorem dX5_findWay_83 : decode cX5_findWay 83 = .ok (.ifCond .eq 28, 3) := by decide +kernel
theorem dX5_findWay_86 : decode cX5_findWay 86 = .ok (.aload_n 0, 1) := by decide +kernel
theorem dX5_findWay_87 : decode cX5_findWay 87 = .ok (.getfield 17, 3) := by decide +kernel
theorem dX5_findWay_90 : decode cX5_findWay 90 = .ok (.iload 5, 2) := by decide +kernel
theorem dX5_findWay_92 : decode cX5_findWay 92 = .ok (.aload_n 0, 1) := by decide +kernel
theorem dX5_findWay_93 : decode cX5_findWay 93 = .ok (.getfield 20, 3) := by decide +kernel
theorem dX5_findWay_96 : decode cX5_findWay 96 = .ok (.iload 4, 2) := by decide +kernel
theorem dX5_findWay_98 : decode cX5_findWay 98 = .ok (.iaload, 1) := by decide +kernel
theorem dX5_findWay_99 : decode cX5_findWay 99 = .ok (.iastore, 1) := by decide +kernel
theorem dX5_findWay_100 : decode cX5_findWay 100 = .ok (.aload_n 0, 1) := by decide +kernel
theorem dX5_findWay_101 : decode cX5_findWay 101 = .ok (.getfield 20, 3) := by decide +kernel
theorem dX5_findWay_104 : decode cX5_findWay 104 = .ok (.iload_n 3, 1) := by decide +kernel
theorem dX5_findWay_105 : decode cX5_findWay 105 = .ok (.iload 5, 2) := by decide +kernel
theorem dX5_findWay_107 : decode cX5_findWay 107 = .ok (.iastore, 1) := by decide +kernel
theorem dX5_findWay_108 : decode cX5_findWay 108 = .ok (.iinc 3 1, 3) := by decide +kernel
theorem dX5_findWay_111 : decode cX5_findWay 111 = .ok (.iinc 5 1, 3) := by decide +kernel
theorem dX5_findWay_114 : decode cX5_findWay 114 = .ok (.goto (-68), 3) := by decide +kernel
theorem dX5_findWay_117 : decode cX5_findWay 117 = .ok (.iinc 4 1, 3) := by decide +kernel
theorem dX5_findWay_120 : decode cX5_findWay 120 = .ok (.goto (-93), 3) := by decide +kernel
theorem dX5_findWay_123 : decode cX5_findWay 123 = .ok (.aload_n 0, 1) := by decide +kernel
theorem dX5_findWay_124 : decode cX5_findWay 124 = .ok (.getfield 17, 3) := by decide +kernel
theorem dX5_findWay_127 : decode cX5_findWay 127 = .ok (.iload_n 2, 1) := by decide +kernel
theorem dX5_findWay_128 : decode cX5_findWay 128 = .ok (.iaload, 1) := by decide +kernel
theorem dX5_findWay_129 : decode cX5_findWay 129 = .ok (.iconst (-1), 1) := by decide +kernel
theorem dX5_findWay_130 : decode cX5_findWay 130 = .ok (.if_icmp .eq 7, 3) := by decide +kernel
theorem dX5_findWay_133 : decode cX5_findWay 133 = .ok (.iconst 1, 1) := by decide +kernel
theorem dX5_findWay_134 : decode cX5_findWay 134 = .ok (.goto 4, 3) := by decide +kernel
theorem dX5_findWay_137 : decode cX5_findWay 137 = .ok (.iconst 0, 1) := by decide +kernel
theorem dX5_findWay_138 : decode cX5_findWay 138 = .ok (.ireturn, 1) := by decide +kernel
theorem dX5_canStep_0 : decode cX5_canStep 0 = .ok (.iload_n 1, 1) := by decide +kernel
theorem dX5_canStep_1 : decode cX5_canStep 1 = .ok (.bipush 6, 2) := by decide +kernel
theorem dX5_canStep_3 : decode cX5_canStep 3 = .ok (.if_icmp .ge 7, 3) := by decide +kernel
theorem dX5_canStep_6 : decode cX5_canStep 6 = .ok (.iconst 1, 1) := by decide +kernel
theorem dX5_canStep_7 : decode cX5_canStep 7 = .ok (.goto 4, 3) := by decide +kernel
theorem dX5_canStep_10 : decode cX5_canStep 10 = .ok (.iconst 0, 1) := by decide +kernel
theorem dX5_canStep_11 : decode cX5_canStep 11 = .ok (.iload_n 2, 1) := by decide +kernel
theorem dX5_canStep_12 : decode cX5_canStep 12 = .ok (.bipush 6, 2) := by decide +kernel
theorem dX5_canStep_14 : decode cX5_canStep 14 = .ok (.if_icmp .ge 7, 3) := by decide +kernel
theorem dX5_canStep_17 : decode cX5_canStep 17 = .ok (.iconst 1, 1) := by decide +kernel
theorem dX5_canStep_18 : decode cX5_canStep 18 = .ok (.goto 4, 3) := by decide +kernel
theorem dX5_canStep_21 : decode cX5_canStep 21 = .ok (.iconst 0, 1) := by decide +kernel
theorem dX5_canStep_22 : decode cX5_canStep 22 = .ok (.if_icmp .ne 5, 3) := by decide +kernel
theorem dX5_canStep_25 : decode cX5_canStep 25 = .ok (.iconst 0, 1) := by decide +kernel
theorem dX5_canStep_26 : decode cX5_canStep 26 = .ok (.ireturn, 1) := by decide +kernel
theorem dX5_canStep_27 : decode cX5_canStep 27 = .ok (.iload_n 1, 1) := by decide +kernel
theorem dX5_canStep_28 : decode cX5_canStep 28 = .ok (.iload_n 2, 1) := by decide +kernel
theorem dX5_canStep_29 : decode cX5_canStep 29 = .ok (.invokestatic 60, 3) := by decide +kernel
theorem dX5_canStep_32 : decode cX5_canStep 32 = .ok (.istore_n 3, 1) := by decide +kernel
theorem dX5_canStep_33 : decode cX5_canStep 33 = .ok (.aload_n 0, 1) := by decide +kernel
theorem dX5_canStep_34 : decode cX5_canStep 34 = .ok (.getfield 29, 3) := by decide +kernel
theorem dX5_canStep_37 : decode cX5_canStep 37 = .ok (.iload_n 3, 1) := by decide +kernel
theorem dX5_canStep_38 : decode cX5_canStep 38 = .ok (.ishr, 1) := by decide +kernel
theorem dX5_canStep_39 : decode cX5_canStep 39 = .ok (.iconst 1, 1) := by decide +kernel
theorem dX5_canStep_40 : decode cX5_canStep 40 = .ok (.iand, 1) := by decide +kernel
theorem dX5_canStep_41 : decode cX5_canStep 41 = .ok (.ifCond .eq 22, 3) := by decide +kernel
theorem dX5_canStep_44 : decode cX5_canStep 44 = .ok (.iload_n 1, 1) := by decide +kernel
theorem dX5_canStep_45 : decode cX5_canStep 45 = .ok (.bipush 6, 2) := by decide +kernel
theorem dX5_canStep_47 : decode cX5_canStep 47 = .ok (.if_icmp .lt 12, 3) := by decide +kernel
theorem dX5_canStep_50 : decode cX5_canStep 50 = .ok (.aload_n 0, 1) := by decide +kernel
theorem dX5_canStep_51 : decode cX5_canStep 51 = .ok (.getfield 11, 3) := by decide +kernel
theorem dX5_canStep_54 : decode cX5_canStep 54 = .ok (.iload_n 3, 1) := by decide +kernel
theorem dX5_canStep_55 : decode cX5_canStep 55 = .ok (.iaload, 1) := by decide +kernel
theorem dX5_canStep_56 : decode cX5_canStep 56 = .ok (.ifCond .le 7, 3) := by decide +kernel
theorem dX5_canStep_59 : decode cX5_canStep 59 = .ok (.iconst 1, 1) := by decide +kernel
theorem dX5_canStep_60 : decode cX5_canStep 60 = .ok (.goto 4, 3) := by decide +kernel
theorem dX5_canStep_63 : decode cX5_canStep 63 = .ok (.iconst 0, 1) := by decide +kernel
theorem dX5_canStep_64 : decode cX5_canStep 64 = .ok (.ireturn, 1) := by decide +kernel
theorem dX5_cellOf_0 : decode cX5_cellOf 0 = .ok (.iload_n 0, 1) := by decide +kernel
theorem dX5_cellOf_1 : decode cX5_cellOf 1 = .ok (.iload_n 1, 1) := by decide +kernel
theorem dX5_cellOf_2 : decode cX5_cellOf 2 = .ok (.invokestatic 42, 3) := by decide +kernel
theorem dX5_cellOf_5 : decode cX5_cellOf 5 = .ok (.iconst 4, 1) := by decide +kernel
theorem dX5_cellOf_6 : decode cX5_cellOf 6 = .ok (.imul, 1) := by decide +kernel
theorem dX5_cellOf_7 : decode cX5_cellOf 7 = .ok (.iload_n 0, 1) := by decide +kernel
theorem dX5_cellOf_8 : decode cX5_cellOf 8 = .ok (.iload_n 1, 1) := by decide +kernel
theorem dX5_cellOf_9 : decode cX5_cellOf 9 = .ok (.invokestatic 63, 3) := by decide +kernel
theorem dX5_cellOf_12 : decode cX5_cellOf 12 = .ok (.iadd, 1) := by decide +kernel
theorem dX5_cellOf_13 : decode cX5_cellOf 13 = .ok (.bipush 6, 2) := by decide +kernel
theorem dX5_cellOf_15 : decode cX5_cellOf 15 = .ok (.isub, 1) := by decide +kernel
theorem dX5_cellOf_16 : decode cX5_cellOf 16 = .ok (.ireturn, 1) := by decide +kernel
theorem dX5_wayRoom_0 : decode cX5_wayRoom 0 = .ok (.ldc 68, 2) := by decide +kernel
theorem dX5_wayRoom_2 : decode cX5_wayRoom 2 = .ok (.istore_n 3, 1) := by decide +kernel
theorem dX5_wayRoom_3 : decode cX5_wayRoom 3 = .ok (.iload_n 2, 1) := by decide +kernel
theorem dX5_wayRoom_4 : decode cX5_wayRoom 4 = .ok (.istore 4, 2) := by decide +kernel
theorem dX5_wayRoom_6 : decode cX5_wayRoom 6 = .ok (.iconst 0, 1) := by decide +kernel
theorem dX5_wayRoom_7 : decode cX5_wayRoom 7 = .ok (.istore 5, 2) := by decide +kernel
theorem dX5_wayRoom_9 : decode cX5_wayRoom 9 = .ok (.iload 5, 2) := by decide +kernel
theorem dX5_wayRoom_11 : decode cX5_wayRoom 11 = .ok (.bipush 10, 2) := by decide +kernel
theorem dX5_wayRoom_13 : decode cX5_wayRoom 13 = .ok (.if_icmp .ge 53, 3) := by decide +kernel
theorem dX5_wayRoom_16 : decode cX5_wayRoom 16 = .ok (.iload 4, 2) := by decide +kernel
theorem dX5_wayRoom_18 : decode cX5_wayRoom 18 = .ok (.iload_n 1, 1) := by decide +kernel
theorem dX5_wayRoom_19 : decode cX5_wayRoom 19 = .ok (.if_icmp .eq 47, 3) := by decide +kernel
theorem dX5_wayRoom_22 : decode cX5_wayRoom 22 = .ok (.iload 4, 2) := by decide +kernel
theorem dX5_wayRoom_24 : decode cX5_wayRoom 24 = .ok (.bipush 6, 2) := by decide +kernel
theorem dX5_wayRoom_26 : decode cX5_wayRoom 26 = .ok (.if_icmp .ge 25, 3) := by decide +kernel
theorem dX5_wayRoom_29 : decode cX5_wayRoom 29 = .ok (.iload_n 3, 1) := by decide +kernel
theorem dX5_wayRoom_30 : decode cX5_wayRoom 30 = .ok (.aload_n 0, 1) := by decide +kernel
theorem dX5_wayRoom_31 : decode cX5_wayRoom 31 = .ok (.getfield 11, 3) := by decide +kernel
theorem dX5_wayRoom_34 : decode cX5_wayRoom 34 = .ok (.aload_n 0, 1) := by decide +kernel
theorem dX5_wayRoom_35 : decode cX5_wayRoom 35 = .ok (.getfield 17, 3) := by decide +kernel
theorem dX5_wayRoom_38 : decode cX5_wayRoom 38 = .ok (.iload 4, 2) := by decide +kernel
theorem dX5_wayRoom_40 : decode cX5_wayRoom 40 = .ok (.iaload, 1) := by decide +kernel
theorem dX5_wayRoom_41 : decode cX5_wayRoom 41 = .ok (.iload 4, 2) := by decide +kernel
theorem dX5_wayRoom_43 : decode cX5_wayRoom 43 = .ok (.invokestatic 60, 3) := by decide +kernel
theorem dX5_wayRoom_46 : decode cX5_wayRoom 46 = .ok (.iaload, 1) := by decide +kernel
theorem dX5_wayRoom_47 : decode cX5_wayRoom 47 = .ok (.invokestatic 42, 3) := by decide +kernel
theorem dX5_wayRoom_50 : decode cX5_wayRoom 50 = .ok (.istore_n 3, 1) := by decide +kernel
theorem dX5_wayRoom_51 : decode cX5_wayRoom 51 = .ok (.aload_n 0, 1) := by decide +kernel
theorem dX5_wayRoom_52 : decode cX5_wayRoom 52 = .ok (.getfield 17, 3) := by decide +kernel
theorem dX5_wayRoom_55 : decode cX5_wayRoom 55 = .ok (.iload 4, 2) := by decide +kernel
theorem dX5_wayRoom_57 : decode cX5_wayRoom 57 = .ok (.iaload, 1) := by decide +kernel
theorem dX5_wayRoom_58 : decode cX5_wayRoom 58 = .ok (.istore 4, 2) := by decide +kernel
theorem dX5_wayRoom_60 : decode cX5_wayRoom 60 = .ok (.iinc 5 1, 3) := by decide +kernel
theorem dX5_wayRoom_63 : decode cX5_wayRoom 63 = .ok (.goto (-54), 3) := by decide +kernel
theorem dX5_wayRoom_66 : decode cX5_wayRoom 66 = .ok (.iload_n 3, 1) := by decide +kernel
theorem dX5_wayRoom_67 : decode cX5_wayRoom 67 = .ok (.ireturn, 1) := by decide +kernel
theorem dX5_moveAlong_0 : decode cX5_moveAlong 0 = .ok (.iload_n 2, 1) := by decide +kernel
theorem dX5_moveAlong_1 : decode cX5_moveAlong 1 = .ok (.istore 4, 2) := by decide +kernel
theorem dX5_moveAlong_3 : decode cX5_moveAlong 3 = .ok (.iconst 0, 1) := by decide +kernel
theorem dX5_moveAlong_4 : decode cX5_moveAlong 4 = .ok (.istore 5, 2) := by decide +kernel
theorem dX5_moveAlong_6 : decode cX5_moveAlong 6 = .ok (.iload 5, 2) := by decide +kernel
theorem dX5_moveAlong_8 : decode cX5_moveAlong 8 = .ok (.bipush 10, 2) := by decide +kernel
theorem dX5_moveAlong_10 : decode cX5_moveAlong 10 = .ok (.if_icmp .ge 57, 3) := by decide +kernel
theorem dX5_moveAlong_13 : decode cX5_moveAlong 13 = .ok (.iload 4, 2) := by decide +kernel
theorem dX5_moveAlong_15 : decode cX5_moveAlong 15 = .ok (.iload_n 1, 1) := by decide +kernel
theorem dX5_moveAlong_16 : decode cX5_moveAlong 16 = .ok (.if_icmp .eq 51, 3) := by decide +kernel
theorem dX5_moveAlong_19 : decode cX5_moveAlong 19 = .ok (.aload_n 0, 1) := by decide +kernel
theorem dX5_moveAlong_20 : decode cX5_moveAlong 20 = .ok (.getfield 11, 3) := by decide +kernel
theorem dX5_moveAlong_23 : decode cX5_moveAlong 23 = .ok (.aload_n 0, 1) := by decide +kernel
theorem dX5_moveAlong_24 : decode cX5_moveAlong 24 = .ok (.getfield 17, 3) := by decide +kernel
theorem dX5_moveAlong_27 : decode cX5_moveAlong 27 = .ok (.iload 4, 2) := by decide +kernel
theorem dX5_moveAlong_29 : decode cX5_moveAlong 29 = .ok (.iaload, 1) := by decide +kernel
theorem dX5_moveAlong_30 : decode cX5_moveAlong 30 = .ok (.iload 4, 2) := by decide +kernel
theorem dX5_moveAlong_32 : decode cX5_moveAlong 32 = .ok (.invokestatic 60, 3) := by decide +kernel
theorem dX5_moveAlong_35 : decode cX5_moveAlong 35 = .ok (.dup2, 1) := by decide +kernel
theorem dX5_moveAlong_36 : decode cX5_moveAlong 36 = .ok (.iaload, 1) := by decide +kernel
theorem dX5_moveAlong_37 : decode cX5_moveAlong 37 = .ok (.iload 4, 2) := by decide +kernel
theorem dX5_moveAlong_39 : decode cX5_moveAlong 39 = .ok (.bipush 6, 2) := by decide +kernel
theorem dX5_moveAlong_41 : decode cX5_moveAlong 41 = .ok (.if_icmp .ge 8, 3) := by decide +kernel
theorem dX5_moveAlong_44 : decode cX5_moveAlong 44 = .ok (.iload_n 3, 1) := by decide +kernel
theorem dX5_moveAlong_45 : decode cX5_moveAlong 45 = .ok (.ineg, 1) := by decide +kernel
theorem dX5_moveAlong_46 : decode cX5_moveAlong 46 = .ok (.goto 4, 3) := by decide +kernel
theorem dX5_moveAlong_49 : decode cX5_moveAlong 49 = .ok (.iload_n 3, 1) := by decide +kernel
theorem dX5_moveAlong_50 : decode cX5_moveAlong 50 = .ok (.iadd, 1) := by decide +kernel
theorem dX5_moveAlong_51 : decode cX5_moveAlong 51 = .ok (.iastore, 1) := by decide +kernel
theorem dX5_moveAlong_52 : decode cX5_moveAlong 52 = .ok (.aload_n 0, 1) := by decide +kernel
theorem dX5_moveAlong_53 : decode cX5_moveAlong 53 = .ok (.getfield 17, 3) := by decide +kernel
theorem dX5_moveAlong_56 : decode cX5_moveAlong 56 = .ok (.iload 4, 2) := by decide +kernel
theorem dX5_moveAlong_58 : decode cX5_moveAlong 58 = .ok (.iaload, 1) := by decide +kernel
theorem dX5_moveAlong_59 : decode cX5_moveAlong 59 = .ok (.istore 4, 2) := by decide +kernel
theorem dX5_moveAlong_61 : decode cX5_moveAlong 61 = .ok (.iinc 5 1, 3) := by decide +kernel
theorem dX5_moveAlong_64 : decode cX5_moveAlong 64 = .ok (.goto (-58), 3) := by decide +kernel
theorem dX5_moveAlong_67 : decode cX5_moveAlong 67 = .ok (.return_, 1) := by decide +kernel
theorem dX6_init_0 : decode cX6_init 0 = .ok (.aload_n 0, 1) := by decide +kernel
theorem dX6_init_1 : decode cX6_init 1 = .ok (.invokespecial 3, 3) := by decide +kernel
theorem dX6_init_4 : decode cX6_init 4 = .ok (.aload_n 0, 1) := by decide +kernel
theorem dX6_init_5 : decode cX6_init 5 = .ok (.bipush 24, 2) := by decide +kernel
theorem dX6_init_7 : decode cX6_init 7 = .ok (.newarray .int, 2) := by decide +kernel
theorem dX6_init_9 : decode cX6_init 9 = .ok (.putfield 11, 3) := by decide +kernel
theorem dX6_init_12 : decode cX6_init 12 = .ok (.aload_n 0, 1) := by decide +kernel
theorem dX6_init_13 : decode cX6_init 13 = .ok (.bipush 24, 2) := by decide +kernel
theorem dX6_init_15 : decode cX6_init 15 = .ok (.newarray .int, 2) := by decide +kernel
theorem dX6_init_17 : decode cX6_init 17 = .ok (.putfield 15, 3) := by decide +kernel
theorem dX6_init_20 : decode cX6_init 20 = .ok (.aload_n 0, 1) := by decide +kernel
theorem dX6_init_21 : decode cX6_init 21 = .ok (.new 18, 3) := by decide +kernel
theorem dX6_init_24 : decode cX6_init 24 = .ok (.dup, 1) := by decide +kernel
theorem dX6_init_25 : decode cX6_init 25 = .ok (.invokespecial 20, 3) := by decide +kernel
theorem dX6_init_28 : decode cX6_init 28 = .ok (.putfield 21, 3) := by decide +kernel
theorem dX6_init_31 : decode cX6_init 31 = .ok (.aload_n 0, 1) := by decide +kernel
theorem dX6_init_32 : decode cX6_init 32 = .ok (.new 25, 3) := by decide +kernel
theorem dX6_init_35 : decode cX6_init 35 = .ok (.dup, 1) := by decide +kernel
theorem dX6_init_36 : decode cX6_init 36 = .ok (.invokespecial 27, 3) := by decide +kernel
theorem dX6_init_39 : decode cX6_init 39 = .ok (.putfield 28, 3) := by decide +kernel
theorem dX6_init_42 : decode cX6_init 42 = .ok (.return_, 1) := by decide +kernel
theorem dX6_draft_0 : decode cX6_draft 0 = .ok (.iload_n 1, 1) := by decide +kernel
theorem dX6_draft_1 : decode cX6_draft 1 = .ok (.iload_n 2, 1) := by decide +kernel
theorem dX6_draft_2 : decode cX6_draft 2 = .ok (.invokestatic 32, 3) := by decide +kernel
theorem dX6_draft_5 : decode cX6_draft 5 = .ok (.ifCond .eq 14, 3) := by decide +kernel
theorem dX6_draft_8 : decode cX6_draft 8 = .ok (.aload_n 0, 1) := by decide +kernel
theorem dX6_draft_9 : decode cX6_draft 9 = .ok (.getfield 11, 3) := by decide +kernel
theorem dX6_draft_12 : decode cX6_draft 12 = .ok (.iload_n 1, 1) := by decide +kernel
theorem dX6_draft_13 : decode cX6_draft 13 = .ok (.iconst 4, 1) := by decide +kernel
theorem dX6_draft_14 : decode cX6_draft 14 = .ok (.imul, 1) := by decide +kernel
theorem dX6_draft_15 : decode cX6_draft 15 = .ok (.iload_n 2, 1) := by decide +kernel
theorem dX6_draft_16 : decode cX6_draft 16 = .ok (.iadd, 1) := by decide +kernel
theorem dX6_draft_17 : decode cX6_draft 17 = .ok (.iload_n 3, 1) := by decide +kernel
theorem dX6_draft_18 : decode cX6_draft 18 = .ok (.iastore, 1) := by decide +kernel
theorem dX6_draft_19 : decode cX6_draft 19 = .ok (.return_, 1) := by decide +kernel
theorem dX6_make_0 : decode cX6_make 0 = .ok (.aload_n 0, 1) := by decide +kernel
theorem dX6_make_1 : decode cX6_make 1 = .ok (.getfield 21, 3) := by decide +kernel
theorem dX6_make_4 : decode cX6_make 4 = .ok (.aload_n 0, 1) := by decide +kernel
theorem dX6_make_5 : decode cX6_make 5 = .ok (.getfield 11, 3) := by decide +kernel
theorem dX6_make_8 : decode cX6_make 8 = .ok (.iload_n 1, 1) := by decide +kernel
theorem dX6_make_9 : decode cX6_make 9 = .ok (.invokevirtual 36, 3) := by decide +kernel
theorem dX6_make_12 : decode cX6_make 12 = .ok (.istore_n 2, 1) := by decide +kernel
theorem dX6_make_13 : decode cX6_make 13 = .ok (.iload_n 2, 1) := by decide +kernel
theorem dX6_make_14 : decode cX6_make 14 = .ok (.iconst (-1), 1) := by decide +kernel
theorem dX6_make_15 : decode cX6_make 15 = .ok (.if_icmp .ne 5, 3) := by decide +kernel
theorem dX6_make_18 : decode cX6_make 18 = .ok (.iconst 0, 1) := by decide +kernel
theorem dX6_make_19 : decode cX6_make 19 = .ok (.ireturn, 1) := by decide +kernel
theorem dX6_make_20 : decode cX6_make 20 = .ok (.aload_n 0, 1) := by decide +kernel
theorem dX6_make_21 : decode cX6_make 21 = .ok (.getfield 11, 3) := by decide +kernel
theorem dX6_make_24 : decode cX6_make 24 = .ok (.iconst 0, 1) := by decide +kernel
theorem dX6_make_25 : decode cX6_make 25 = .ok (.aload_n 0, 1) := by decide +kernel
theorem dX6_make_26 : decode cX6_make 26 = .ok (.getfield 15, 3) := by decide +kernel
theorem dX6_make_29 : decode cX6_make 29 = .ok (.iconst 0, 1) := by decide +kernel
theorem dX6_make_30 : decode cX6_make 30 = .ok (.bipush 24, 2) := by decide +kernel
theorem dX6_make_32 : decode cX6_make 32 = .ok (.invokestatic 40, 3) := by decide +kernel
theorem dX6_make_35 : decode cX6_make 35 = .ok (.aload_n 0, 1) := by decide +kernel
theorem dX6_make_36 : decode cX6_make 36 = .ok (.iload_n 2, 1) := by decide +kernel
theorem dX6_make_37 : decode cX6_make 37 = .ok (.putfield 46, 3) := by decide +kernel
theorem dX6_make_40 : decode cX6_make 40 = .ok (.aload_n 0, 1) := by decide +kernel
theorem dX6_make_41 : decode cX6_make 41 = .ok (.iconst 1, 1) := by decide +kernel
theorem dX6_make_42 : decode cX6_make 42 = .ok (.putfield 50, 3) := by decide +kernel
theorem dX6_make_45 : decode cX6_make 45 = .ok (.iconst 1, 1) := by decide +kernel
theorem dX6_make_46 : decode cX6_make 46 = .ok (.ireturn, 1) := by decide +kernel
theorem dX6_hiddenCells_0 : decode cX6_hiddenCells 0 = .ok (.aload_n 0, 1) := by decide +kernel
theorem dX6_hiddenCells_1 : decode cX6_hiddenCells 1 = .ok (.getfield 46, 3) := by decide +kernel
theorem dX6_hiddenCells_4 : decode cX6_hiddenCells 4 = .ok (.invokestatic 54, 3) := by decide +kernel
theorem dX6_hiddenCells_7 : decode cX6_hiddenCells 7 = .ok (.ireturn, 1) := by decide +kernel
theorem dX6_tell_0 : decode cX6_tell 0 = .ok (.aload_n 0, 1) := by decide +kernel
theorem dX6_tell_1 : decode cX6_tell 1 = .ok (.getfield 50, 3) := by decide +kernel
theorem dX6_tell_4 : decode cX6_tell 4 = .ok (.ifCond .eq 22, 3) := by decide +kernel
theorem dX6_tell_7 : decode cX6_tell 7 = .ok (.iload_n 1, 1) := by decide +kernel
theorem dX6_tell_8 : decode cX6_tell 8 = .ok (.ifCond .lt 18, 3) := by decide +kernel
theorem dX6_tell_11 : decode cX6_tell 11 = .ok (.iload_n 1, 1) := by decide +kernel
theorem dX6_tell_12 : decode cX6_tell 12 = .ok (.bipush 6, 2) := by decide +kernel
theorem dX6_tell_14 : decode cX6_tell 14 = .ok (.if_icmp .gt 12, 3) := by decide +kernel
theorem dX6_tell_17 : decode cX6_tell 17 = .ok (.iload_n 2, 1) := by decide +kernel
theorem dX6_tell_18 : decode cX6_tell 18 = .ok (.ifCond .lt 8, 3) := by decide +kernel
theorem dX6_tell_21 : decode cX6_tell 21 = .ok (.iload_n 2, 1) := by decide +kernel
theorem dX6_tell_22 : decode cX6_tell 22 = .ok (.iconst 4, 1) := by decide +kernel
theorem dX6_tell_23 : decode cX6_tell 23 = .ok (.if_icmp .le 5, 3) := by decide +kernel
theorem dX6_tell_26 : decode cX6_tell 26 = .ok (.iconst (-1), 1) := by decide +kernel
theorem dX6_tell_27 : decode cX6_tell 27 = .ok (.ireturn, 1) := by decide +kernel
theorem dX6_tell_28 : decode cX6_tell 28 = .ok (.iload_n 1, 1) := by decide +kernel
theorem dX6_tell_29 : decode cX6_tell 29 = .ok (.iload_n 2, 1) := by decide +kernel
theorem dX6_tell_30 : decode cX6_tell 30 = .ok (.invokestatic 32, 3) := by decide +kernel
theorem dX6_tell_33 : decode cX6_tell 33 = .ok (.ifCond .eq 28, 3) := by decide +kernel
theorem dX6_tell_36 : decode cX6_tell 36 = .ok (.aload_n 0, 1) := by decide +kernel
theorem dX6_tell_37 : decode cX6_tell 37 = .ok (.iload_n 1, 1) := by decide +kernel
theorem dX6_tell_38 : decode cX6_tell 38 = .ok (.iload_n 2, 1) := by decide +kernel
theorem dX6_tell_39 : decode cX6_tell 39 = .ok (.invokevirtual 60, 3) := by decide +kernel
theorem dX6_tell_42 : decode cX6_tell 42 = .ok (.ifCond .eq 8, 3) := by decide +kernel
theorem dX6_tell_45 : decode cX6_tell 45 = .ok (.bipush (-2), 2) := by decide +kernel
theorem dX6_tell_47 : decode cX6_tell 47 = .ok (.goto 13, 3) := by decide +kernel
theorem dX6_tell_50 : decode cX6_tell 50 = .ok (.aload_n 0, 1) := by decide +kernel
theorem dX6_tell_51 : decode cX6_tell 51 = .ok (.getfield 15, 3) := by decide +kernel
theorem dX6_tell_54 : decode cX6_tell 54 = .ok (.iload_n 1, 1) := by decide +kernel
theorem dX6_tell_55 : decode cX6_tell 55 = .ok (.iconst 4, 1) := by decide +kernel
theorem dX6_tell_56 : decode cX6_tell 56 = .ok (.imul, 1) := by decide +kernel
theorem dX6_tell_57 : decode cX6_tell 57 = .ok (.iload_n 2, 1) := by decide +kernel
theorem dX6_tell_58 : decode cX6_tell 58 = .ok (.iadd, 1) := by decide +kernel
theorem dX6_tell_59 : decode cX6_tell 59 = .ok (.iaload, 1) := by decide +kernel
theorem dX6_tell_60 : decode cX6_tell 60 = .ok (.ireturn, 1) := by decide +kernel
theorem dX6_tell_61 : decode cX6_tell 61 = .ok (.aload_n 0, 1) := by decide +kernel
theorem dX6_tell_62 : decode cX6_tell 62 = .ok (.iload_n 1, 1) := by decide +kernel
theorem dX6_tell_63 : decode cX6_tell 63 = .ok (.iload_n 2, 1) := by decide +kernel
theorem dX6_tell_64 : decode cX6_tell 64 = .ok (.invokevirtual 63, 3) := by decide +kernel
theorem dX6_tell_67 : decode cX6_tell 67 = .ok (.ireturn, 1) := by decide +kernel
theorem dX6_extreme_0 : decode cX6_extreme 0 = .ok (.aload_n 0, 1) := by decide +kernel
theorem dX6_extreme_1 : decode cX6_extreme 1 = .ok (.getfield 50, 3) := by decide +kernel
theorem dX6_extreme_4 : decode cX6_extreme 4 = .ok (.ifCond .eq 11, 3) := by decide +kernel
theorem dX6_extreme_7 : decode cX6_extreme 7 = .ok (.iload_n 1, 1) := by decide +kernel
theorem dX6_extreme_8 : decode cX6_extreme 8 = .ok (.iload_n 2, 1) := by decide +kernel
theorem dX6_extreme_9 : decode cX6_extreme 9 = .ok (.invokestatic 32, 3) := by decide +kernel
theorem dX6_extreme_12 : decode cX6_extreme 12 = .ok (.ifCond .ne 5, 3) := by decide +kernel
theorem dX6_extreme_15 : decode cX6_extreme 15 = .ok (.iconst (-1), 1) := by decide +kernel
theorem dX6_extreme_16 : decode cX6_extreme 16 = .ok (.ireturn, 1) := by decide +kernel
theorem dX6_extreme_17 : decode cX6_extreme 17 = .ok (.aload_n 0, 1) := by decide +kernel
theorem dX6_extreme_18 : decode cX6_extreme 18 = .ok (.iload_n 1, 1) := by decide +kernel
theorem dX6_extreme_19 : decode cX6_extreme 19 = .ok (.iload_n 2, 1) := by decide +kernel
theorem dX6_extreme_20 : decode cX6_extreme 20 = .ok (.invokevirtual 60, 3) := by decide +kernel
theorem dX6_extreme_23 : decode cX6_extreme 23 = .ok (.ifCond .ne 14, 3) := by decide +kernel
theorem dX6_extreme_26 : decode cX6_extreme 26 = .ok (.aload_n 0, 1) := by decide +kernel
theorem dX6_extreme_27 : decode cX6_extreme 27 = .ok (.getfield 15, 3) := by decide +kernel
theorem dX6_extreme_30 : decode cX6_extreme 30 = .ok (.iload_n 1, 1) := by decide +kernel
theorem dX6_extreme_31 : decode cX6_extreme 31 = .ok (.iconst 4, 1) := by decide +kernel
theorem dX6_extreme_32 : decode cX6_extreme 32 = .ok (.imul, 1) := by decide +kernel
theorem dX6_extreme_33 : decode cX6_extreme 33 = .ok (.iload_n 2, 1) := by decide +kernel
theorem dX6_extreme_34 : decode cX6_extreme 34 = .ok (.iadd, 1) := by decide +kernel
theorem dX6_extreme_35 : decode cX6_extreme 35 = .ok (.iaload, 1) := by decide +kernel
theorem dX6_extreme_36 : decode cX6_extreme 36 = .ok (.ireturn, 1) := by decide +kernel
theorem dX6_extreme_37 : decode cX6_extreme 37 = .ok (.aload_n 0, 1) := by decide +kernel
theorem dX6_extreme_38 : decode cX6_extreme 38 = .ok (.getfield 28, 3) := by decide +kernel
theorem dX6_extreme_41 : decode cX6_extreme 41 = .ok (.aload_n 0, 1) := by decide +kernel
theorem dX6_extreme_42 : decode cX6_extreme 42 = .ok (.getfield 15, 3) := by decide +kernel
theorem dX6_extreme_45 : decode cX6_extreme 45 = .ok (.aload_n 0, 1) := by decide +kernel
theorem dX6_extreme_46 : decode cX6_extreme 46 = .ok (.getfield 46, 3) := by decide +kernel
theorem dX6_extreme_49 : decode cX6_extreme 49 = .ok (.iload_n 1, 1) := by decide +kernel
theorem dX6_extreme_50 : decode cX6_extreme 50 = .ok (.iconst 4, 1) := by decide +kernel
theorem dX6_extreme_51 : decode cX6_extreme 51 = .ok (.imul, 1) := by decide +kernel
theorem dX6_extreme_52 : decode cX6_extreme 52 = .ok (.iload_n 2, 1) := by decide +kernel
theorem dX6_extreme_53 : decode cX6_extreme 53 = .ok (.iadd, 1) := by decide +kernel
theorem dX6_extreme_54 : decode cX6_extreme 54 = .ok (.iload_n 3, 1) := by decide +kernel
theorem dX6_extreme_55 : decode cX6_extreme 55 = .ok (.invokevirtual 67, 3) := by decide +kernel
theorem dX6_extreme_58 : decode cX6_extreme 58 = .ok (.ireturn, 1) := by decide +kernel
theorem dX6_sum_0 : decode cX6_sum 0 = .ok (.iconst 0, 1) := by decide +kernel
theorem dX6_sum_1 : decode cX6_sum 1 = .ok (.istore_n 3, 1) := by decide +kernel
theorem dX6_sum_2 : decode cX6_sum 2 = .ok (.iconst 0, 1) := by decide +kernel
theorem dX6_sum_3 : decode cX6_sum 3 = .ok (.istore 4, 2) := by decide +kernel
theorem dX6_sum_5 : decode cX6_sum 5 = .ok (.iload 4, 2) := by decide +kernel
theorem dX6_sum_7 : decode cX6_sum 7 = .ok (.bipush 24, 2) := by decide +kernel
theorem dX6_sum_9 : decode cX6_sum 9 = .ok (.if_icmp .ge 70, 3) := by decide +kernel
theorem dX6_sum_12 : decode cX6_sum 12 = .ok (.iload_n 1, 1) := by decide +kernel
theorem dX6_sum_13 : decode cX6_sum 13 = .ok (.bipush 6, 2) := by decide +kernel
theorem dX6_sum_15 : decode cX6_sum 15 = .ok (.if_icmp .eq 11, 3) := by decide +kernel
theorem dX6_sum_18 : decode cX6_sum 18 = .ok (.iload_n 1, 1) := by decide +kernel
theorem dX6_sum_19 : decode cX6_sum 19 = .ok (.iload 4, 2) := by decide +kernel
theorem dX6_sum_21 : decode cX6_sum 21 = .ok (.iconst 4, 1) := by decide +kernel
theorem dX6_sum_22 : decode cX6_sum 22 = .ok (.idiv, 1) := by decide +kernel
theorem dX6_sum_23 : decode cX6_sum 23 = .ok (.if_icmp .ne 7, 3) := by decide +kernel
theorem dX6_sum_26 : decode cX6_sum 26 = .ok (.iconst 1, 1) := by decide +kernel
theorem dX6_sum_27 : decode cX6_sum 27 = .ok (.goto 4, 3) := by decide +kernel
theorem dX6_sum_30 : decode cX6_sum 30 = .ok (.iconst 0, 1) := by decide +kernel
theorem dX6_sum_31 : decode cX6_sum 31 = .ok (.istore 5, 2) := by decide +kernel
theorem dX6_sum_33 : decode cX6_sum 33 = .ok (.iload_n 2, 1) := by decide +kernel
theorem dX6_sum_34 : decode cX6_sum 34 = .ok (.iconst 4, 1) := by decide +kernel
theorem dX6_sum_35 : decode cX6_sum 35 = .ok (.if_icmp .eq 11, 3) := by decide +kernel
theorem dX6_sum_38 : decode cX6_sum 38 = .ok (.iload_n 2, 1) := by decide +kernel
theorem dX6_sum_39 : decode cX6_sum 39 = .ok (.iload 4, 2) := by decide +kernel
theorem dX6_sum_41 : decode cX6_sum 41 = .ok (.iconst 4, 1) := by decide +kernel
theorem dX6_sum_42 : decode cX6_sum 42 = .ok (.irem, 1) := by decide +kernel
theorem dX6_sum_43 : decode cX6_sum 43 = .ok (.if_icmp .ne 7, 3) := by decide +kernel
theorem dX6_sum_46 : decode cX6_sum 46 = .ok (.iconst 1, 1) := by decide +kernel
theorem dX6_sum_47 : decode cX6_sum 47 = .ok (.goto 4, 3) := by decide +kernel
theorem dX6_sum_50 : decode cX6_sum 50 = .ok (.iconst 0, 1) := by decide +kernel
theorem dX6_sum_51 : decode cX6_sum 51 = .ok (.istore 6, 2) := by decide +kernel
theorem dX6_sum_53 : decode cX6_sum 53 = .ok (.iload 5, 2) := by decide +kernel
theorem dX6_sum_55 : decode cX6_sum 55 = .ok (.ifCond .eq 18, 3) := by decide +kernel
theorem dX6_sum_58 : decode cX6_sum 58 = .ok (.iload 6, 2) := by decide +kernel
theorem dX6_sum_60 : decode cX6_sum 60 = .ok (.ifCond .eq 13, 3) := by decide +kernel
theorem dX6_sum_63 : decode cX6_sum 63 = .ok (.iload_n 3, 1) := by decide +kernel
theorem dX6_sum_64 : decode cX6_sum 64 = .ok (.aload_n 0, 1) := by decide +kernel
theorem dX6_sum_65 : decode cX6_sum 65 = .ok (.getfield 15, 3) := by decide +kernel
theorem dX6_sum_68 : decode cX6_sum 68 = .ok (.iload 4, 2) := by decide +kernel
theorem dX6_sum_70 : decode cX6_sum 70 = .ok (.iaload, 1) := by decide +kernel
theorem dX6_sum_71 : decode cX6_sum 71 = .ok (.iadd, 1) := by decide +kernel
theorem dX6_sum_72 : decode cX6_sum 72 = .ok (.istore_n 3, 1) := by decide +kernel
theorem dX6_sum_73 : decode cX6_sum 73 = .ok (.iinc 4 1, 3) := by decide +kernel
theorem dX6_sum_76 : decode cX6_sum 76 = .ok (.goto (-71), 3) := by decide +kernel
theorem dX6_sum_79 : decode cX6_sum 79 = .ok (.iload_n 3, 1) := by decide +kernel
theorem dX6_sum_80 : decode cX6_sum 80 = .ok (.ireturn, 1) := by decide +kernel
theorem dX6_isHidden_0 : decode cX6_isHidden 0 = .ok (.aload_n 0, 1) := by decide +kernel
theorem dX6_isHidden_1 : decode cX6_isHidden 1 = .ok (.getfield 46, 3) := by decide +kernel
theorem dX6_isHidden_4 : decode cX6_isHidden 4 = .ok (.iload_n 1, 1) := by decide +kernel
theorem dX6_isHidden_5 : decode cX6_isHidden 5 = .ok (.iconst 4, 1) := by decide +kernel
theorem dX6_isHidden_6 : decode cX6_isHidden 6 = .ok (.imul, 1) := by decide +kernel
theorem dX6_isHidden_7 : decode cX6_isHidden 7 = .ok (.iload_n 2, 1) := by decide +kernel
theorem dX6_isHidden_8 : decode cX6_isHidden 8 = .ok (.iadd, 1) := by decide +kernel
theorem dX6_isHidden_9 : decode cX6_isHidden 9 = .ok (.ishr, 1) := by decide +kernel
theorem dX6_isHidden_10 : decode cX6_isHidden 10 = .ok (.iconst 1, 1) := by decide +kernel
theorem dX6_isHidden_11 : decode cX6_isHidden 11 = .ok (.iand, 1) := by decide +kernel
theorem dX6_isHidden_12 : decode cX6_isHidden 12 = .ok (.ifCond .eq 7, 3) := by decide +kernel
theorem dX6_isHidden_15 : decode cX6_isHidden 15 = .ok (.iconst 1, 1) := by decide +kernel
theorem dX6_isHidden_16 : decode cX6_isHidden 16 = .ok (.goto 4, 3) := by decide +kernel
theorem dX6_isHidden_19 : decode cX6_isHidden 19 = .ok (.iconst 0, 1) := by decide +kernel
theorem dX6_isHidden_20 : decode cX6_isHidden 20 = .ok (.ireturn, 1) := by decide +kernel
theorem dX6_isCell_0 : decode cX6_isCell 0 = .ok (.iload_n 0, 1) := by decide +kernel
theorem dX6_isCell_1 : decode cX6_isCell 1 = .ok (.ifCond .lt 22, 3) := by decide +kernel
theorem dX6_isCell_4 : decode cX6_isCell 4 = .ok (.iload_n 0, 1) := by decide +kernel
theorem dX6_isCell_5 : decode cX6_isCell 5 = .ok (.bipush 6, 2) := by decide +kernel
theorem dX6_isCell_7 : decode cX6_isCell 7 = .ok (.if_icmp .ge 16, 3) := by decide +kernel
theorem dX6_isCell_10 : decode cX6_isCell 10 = .ok (.iload_n 1, 1) := by decide +kernel
theorem dX6_isCell_11 : decode cX6_isCell 11 = .ok (.ifCond .lt 12, 3) := by decide +kernel
theorem dX6_isCell_14 : decode cX6_isCell 14 = .ok (.iload_n 1, 1) := by decide +kernel
theorem dX6_isCell_15 : decode cX6_isCell 15 = .ok (.iconst 4, 1) := by decide +kernel
theorem dX6_isCell_16 : decode cX6_isCell 16 = .ok (.if_icmp .ge 7, 3) := by decide +kernel
theorem dX6_isCell_19 : decode cX6_isCell 19 = .ok (.iconst 1, 1) := by decide +kernel
theorem dX6_isCell_20 : decode cX6_isCell 20 = .ok (.goto 4, 3) := by decide +kernel
theorem dX6_isCell_23 : decode cX6_isCell 23 = .ok (.iconst 0, 1) := by decide +kernel
theorem dX6_isCell_24 : decode cX6_isCell 24 = .ok (.ireturn, 1) := by decide +kernel
theorem dX7_init_0 : decode cX7_init 0 = .ok (.aload_n 0, 1) := by decide +kernel
theorem dX7_init_1 : decode cX7_init 1 = .ok (.invokespecial 3, 3) := by decide +kernel
theorem dX7_init_4 : decode cX7_init 4 = .ok (.aload_n 0, 1) := by decide +kernel
theorem dX7_init_5 : decode cX7_init 5 = .ok (.bipush 6, 2) := by decide +kernel
theorem dX7_init_7 : decode cX7_init 7 = .ok (.newarray .int, 2) := by decide +kernel
theorem dX7_init_9 : decode cX7_init 9 = .ok (.putfield 9, 3) := by decide +kernel
theorem dX7_init_12 : decode cX7_init 12 = .ok (.aload_n 0, 1) := by decide +kernel
theorem dX7_init_13 : decode cX7_init 13 = .ok (.bipush 6, 2) := by decide +kernel
theorem dX7_init_15 : decode cX7_init 15 = .ok (.newarray .int, 2) := by decide +kernel
theorem dX7_init_17 : decode cX7_init 17 = .ok (.putfield 15, 3) := by decide +kernel
theorem dX7_init_20 : decode cX7_init 20 = .ok (.aload_n 0, 1) := by decide +kernel
theorem dX7_init_21 : decode cX7_init 21 = .ok (.bipush 6, 2) := by decide +kernel
theorem dX7_init_23 : decode cX7_init 23 = .ok (.newarray .int, 2) := by decide +kernel
theorem dX7_init_25 : decode cX7_init 25 = .ok (.putfield 18, 3) := by decide +kernel
theorem dX7_init_28 : decode cX7_init 28 = .ok (.aload_n 0, 1) := by decide +kernel
theorem dX7_init_29 : decode cX7_init 29 = .ok (.bipush 6, 2) := by decide +kernel
theorem dX7_init_31 : decode cX7_init 31 = .ok (.newarray .int, 2) := by decide +kernel
theorem dX7_init_33 : decode cX7_init 33 = .ok (.putfield 21, 3) := by decide +kernel
theorem dX7_init_36 : decode cX7_init 36 = .ok (.aload_n 0, 1) := by decide +kernel
theorem dX7_init_37 : decode cX7_init 37 = .ok (.bipush 6, 2) := by decide +kernel
theorem dX7_init_39 : decode cX7_init 39 = .ok (.newarray .int, 2) := by decide +kernel
theorem dX7_init_41 : decode cX7_init 41 = .ok (.putfield 24, 3) := by decide +kernel
theorem dX7_init_44 : decode cX7_init 44 = .ok (.aload_n 0, 1) := by decide +kernel
theorem dX7_init_45 : decode cX7_init 45 = .ok (.bipush 6, 2) := by decide +kernel
theorem dX7_init_47 : decode cX7_init 47 = .ok (.newarray .int, 2) := by decide +kernel
theorem dX7_init_49 : decode cX7_init 49 = .ok (.putfield 27, 3) := by decide +kernel
theorem dX7_init_52 : decode cX7_init 52 = .ok (.aload_n 0, 1) := by decide +kernel
theorem dX7_init_53 : decode cX7_init 53 = .ok (.getfield 18, 3) := by decide +kernel
theorem dX7_init_56 : decode cX7_init 56 = .ok (.iconst (-1), 1) := by decide +kernel
theorem dX7_init_57 : decode cX7_init 57 = .ok (.invokestatic 30, 3) := by decide +kernel
theorem dX7_init_60 : decode cX7_init 60 = .ok (.return_, 1) := by decide +kernel
theorem dX7_join_0 : decode cX7_join 0 = .ok (.aload_n 0, 1) := by decide +kernel
theorem dX7_join_1 : decode cX7_join 1 = .ok (.getfield 9, 3) := by decide +kernel
theorem dX7_join_4 : decode cX7_join 4 = .ok (.iload_n 1, 1) := by decide +kernel
theorem dX7_join_5 : decode cX7_join 5 = .ok (.iaload, 1) := by decide +kernel
theorem dX7_join_6 : decode cX7_join 6 = .ok (.iload_n 2, 1) := by decide +kernel
theorem dX7_join_7 : decode cX7_join 7 = .ok (.ishr, 1) := by decide +kernel
theorem dX7_join_8 : decode cX7_join 8 = .ok (.iconst 1, 1) := by decide +kernel
theorem dX7_join_9 : decode cX7_join 9 = .ok (.iand, 1) := by decide +kernel
theorem dX7_join_10 : decode cX7_join 10 = .ok (.ifCond .ne 7, 3) := by decide +kernel
theorem dX7_join_13 : decode cX7_join 13 = .ok (.iconst 1, 1) := by decide +kernel
theorem dX7_join_14 : decode cX7_join 14 = .ok (.goto 4, 3) := by decide +kernel
theorem dX7_join_17 : decode cX7_join 17 = .ok (.iconst 0, 1) := by decide +kernel
theorem dX7_join_18 : decode cX7_join 18 = .ok (.istore_n 3, 1) := by decide +kernel
theorem dX7_join_19 : decode cX7_join 19 = .ok (.aload_n 0, 1) := by decide +kernel
theorem dX7_join_20 : decode cX7_join 20 = .ok (.getfield 9, 3) := by decide +kernel
theorem dX7_join_23 : decode cX7_join 23 = .ok (.iload_n 1, 1) := by decide +kernel
theorem dX7_join_24 : decode cX7_join 24 = .ok (.dup2, 1) := by decide +kernel
theorem dX7_join_25 : decode cX7_join 25 = .ok (.iaload, 1) := by decide +kernel
theorem dX7_join_26 : decode cX7_join 26 = .ok (.iconst 1, 1) := by decide +kernel
theorem dX7_join_27 : decode cX7_join 27 = .ok (.iload_n 2, 1) := by decide +kernel
theorem dX7_join_28 : decode cX7_join 28 = .ok (.ishl, 1) := by decide +kernel
theorem dX7_join_29 : decode cX7_join 29 = .ok (.ior, 1) := by decide +kernel
theorem dX7_join_30 : decode cX7_join 30 = .ok (.iastore, 1) := by decide +kernel
theorem dX7_join_31 : decode cX7_join 31 = .ok (.aload_n 0, 1) := by decide +kernel
theorem dX7_join_32 : decode cX7_join 32 = .ok (.getfield 9, 3) := by decide +kernel
theorem dX7_join_35 : decode cX7_join 35 = .ok (.iload_n 2, 1) := by decide +kernel
theorem dX7_join_36 : decode cX7_join 36 = .ok (.dup2, 1) := by decide +kernel
theorem dX7_join_37 : decode cX7_join 37 = .ok (.iaload, 1) := by decide +kernel
theorem dX7_join_38 : decode cX7_join 38 = .ok (.iconst 1, 1) := by decide +kernel
theorem dX7_join_39 : decode cX7_join 39 = .ok (.iload_n 1, 1) := by decide +kernel
theorem dX7_join_40 : decode cX7_join 40 = .ok (.ishl, 1) := by decide +kernel
theorem dX7_join_41 : decode cX7_join 41 = .ok (.ior, 1) := by decide +kernel
theorem dX7_join_42 : decode cX7_join 42 = .ok (.iastore, 1) := by decide +kernel
theorem dX7_join_43 : decode cX7_join 43 = .ok (.iload_n 3, 1) := by decide +kernel
theorem dX7_join_44 : decode cX7_join 44 = .ok (.ireturn, 1) := by decide +kernel
theorem dX7_numberOf_0 : decode cX7_numberOf 0 = .ok (.aload_n 0, 1) := by decide +kernel
theorem dX7_numberOf_1 : decode cX7_numberOf 1 = .ok (.getfield 18, 3) := by decide +kernel
theorem dX7_numberOf_4 : decode cX7_numberOf 4 = .ok (.iload_n 1, 1) := by decide +kernel
theorem dX7_numberOf_5 : decode cX7_numberOf 5 = .ok (.iaload, 1) := by decide +kernel
theorem dX7_numberOf_6 : decode cX7_numberOf 6 = .ok (.ireturn, 1) := by decide +kernel
theorem dX7_clearWork_0 : decode cX7_clearWork 0 = .ok (.aload_n 0, 1) := by decide +kernel
theorem dX7_clearWork_1 : decode cX7_clearWork 1 = .ok (.iconst 0, 1) := by decide +kernel
theorem dX7_clearWork_2 : decode cX7_clearWork 2 = .ok (.putfield 36, 3) := by decide +kernel
theorem dX7_clearWork_5 : decode cX7_clearWork 5 = .ok (.aload_n 0, 1) := by decide +kernel
theorem dX7_clearWork_6 : decode cX7_clearWork 6 = .ok (.getfield 15, 3) := by decide +kernel
theorem dX7_clearWork_9 : decode cX7_clearWork 9 = .ok (.iconst 0, 1) := by decide +kernel
theorem dX7_clearWork_10 : decode cX7_clearWork 10 = .ok (.invokestatic 30, 3) := by decide +kernel
theorem dX7_clearWork_13 : decode cX7_clearWork 13 = .ok (.return_, 1) := by decide +kernel
theorem dX7_addDoor_0 : decode cX7_addDoor 0 = .ok (.aload_n 0, 1) := by decide +kernel
theorem dX7_addDoor_1 : decode cX7_addDoor 1 = .ok (.dup, 1) := by decide +kernel
theorem dX7_addDoor_2 : decode cX7_addDoor 2 = .ok (.getfield 36, 3) := by decide +kernel
theorem dX7_addDoor_5 : decode cX7_addDoor 5 = .ok (.iconst 1, 1) := by decide +kernel
theorem dX7_addDoor_6 : decode cX7_addDoor 6 = .ok (.iload_n 1, 1) := by decide +kernel
theorem dX7_addDoor_7 : decode cX7_addDoor 7 = .ok (.ishl, 1) := by decide +kernel
theorem dX7_addDoor_8 : decode cX7_addDoor 8 = .ok (.ior, 1) := by decide +kernel
theorem dX7_addDoor_9 : decode cX7_addDoor 9 = .ok (.putfield 36, 3) := by decide +kernel
theorem dX7_addDoor_12 : decode cX7_addDoor 12 = .ok (.iload_n 2, 1) := by decide +kernel
theorem dX7_addDoor_13 : decode cX7_addDoor 13 = .ok (.ifCond .eq 13, 3) := by decide +kernel
theorem dX7_addDoor_16 : decode cX7_addDoor 16 = .ok (.aload_n 0, 1) := by decide +kernel
theorem dX7_addDoor_17 : decode cX7_addDoor 17 = .ok (.getfield 15, 3) := by decide +kernel
theorem dX7_addDoor_20 : decode cX7_addDoor 20 = .ok (.iload_n 1, 1) := by decide +kernel
theorem dX7_addDoor_21 : decode cX7_addDoor 21 = .ok (.dup2, 1) := by decide +kernel
theorem dX7_addDoor_22 : decode cX7_addDoor 22 = .ok (.iaload, 1) := by decide +kernel
theorem dX7_addDoor_23 : decode cX7_addDoor 23 = .ok (.iconst 1, 1) := by decide +kernel
theorem dX7_addDoor_24 : decode cX7_addDoor 24 = .ok (.iadd, 1) := by decide +kernel
theorem dX7_addDoor_25 : decode cX7_addDoor 25 = .ok (.iastore, 1) := by decide +kernel
theorem dX7_addDoor_26 : decode cX7_addDoor 26 = .ok (.return_, 1) := by decide +kernel
theorem dX7_part_0 : decode cX7_part 0 = .ok (.aload_n 0, 1) := by decide +kernel
theorem dX7_part_1 : decode cX7_part 1 = .ok (.iload_n 1, 1) := by decide +kernel
theorem dX7_part_2 : decode cX7_part 2 = .ok (.putfield 40, 3) := by decide +kernel
theorem dX7_part_5 : decode cX7_part 5 = .ok (.aload_n 0, 1) := by decide +kernel
theorem dX7_part_6 : decode cX7_part 6 = .ok (.bipush 7, 2) := by decide +kernel
theorem dX7_part_8 : decode cX7_part 8 = .ok (.putfield 43, 3) := by decide +kernel
theorem dX7_part_11 : decode cX7_part 11 = .ok (.aload_n 0, 1) := by decide +kernel
theorem dX7_part_12 : decode cX7_part 12 = .ok (.iconst 0, 1) := by decide +kernel
theorem dX7_part_13 : decode cX7_part 13 = .ok (.putfield 46, 3) := by decide +kernel
theorem dX7_part_16 : decode cX7_part 16 = .ok (.aload_n 0, 1) := by decide +kernel
theorem dX7_part_17 : decode cX7_part 17 = .ok (.getfield 24, 3) := by decide +kernel
theorem dX7_part_20 : decode cX7_part 20 = .ok (.iconst (-1), 1) := by decide +kernel
theorem dX7_part_21 : decode cX7_part 21 = .ok (.invokestatic 30, 3) := by decide +kernel
theorem dX7_part_24 : decode cX7_part 24 = .ok (.aload_n 0, 1) := by decide +kernel
theorem dX7_part_25 : decode cX7_part 25 = .ok (.getfield 21, 3) := by decide +kernel
theorem dX7_part_28 : decode cX7_part 28 = .ok (.iconst 0, 1) := by decide +kernel
theorem dX7_part_29 : decode cX7_part 29 = .ok (.invokestatic 30, 3) := by decide +kernel
theorem dX7_part_32 : decode cX7_part 32 = .ok (.aload_n 0, 1) := by decide +kernel
theorem dX7_part_33 : decode cX7_part 33 = .ok (.iconst 0, 1) := by decide +kernel
theorem dX7_part_34 : decode cX7_part 34 = .ok (.iconst 0, 1) := by decide +kernel
theorem dX7_part_35 : decode cX7_part 35 = .ok (.invokestatic 49, 3) := by decide +kernel
theorem dX7_part_38 : decode cX7_part 38 = .ok (.aload_n 0, 1) := by decide +kernel
theorem dX7_part_39 : decode cX7_part 39 = .ok (.getfield 43, 3) := by decide +kernel
theorem dX7_part_42 : decode cX7_part 42 = .ok (.bipush 6, 2) := by decide +kernel
theorem dX7_part_44 : decode cX7_part 44 = .ok (.if_icmp .le 5, 3) := by decide +kernel
theorem dX7_part_47 : decode cX7_part 47 = .ok (.iconst (-1), 1) := by decide +kernel
theorem dX7_part_48 : decode cX7_part 48 = .ok (.ireturn, 1) := by decide +kernel
theorem dX7_part_49 : decode cX7_part 49 = .ok (.aload_n 0, 1) := by decide +kernel
theorem dX7_part_50 : decode cX7_part 50 = .ok (.getfield 27, 3) := by decide +kernel
theorem dX7_part_53 : decode cX7_part 53 = .ok (.iconst 0, 1) := by decide +kernel
theorem dX7_part_54 : decode cX7_part 54 = .ok (.aload_n 0, 1) := by decide +kernel
theorem dX7_part_55 : decode cX7_part 55 = .ok (.getfield 18, 3) := by decide +kernel
theorem dX7_part_58 : decode cX7_part 58 = .ok (.iconst 0, 1) := by decide +kernel
theorem dX7_part_59 : decode cX7_part 59 = .ok (.bipush 6, 2) := by decide +kernel
theorem dX7_part_61 : decode cX7_part 61 = .ok (.invokestatic 53, 3) := by decide +kernel
theorem dX7_part_64 : decode cX7_part 64 = .ok (.aload_n 0, 1) := by decide +kernel
theorem dX7_part_65 : decode cX7_part 65 = .ok (.getfield 43, 3) := by decide +kernel
theorem dX7_part_68 : decode cX7_part 68 = .ok (.ireturn, 1) := by decide +kernel
theorem dX7_place_0 : decode cX7_place 0 = .ok (.iload_n 2, 1) := by decide +kernel
theorem dX7_place_1 : decode cX7_place 1 = .ok (.aload_n 0, 1) := by decide +kernel
theorem dX7_place_2 : decode cX7_place 2 = .ok (.getfield 43, 3) := by decide +kernel
theorem dX7_place_5 : decode cX7_place 5 = .ok (.if_icmp .le 4, 3) := by decide +kernel
theorem dX7_place_8 : decode cX7_place 8 = .ok (.return_, 1) := by decide +kernel
theorem dX7_place_9 : decode cX7_place 9 = .ok (.iload_n 1, 1) := by decide +kernel
theorem dX7_place_10 : decode cX7_place 10 = .ok (.bipush 6, 2) := by decide +kernel
theorem dX7_place_12 : decode cX7_place 12 = .ok (.if_icmp .lt 9, 3) := by decide +kernel
theorem dX7_place_15 : decode cX7_place 15 = .ok (.aload_n 0, 1) := by decide +kernel
theorem dX7_place_16 : decode cX7_place 16 = .ok (.iload_n 2, 1) := by decide +kernel
theorem dX7_place_17 : decode cX7_place 17 = .ok (.invokevirtual 59, 3) := by decide +kernel
theorem dX7_place_20 : decode cX7_place 20 = .ok (.return_, 1) := by decide +kernel
theorem dX7_place_21 : decode cX7_place 21 = .ok (.aload_n 0, 1) := by decide +kernel
theorem dX7_place_22 : decode cX7_place 22 = .ok (.getfield 36, 3) := by decide +kernel
theorem dX7_place_25 : decode cX7_place 25 = .ok (.iload_n 1, 1) := by decide +kernel
theorem dX7_place_26 : decode cX7_place 26 = .ok (.ishr, 1) := by decide +kernel
theorem dX7_place_27 : decode cX7_place 27 = .ok (.iconst 1, 1) := by decide +kernel
theorem dX7_place_28 : decode cX7_place 28 = .ok (.iand, 1) := by decide +kernel
theorem dX7_place_29 : decode cX7_place 29 = .ok (.ifCond .ne 12, 3) := by decide +kernel
theorem dX7_place_32 : decode cX7_place 32 = .ok (.aload_n 0, 1) := by decide +kernel
theorem dX7_place_33 : decode cX7_place 33 = .ok (.iload_n 1, 1) := by decide +kernel
theorem dX7_place_34 : decode cX7_place 34 = .ok (.iconst 1, 1) := by decide +kernel
theorem dX7_place_35 : decode cX7_place 35 = .ok (.iadd, 1) := by decide +kernel
theorem dX7_place_36 : decode cX7_place 36 = .ok (.iload_n 2, 1) := by decide +kernel
theorem dX7_place_37 : decode cX7_place 37 = .ok (.invokestatic 49, 3) := by decide +kernel
theorem dX7_place_40 : decode cX7_place 40 = .ok (.return_, 1) := by decide +kernel
theorem dX7_place_41 : decode cX7_place 41 = .ok (.iconst 0, 1) := by decide +kernel
theorem dX7_place_42 : decode cX7_place 42 = .ok (.istore_n 3, 1) := by decide +kernel
theorem dX7_place_43 : decode cX7_place 43 = .ok (.iload_n 3, 1) := by decide +kernel
theorem dX7_place_44 : decode cX7_place 44 = .ok (.iload_n 2, 1) := by decide +kernel
theorem dX7_place_45 : decode cX7_place 45 = .ok (.if_icmp .gt 62, 3) := by decide +kernel
theorem dX7_place_48 : decode cX7_place 48 = .ok (.iload_n 3, 1) := by decide +kernel
theorem dX7_place_49 : decode cX7_place 49 = .ok (.bipush 6, 2) := by decide +kernel
theorem dX7_place_51 : decode cX7_place 51 = .ok (.if_icmp .ge 56, 3) := by decide +kernel
theorem dX7_place_54 : decode cX7_place 54 = .ok (.aload_n 0, 1) := by decide +kernel
theorem dX7_place_55 : decode cX7_place 55 = .ok (.getfield 21, 3) := by decide +kernel
theorem dX7_place_58 : decode cX7_place 58 = .ok (.iload_n 3, 1) := by decide +kernel
theorem dX7_place_59 : decode cX7_place 59 = .ok (.dup2, 1) := by decide +kernel
theorem dX7_place_60 : decode cX7_place 60 = .ok (.iaload, 1) := by decide +kernel
theorem dX7_place_61 : decode cX7_place 61 = .ok (.iconst 1, 1) := by decide +kernel
theorem dX7_place_62 : decode cX7_place 62 = .ok (.iload_n 1, 1) := by decide +kernel
theorem dX7_place_63 : decode cX7_place 63 = .ok (.ishl, 1) := by decide +kernel
theorem dX7_place_64 : decode cX7_place 64 = .ok (.ior, 1) := by decide +kernel
theorem dX7_place_65 : decode cX7_place 65 = .ok (.iastore, 1) := by decide +kernel
theorem dX7_place_66 : decode cX7_place 66 = .ok (.aload_n 0, 1) := by decide +kernel
theorem dX7_place_67 : decode cX7_place 67 = .ok (.getfield 24, 3) := by decide +kernel
theorem dX7_place_70 : decode cX7_place 70 = .ok (.iload_n 1, 1) := by decide +kernel
theorem dX7_place_71 : decode cX7_place 71 = .ok (.iload_n 3, 1) := by decide +kernel
theorem dX7_place_72 : decode cX7_place 72 = .ok (.iastore, 1) := by decide +kernel
theorem dX7_place_73 : decode cX7_place 73 = .ok (.aload_n 0, 1) := by decide +kernel
theorem dX7_place_74 : decode cX7_place 74 = .ok (.iload_n 1, 1) := by decide +kernel
theorem dX7_place_75 : decode cX7_place 75 = .ok (.iconst 1, 1) := by decide +kernel
theorem dX7_place_76 : decode cX7_place 76 = .ok (.iadd, 1) := by decide +kernel
theorem dX7_place_77 : decode cX7_place 77 = .ok (.iload_n 2, 1) := by decide +kernel
theorem dX7_place_78 : decode cX7_place 78 = .ok (.iload_n 3, 1) := by decide +kernel
theorem dX7_place_79 : decode cX7_place 79 = .ok (.iconst 1, 1) := by decide +kernel
theorem dX7_place_80 : decode cX7_place 80 = .ok (.iadd, 1) := by decide +kernel
theorem dX7_place_81 : decode cX7_place 81 = .ok (.invokestatic 63, 3) := by decide +kernel
theorem dX7_place_84 : decode cX7_place 84 = .ok (.invokestatic 49, 3) := by decide +kernel
theorem dX7_place_87 : decode cX7_place 87 = .ok (.aload_n 0, 1) := by decide +kernel
theorem dX7_place_88 : decode cX7_place 88 = .ok (.getfield 21, 3) := by decide +kernel
theorem dX7_place_91 : decode cX7_place 91 = .ok (.iload_n 3, 1) := by decide +kernel
theorem dX7_place_92 : decode cX7_place 92 = .ok (.dup2, 1) := by decide +kernel
theorem dX7_place_93 : decode cX7_place 93 = .ok (.iaload, 1) := by decide +kernel
theorem dX7_place_94 : decode cX7_place 94 = .ok (.iconst 1, 1) := by decide +kernel
theorem dX7_place_95 : decode cX7_place 95 = .ok (.iload_n 1, 1) := by decide +kernel
theorem dX7_place_96 : decode cX7_place 96 = .ok (.ishl, 1) := by decide +kernel
theorem dX7_place_97 : decode cX7_place 97 = .ok (.iconst (-1), 1) := by decide +kernel
theorem dX7_place_98 : decode cX7_place 98 = .ok (.ixor, 1) := by decide +kernel
theorem dX7_place_99 : decode cX7_place 99 = .ok (.iand, 1) := by decide +kernel
theorem dX7_place_100 : decode cX7_place 100 = .ok (.iastore, 1) := by decide +kernel
theorem dX7_place_101 : decode cX7_place 101 = .ok (.iinc 3 1, 3) := by decide +kernel
theorem dX7_place_104 : decode cX7_place 104 = .ok (.goto (-61), 3) := by decide +kernel
theorem dX7_place_107 : decode cX7_place 107 = .ok (.return_, 1) := by decide +kernel
theorem dX7_judge_0 : decode cX7_judge 0 = .ok (.iconst 0, 1) := by decide +kernel
theorem dX7_judge_1 : decode cX7_judge 1 = .ok (.istore_n 2, 1) := by decide +kernel
theorem dX7_judge_2 : decode cX7_judge 2 = .ok (.iconst 0, 1) := by decide +kernel
theorem dX7_judge_3 : decode cX7_judge 3 = .ok (.istore_n 3, 1) := by decide +kernel
theorem dX7_judge_4 : decode cX7_judge 4 = .ok (.iload_n 3, 1) := by decide +kernel
theorem dX7_judge_5 : decode cX7_judge 5 = .ok (.iload_n 1, 1) := by decide +kernel
theorem dX7_judge_6 : decode cX7_judge 6 = .ok (.if_icmp .ge 24, 3) := by decide +kernel
theorem dX7_judge_9 : decode cX7_judge 9 = .ok (.iload_n 2, 1) := by decide +kernel
theorem dX7_judge_10 : decode cX7_judge 10 = .ok (.aload_n 0, 1) := by decide +kernel
theorem dX7_judge_11 : decode cX7_judge 11 = .ok (.aload_n 0, 1) := by decide +kernel
theorem dX7_judge_12 : decode cX7_judge 12 = .ok (.getfield 21, 3) := by decide +kernel
theorem dX7_judge_15 : decode cX7_judge 15 = .ok (.iload_n 3, 1) := by decide +kernel
theorem dX7_judge_16 : decode cX7_judge 16 = .ok (.iaload, 1) := by decide +kernel
theorem dX7_judge_17 : decode cX7_judge 17 = .ok (.invokevirtual 69, 3) := by decide +kernel
theorem dX7_judge_20 : decode cX7_judge 20 = .ok (.invokestatic 63, 3) := by decide +kernel
theorem dX7_judge_23 : decode cX7_judge 23 = .ok (.istore_n 2, 1) := by decide +kernel
theorem dX7_judge_24 : decode cX7_judge 24 = .ok (.iinc 3 1, 3) := by decide +kernel
theorem dX7_judge_27 : decode cX7_judge 27 = .ok (.goto (-23), 3) := by decide +kernel
theorem dX7_judge_30 : decode cX7_judge 30 = .ok (.iload_n 1, 1) := by decide +kernel
theorem dX7_judge_31 : decode cX7_judge 31 = .ok (.aload_n 0, 1) := by decide +kernel
theorem dX7_judge_32 : decode cX7_judge 32 = .ok (.getfield 43, 3) := by decide +kernel
theorem dX7_judge_35 : decode cX7_judge 35 = .ok (.if_icmp .lt 19, 3) := by decide +kernel
theorem dX7_judge_38 : decode cX7_judge 38 = .ok (.iload_n 1, 1) := by decide +kernel
theorem dX7_judge_39 : decode cX7_judge 39 = .ok (.aload_n 0, 1) := by decide +kernel
theorem dX7_judge_40 : decode cX7_judge 40 = .ok (.getfield 43, 3) := by decide +kernel
theorem dX7_judge_43 : decode cX7_judge 43 = .ok (.if_icmp .ne 15, 3) := by decide +kernel
theorem dX7_judge_46 : decode cX7_judge 46 = .ok (.iload_n 2, 1) := by decide +kernel
theorem dX7_judge_47 : decode cX7_judge 47 = .ok (.aload_n 0, 1) := by decide +kernel
theorem dX7_judge_48 : decode cX7_judge 48 = .ok (.getfield 46, 3) := by decide +kernel
theorem dX7_judge_51 : decode cX7_judge 51 = .ok (.if_icmp .ge 7, 3) := by decide +kernel
theorem dX7_judge_54 : decode cX7_judge 54 = .ok (.iconst 1, 1) := by decide +kernel
theorem dX7_judge_55 : decode cX7_judge 55 = .ok (.goto 4, 3) := by decide +kernel
theorem dX7_judge_58 : decode cX7_judge 58 = .ok (.iconst 0, 1) := by decide +kernel
theorem dX7_judge_59 : decode cX7_judge 59 = .ok (.istore_n 3, 1) := by decide +kernel
theorem dX7_judge_60 : decode cX7_judge 60 = .ok (.iload_n 2, 1) := by decide +kernel
theorem dX7_judge_61 : decode cX7_judge 61 = .ok (.aload_n 0, 1) := by decide +kernel
theorem dX7_judge_62 : decode cX7_judge 62 = .ok (.getfield 40, 3) := by decide +kernel
theorem dX7_judge_65 : decode cX7_judge 65 = .ok (.if_icmp .gt 15, 3) := by decide +kernel
theorem dX7_judge_68 : decode cX7_judge 68 = .ok (.iload_n 3, 1) := by decide +kernel
theorem dX7_judge_69 : decode cX7_judge 69 = .ok (.ifCond .eq 11, 3) := by decide +kernel
theorem dX7_judge_72 : decode cX7_judge 72 = .ok (.aload_n 0, 1) := by decide +kernel
theorem dX7_judge_73 : decode cX7_judge 73 = .ok (.iload_n 1, 1) := by decide +kernel
theorem dX7_judge_74 : decode cX7_judge 74 = .ok (.invokevirtual 73, 3) := by decide +kernel
theorem dX7_judge_77 : decode cX7_judge 77 = .ok (.ifCond .ne 4, 3) := by decide +kernel
theorem dX7_judge_80 : decode cX7_judge 80 = .ok (.return_, 1) := by decide +kernel
theorem dX7_judge_81 : decode cX7_judge 81 = .ok (.aload_n 0, 1) := by decide +kernel
theorem dX7_judge_82 : decode cX7_judge 82 = .ok (.iload_n 1, 1) := by decide +kernel
theorem dX7_judge_83 : decode cX7_judge 83 = .ok (.putfield 43, 3) := by decide +kernel
theorem dX7_judge_86 : decode cX7_judge 86 = .ok (.aload_n 0, 1) := by decide +kernel
theorem dX7_judge_87 : decode cX7_judge 87 = .ok (.iload_n 2, 1) := by decide +kernel
theorem dX7_judge_88 : decode cX7_judge 88 = .ok (.putfield 46, 3) := by decide +kernel
theorem dX7_judge_91 : decode cX7_judge 91 = .ok (.aload_n 0, 1) := by decide +kernel
theorem dX7_judge_92 : decode cX7_judge 92 = .ok (.getfield 24, 3) := by decide +kernel
theorem dX7_judge_95 : decode cX7_judge 95 = .ok (.iconst 0, 1) := by decide +kernel
theorem dX7_judge_96 : decode cX7_judge 96 = .ok (.aload_n 0, 1) := by decide +kernel
theorem dX7_judge_97 : decode cX7_judge 97 = .ok (.getfield 27, 3) := by decide +kernel
theorem dX7_judge_100 : decode cX7_judge 100 = .ok (.iconst 0, 1) := by decide +kernel
theorem dX7_judge_101 : decode cX7_judge 101 = .ok (.bipush 6, 2) := by decide +kernel
theorem dX7_judge_103 : decode cX7_judge 103 = .ok (.invokestatic 53, 3) := by decide +kernel
theorem dX7_judge_106 : decode cX7_judge 106 = .ok (.return_, 1) := by decide +kernel
theorem dX7_workOf_0 : decode cX7_workOf 0 = .ok (.iconst 0, 1) := by decide +kernel
theorem dX7_workOf_1 : decode cX7_workOf 1 = .ok (.istore_n 2, 1) := by decide +kernel
theorem dX7_workOf_2 : decode cX7_workOf 2 = .ok (.iconst 0, 1) := by decide +kernel
theorem dX7_workOf_3 : decode cX7_workOf 3 = .ok (.istore_n 3, 1) := by decide +kernel
theorem dX7_workOf_4 : decode cX7_workOf 4 = .ok (.iload_n 3, 1) := by decide +kernel
theorem dX7_workOf_5 : decode cX7_workOf 5 = .ok (.bipush 6, 2) := by decide +kernel
theorem dX7_workOf_7 : decode cX7_workOf 7 = .ok (.if_icmp .ge 26, 3) := by decide +kernel
theorem dX7_workOf_10 : decode cX7_workOf 10 = .ok (.iload_n 1, 1) := by decide +kernel
theorem dX7_workOf_11 : decode cX7_workOf 11 = .ok (.iload_n 3, 1) := by decide +kernel
theorem dX7_workOf_12 : decode cX7_workOf 12 = .ok (.ishr, 1) := by decide +kernel
theorem dX7_workOf_13 : decode cX7_workOf 13 = .ok (.iconst 1, 1) := by decide +kernel
theorem dX7_workOf_14 : decode cX7_workOf 14 = .ok (.iand, 1) := by decide +kernel
theorem dX7_workOf_15 : decode cX7_workOf 15 = .ok (.ifCond .eq 12, 3) := by decide +kernel
theorem dX7_workOf_18 : decode cX7_workOf 18 = .ok (.iload_n 2, 1) := by decide +kernel
theorem dX7_workOf_19 : decode cX7_workOf 19 = .ok (.aload_n 0, 1) := by decide +kernel
theorem dX7_workOf_20 : decode cX7_workOf 20 = .ok (.getfield 15, 3) := by decide +kernel
theorem dX7_workOf_23 : decode cX7_workOf 23 = .ok (.iload_n 3, 1) := by decide +kernel
theorem dX7_workOf_24 : decode cX7_workOf 24 = .ok (.iaload, 1) := by decide +kernel
theorem dX7_workOf_25 : decode cX7_workOf 25 = .ok (.iadd, 1) := by decide +kernel
theorem dX7_workOf_26 : decode cX7_workOf 26 = .ok (.istore_n 2, 1) := by decide +kernel
theorem dX7_workOf_27 : decode cX7_workOf 27 = .ok (.iinc 3 1, 3) := by decide +kernel
theorem dX7_workOf_30 : decode cX7_workOf 30 = .ok (.goto (-26), 3) := by decide +kernel
theorem dX7_workOf_33 : decode cX7_workOf 33 = .ok (.iload_n 2, 1) := by decide +kernel
theorem dX7_workOf_34 : decode cX7_workOf 34 = .ok (.ireturn, 1) := by decide +kernel
theorem dX7_allTogether_0 : decode cX7_allTogether 0 = .ok (.iconst 0, 1) := by decide +kernel
theorem dX7_allTogether_1 : decode cX7_allTogether 1 = .ok (.istore_n 2, 1) := by decide +kernel
theorem dX7_allTogether_2 : decode cX7_allTogether 2 = .ok (.iload_n 2, 1) := by decide +kernel
theorem dX7_allTogether_3 : decode cX7_allTogether 3 = .ok (.iload_n 1, 1) := by decide +kernel
theorem dX7_allTogether_4 : decode cX7_allTogether 4 = .ok (.if_icmp .ge 24, 3) := by decide +kernel
theorem dX7_allTogether_7 : decode cX7_allTogether 7 = .ok (.aload_n 0, 1) := by decide +kernel
theorem dX7_allTogether_8 : decode cX7_allTogether 8 = .ok (.aload_n 0, 1) := by decide +kernel
theorem dX7_allTogether_9 : decode cX7_allTogether 9 = .ok (.getfield 21, 3) := by decide +kernel
theorem dX7_allTogether_12 : decode cX7_allTogether 12 = .ok (.iload_n 2, 1) := by decide +kernel
theorem dX7_allTogether_13 : decode cX7_allTogether 13 = .ok (.iaload, 1) := by decide +kernel
theorem dX7_allTogether_14 : decode cX7_allTogether 14 = .ok (.invokevirtual 77, 3) := by decide +kernel
theorem dX7_allTogether_17 : decode cX7_allTogether 17 = .ok (.ifCond .ne 5, 3) := by decide +kernel
theorem dX7_allTogether_20 : decode cX7_allTogether 20 = .ok (.iconst 0, 1) := by decide +kernel
theorem dX7_allTogether_21 : decode cX7_allTogether 21 = .ok (.ireturn, 1) := by decide +kernel
theorem dX7_allTogether_22 : decode cX7_allTogether 22 = .ok (.iinc 2 1, 3) := by decide +kernel
theorem dX7_allTogether_25 : decode cX7_allTogether 25 = .ok (.goto (-23), 3) := by decide +kernel
theorem dX7_allTogether_28 : decode cX7_allTogether 28 = .ok (.iconst 1, 1) := by decide +kernel
theorem dX7_allTogether_29 : decode cX7_allTogether 29 = .ok (.ireturn, 1) := by decide +kernel
theorem dX7_isTogether_0 : decode cX7_isTogether 0 = .ok (.iload_n 1, 1) := by decide +kernel
theorem dX7_isTogether_1 : decode cX7_isTogether 1 = .ok (.iload_n 1, 1) := by decide +kernel
theorem dX7_isTogether_2 : decode cX7_isTogether 2 = .ok (.ineg, 1) := by decide +kernel
theorem dX7_isTogether_3 : decode cX7_isTogether 3 = .ok (.iand, 1) := by decide +kernel
theorem dX7_isTogether_4 : decode cX7_isTogether 4 = .ok (.istore_n 2, 1) := by decide +kernel
theorem dX7_isTogether_5 : decode cX7_isTogether 5 = .ok (.iconst 0, 1) := by decide +kernel
theorem dX7_isTogether_6 : decode cX7_isTogether 6 = .ok (.istore_n 3, 1) := by decide +kernel
theorem dX7_isTogether_7 : decode cX7_isTogether 7 = .ok (.iload_n 3, 1) := by decide +kernel
theorem dX7_isTogether_8 : decode cX7_isTogether 8 = .ok (.bipush 6, 2) := by decide +kernel
theorem dX7_isTogether_10 : decode cX7_isTogether 10 = .ok (.if_icmp .ge 24, 3) := by decide +kernel
theorem dX7_isTogether_13 : decode cX7_isTogether 13 = .ok (.iload_n 2, 1) := by decide +kernel
theorem dX7_isTogether_14 : decode cX7_isTogether 14 = .ok (.iload_n 1, 1) := by decide +kernel
theorem dX7_isTogether_15 : decode cX7_isTogether 15 = .ok (.if_icmp .eq 19, 3) := by decide +kernel
theorem dX7_isTogether_18 : decode cX7_isTogether 18 = .ok (.iload_n 2, 1) := by decide +kernel
theorem dX7_isTogether_19 : decode cX7_isTogether 19 = .ok (.aload_n 0, 1) := by decide +kernel
theorem dX7_isTogether_20 : decode cX7_isTogether 20 = .ok (.iload_n 2, 1) := by decide +kernel
theorem dX7_isTogether_21 : decode cX7_isTogether 21 = .ok (.invokevirtual 80, 3) := by decide +kernel
theorem dX7_isTogether_24 : decode cX7_isTogether 24 = .ok (.iload_n 1, 1) := by decide +kernel
theorem dX7_isTogether_25 : decode cX7_isTogether 25 = .ok (.iand, 1) := by decide +kernel
theorem dX7_isTogether_26 : decode cX7_isTogether 26 = .ok (.ior, 1) := by decide +kernel
theorem dX7_isTogether_27 : decode cX7_isTogether 27 = .ok (.istore_n 2, 1) := by decide +kernel
theorem dX7_isTogether_28 : decode cX7_isTogether 28 = .ok (.iinc 3 1, 3) := by decide +kernel
theorem dX7_isTogether_31 : decode cX7_isTogether 31 = .ok (.goto (-24), 3) := by decide +kernel
theorem dX7_isTogether_34 : decode cX7_isTogether 34 = .ok (.iload_n 2, 1) := by decide +kernel
theorem dX7_isTogether_35 : decode cX7_isTogether 35 = .ok (.iload_n 1, 1) := by decide +kernel
theorem dX7_isTogether_36 : decode cX7_isTogether 36 = .ok (.if_icmp .ne 7, 3) := by decide +kernel
theorem dX7_isTogether_39 : decode cX7_isTogether 39 = .ok (.iconst 1, 1) := by decide +kernel
theorem dX7_isTogether_40 : decode cX7_isTogether 40 = .ok (.goto 4, 3) := by decide +kernel
theorem dX7_isTogether_43 : decode cX7_isTogether 43 = .ok (.iconst 0, 1) := by decide +kernel
theorem dX7_isTogether_44 : decode cX7_isTogether 44 = .ok (.ireturn, 1) := by decide +kernel
theorem dX7_nearOnes_0 : decode cX7_nearOnes 0 = .ok (.iconst 0, 1) := by decide +kernel
theorem dX7_nearOnes_1 : decode cX7_nearOnes 1 = .ok (.istore_n 2, 1) := by decide +kernel
theorem dX7_nearOnes_2 : decode cX7_nearOnes 2 = .ok (.iconst 0, 1) := by decide +kernel
theorem dX7_nearOnes_3 : decode cX7_nearOnes 3 = .ok (.istore_n 3, 1) := by decide +kernel
theorem dX7_nearOnes_4 : decode cX7_nearOnes 4 = .ok (.iload_n 3, 1) := by decide +kernel
theorem dX7_nearOnes_5 : decode cX7_nearOnes 5 = .ok (.bipush 6, 2) := by decide +kernel
theorem dX7_nearOnes_7 : decode cX7_nearOnes 7 = .ok (.if_icmp .ge 26, 3) := by decide +kernel
theorem dX7_nearOnes_10 : decode cX7_nearOnes 10 = .ok (.iload_n 1, 1) := by decide +kernel
theorem dX7_nearOnes_11 : decode cX7_nearOnes 11 = .ok (.iload_n 3, 1) := by decide +kernel
theorem dX7_nearOnes_12 : decode cX7_nearOnes 12 = .ok (.ishr, 1) := by decide +kernel
theorem dX7_nearOnes_13 : decode cX7_nearOnes 13 = .ok (.iconst 1, 1) := by decide +kernel
theorem dX7_nearOnes_14 : decode cX7_nearOnes 14 = .ok (.iand, 1) := by decide +kernel
theorem dX7_nearOnes_15 : decode cX7_nearOnes 15 = .ok (.ifCond .eq 12, 3) := by decide +kernel
theorem dX7_nearOnes_18 : decode cX7_nearOnes 18 = .ok (.iload_n 2, 1) := by decide +kernel
theorem dX7_nearOnes_19 : decode cX7_nearOnes 19 = .ok (.aload_n 0, 1) := by decide +kernel
theorem dX7_nearOnes_20 : decode cX7_nearOnes 20 = .ok (.getfield 9, 3) := by decide +kernel
theorem dX7_nearOnes_23 : decode cX7_nearOnes 23 = .ok (.iload_n 3, 1) := by decide +kernel
theorem dX7_nearOnes_24 : decode cX7_nearOnes 24 = .ok (.iaload, 1) := by decide +kernel
theorem dX7_nearOnes_25 : decode cX7_nearOnes 25 = .ok (.ior, 1) := by decide +kernel
theorem dX7_nearOnes_26 : decode cX7_nearOnes 26 = .ok (.istore_n 2, 1) := by decide +kernel
theorem dX7_nearOnes_27 : decode cX7_nearOnes 27 = .ok (.iinc 3 1, 3) := by decide +kernel
theorem dX7_nearOnes_30 : decode cX7_nearOnes 30 = .ok (.goto (-26), 3) := by decide +kernel
theorem dX7_nearOnes_33 : decode cX7_nearOnes 33 = .ok (.iload_n 2, 1) := by decide +kernel
theorem dX7_nearOnes_34 : decode cX7_nearOnes 34 = .ok (.ireturn, 1) := by decide +kernel
theorem dJ0_charAt_5068e_0 : decode cJ0_charAt_5068e 0 = .ok (.aload_n 0, 1) := by decide +kernel
theorem dJ0_charAt_5068e_1 : decode cJ0_charAt_5068e 1 = .ok (.invokevirtual 492, 3) := by decide +kernel
theorem dJ0_charAt_5068e_4 : decode cJ0_charAt_5068e 4 = .ok (.ifCond .eq 12, 3) := by decide +kernel
theorem dJ0_charAt_5068e_7 : decode cJ0_charAt_5068e 7 = .ok (.aload_n 0, 1) := by decide +kernel
theorem dJ0_charAt_5068e_8 : decode cJ0_charAt_5068e 8 = .ok (.getfield 9, 3) := by decide +kernel
theorem dJ0_charAt_5068e_11 : decode cJ0_charAt_5068e 11 = .ok (.iload_n 1, 1) := by decide +kernel
theorem dJ0_charAt_5068e_12 : decode cJ0_charAt_5068e 12 = .ok (.invokestatic 495, 3) := by decide +kernel
theorem dJ0_charAt_5068e_15 : decode cJ0_charAt_5068e 15 = .ok (.ireturn, 1) := by decide +kernel
theorem dJ0_charAt_5068e_16 : decode cJ0_charAt_5068e 16 = .ok (.aload_n 0, 1) := by decide +kernel
theorem dJ0_charAt_5068e_17 : decode cJ0_charAt_5068e 17 = .ok (.getfield 9, 3) := by decide +kernel
theorem dJ0_charAt_5068e_20 : decode cJ0_charAt_5068e 20 = .ok (.iload_n 1, 1) := by decide +kernel
theorem dJ0_charAt_5068e_21 : decode cJ0_charAt_5068e 21 = .ok (.invokestatic 498, 3) := by decide +kernel
theorem dJ0_charAt_5068e_24 : decode cJ0_charAt_5068e 24 = .ok (.ireturn, 1) := by decide +kernel
theorem dJ0_isLatin1_aae02_0 : decode cJ0_isLatin1_aae02 0 = .ok (.getstatic 38, 3) := by decide +kernel
theorem dJ0_isLatin1_aae02_3 : decode cJ0_isLatin1_aae02 3 = .ok (.ifCond .eq 14, 3) := by decide +kernel
theorem dJ0_isLatin1_aae02_6 : decode cJ0_isLatin1_aae02 6 = .ok (.aload_n 0, 1) := by decide +kernel
theorem dJ0_isLatin1_aae02_7 : decode cJ0_isLatin1_aae02 7 = .ok (.getfield 15, 3) := by decide +kernel
theorem dJ0_isLatin1_aae02_10 : decode cJ0_isLatin1_aae02 10 = .ok (.ifCond .ne 7, 3) := by decide +kernel
theorem dJ0_isLatin1_aae02_13 : decode cJ0_isLatin1_aae02 13 = .ok (.iconst 1, 1) := by decide +kernel
theorem dJ0_isLatin1_aae02_14 : decode cJ0_isLatin1_aae02 14 = .ok (.goto 4, 3) := by decide +kernel
theorem dJ0_isLatin1_aae02_17 : decode cJ0_isLatin1_aae02 17 = .ok (.iconst 0, 1) := by decide +kernel
theorem dJ0_isLatin1_aae02_18 : decode cJ0_isLatin1_aae02 18 = .ok (.ireturn, 1) := by decide +kernel
theorem dJ0_checkIndex_df160_0 : decode cJ0_checkIndex_df160 0 = .ok (.iload_n 0, 1) := by decide +kernel
theorem dJ0_checkIndex_df160_1 : decode cJ0_checkIndex_df160 1 = .ok (.iload_n 1, 1) := by decide +kernel
theorem dJ0_checkIndex_df160_2 : decode cJ0_checkIndex_df160 2 = .ok (.getstatic 1053, 3) := by decide +kernel
theorem dJ0_checkIndex_df160_5 : decode cJ0_checkIndex_df160 5 = .ok (.invokestatic 1059, 3) := by decide +kernel
theorem dJ0_checkIndex_df160_8 : decode cJ0_checkIndex_df160 8 = .ok (.pop, 1) := by decide +kernel
theorem dJ0_checkIndex_df160_9 : decode cJ0_checkIndex_df160 9 = .ok (.return_, 1) := by decide +kernel
theorem dJ1_charAt_3b067_0 : decode cJ1_charAt_3b067 0 = .ok (.iload_n 1, 1) := by decide +kernel
theorem dJ1_charAt_3b067_1 : decode cJ1_charAt_3b067 1 = .ok (.aload_n 0, 1) := by decide +kernel
theorem dJ1_charAt_3b067_2 : decode cJ1_charAt_3b067 2 = .ok (.arraylength, 1) := by decide +kernel
theorem dJ1_charAt_3b067_3 : decode cJ1_charAt_3b067 3 = .ok (.invokestatic 9, 3) := by decide +kernel
theorem dJ1_charAt_3b067_6 : decode cJ1_charAt_3b067 6 = .ok (.aload_n 0, 1) := by decide +kernel
theorem dJ1_charAt_3b067_7 : decode cJ1_charAt_3b067 7 = .ok (.iload_n 1, 1) := by decide +kernel
theorem dJ1_charAt_3b067_8 : decode cJ1_charAt_3b067 8 = .ok (.baload, 1) := by decide +kernel
theorem dJ1_charAt_3b067_9 : decode cJ1_charAt_3b067 9 = .ok (.sipush 255, 3) := by decide +kernel
theorem dJ1_charAt_3b067_12 : decode cJ1_charAt_3b067 12 = .ok (.iand, 1) := by decide +kernel
theorem dJ1_charAt_3b067_13 : decode cJ1_charAt_3b067 13 = .ok (.i2c, 1) := by decide +kernel
theorem dJ1_charAt_3b067_14 : decode cJ1_charAt_3b067 14 = .ok (.ireturn, 1) := by decide +kernel
theorem dJ3_checkIndex_8e157_0 : decode cJ3_checkIndex_8e157 0 = .ok (.iload_n 0, 1) := by decide +kernel
theorem dJ3_checkIndex_8e157_1 : decode cJ3_checkIndex_8e157 1 = .ok (.ifCond .lt 8, 3) := by decide +kernel
theorem dJ3_checkIndex_8e157_4 : decode cJ3_checkIndex_8e157 4 = .ok (.iload_n 0, 1) := by decide +kernel
theorem dJ3_checkIndex_8e157_5 : decode cJ3_checkIndex_8e157 5 = .ok (.iload_n 1, 1) := by decide +kernel
theorem dJ3_checkIndex_8e157_6 : decode cJ3_checkIndex_8e157 6 = .ok (.if_icmp .lt 10, 3) := by decide +kernel
theorem dJ3_checkIndex_8e157_9 : decode cJ3_checkIndex_8e157 9 = .ok (.aload_n 2, 1) := by decide +kernel
theorem dJ3_checkIndex_8e157_10 : decode cJ3_checkIndex_8e157 10 = .ok (.iload_n 0, 1) := by decide +kernel
theorem dJ3_checkIndex_8e157_11 : decode cJ3_checkIndex_8e157 11 = .ok (.iload_n 1, 1) := by decide +kernel
theorem dJ3_checkIndex_8e157_12 : decode cJ3_checkIndex_8e157 12 = .ok (.invokestatic 95, 3) := by decide +kernel
theorem dJ3_checkIndex_8e157_15 : decode cJ3_checkIndex_8e157 15 = .ok (.athrow, 1) := by decide +kernel
theorem dJ3_checkIndex_8e157_16 : decode cJ3_checkIndex_8e157 16 = .ok (.iload_n 0, 1) := by decide +kernel
theorem dJ3_checkIndex_8e157_17 : decode cJ3_checkIndex_8e157 17 = .ok (.ireturn, 1) := by decide +kernel
theorem dJ6_bitCount_0f7a4_0 : decode cJ6_bitCount_0f7a4 0 = .ok (.iload_n 0, 1) := by decide +kernel
theorem dJ6_bitCount_0f7a4_1 : decode cJ6_bitCount_0f7a4 1 = .ok (.iload_n 0, 1) := by decide +kernel
theorem dJ6_bitCount_0f7a4_2 : decode cJ6_bitCount_0f7a4 2 = .ok (.iconst 1, 1) := by decide +kernel
theorem dJ6_bitCount_0f7a4_3 : decode cJ6_bitCount_0f7a4 3 = .ok (.iushr, 1) := by decide +kernel
theorem dJ6_bitCount_0f7a4_4 : decode cJ6_bitCount_0f7a4 4 = .ok (.ldc_w 265, 3) := by decide +kernel
theorem dJ6_bitCount_0f7a4_7 : decode cJ6_bitCount_0f7a4 7 = .ok (.iand, 1) := by decide +kernel
theorem dJ6_bitCount_0f7a4_8 : decode cJ6_bitCount_0f7a4 8 = .ok (.isub, 1) := by decide +kernel
theorem dJ6_bitCount_0f7a4_9 : decode cJ6_bitCount_0f7a4 9 = .ok (.istore_n 0, 1) := by decide +kernel
theorem dJ6_bitCount_0f7a4_10 : decode cJ6_bitCount_0f7a4 10 = .ok (.iload_n 0, 1) := by decide +kernel
theorem dJ6_bitCount_0f7a4_11 : decode cJ6_bitCount_0f7a4 11 = .ok (.ldc_w 266, 3) := by decide +kernel
theorem dJ6_bitCount_0f7a4_14 : decode cJ6_bitCount_0f7a4 14 = .ok (.iand, 1) := by decide +kernel
theorem dJ6_bitCount_0f7a4_15 : decode cJ6_bitCount_0f7a4 15 = .ok (.iload_n 0, 1) := by decide +kernel
theorem dJ6_bitCount_0f7a4_16 : decode cJ6_bitCount_0f7a4 16 = .ok (.iconst 2, 1) := by decide +kernel
theorem dJ6_bitCount_0f7a4_17 : decode cJ6_bitCount_0f7a4 17 = .ok (.iushr, 1) := by decide +kernel
theorem dJ6_bitCount_0f7a4_18 : decode cJ6_bitCount_0f7a4 18 = .ok (.ldc_w 266, 3) := by decide +kernel
theorem dJ6_bitCount_0f7a4_21 : decode cJ6_bitCount_0f7a4 21 = .ok (.iand, 1) := by decide +kernel
theorem dJ6_bitCount_0f7a4_22 : decode cJ6_bitCount_0f7a4 22 = .ok (.iadd, 1) := by decide +kernel
theorem dJ6_bitCount_0f7a4_23 : decode cJ6_bitCount_0f7a4 23 = .ok (.istore_n 0, 1) := by decide +kernel
theorem dJ6_bitCount_0f7a4_24 : decode cJ6_bitCount_0f7a4 24 = .ok (.iload_n 0, 1) := by decide +kernel
theorem dJ6_bitCount_0f7a4_25 : decode cJ6_bitCount_0f7a4 25 = .ok (.iload_n 0, 1) := by decide +kernel
theorem dJ6_bitCount_0f7a4_26 : decode cJ6_bitCount_0f7a4 26 = .ok (.iconst 4, 1) := by decide +kernel
theorem dJ6_bitCount_0f7a4_27 : decode cJ6_bitCount_0f7a4 27 = .ok (.iushr, 1) := by decide +kernel
theorem dJ6_bitCount_0f7a4_28 : decode cJ6_bitCount_0f7a4 28 = .ok (.iadd, 1) := by decide +kernel
theorem dJ6_bitCount_0f7a4_29 : decode cJ6_bitCount_0f7a4 29 = .ok (.ldc_w 267, 3) := by decide +kernel
theorem dJ6_bitCount_0f7a4_32 : decode cJ6_bitCount_0f7a4 32 = .ok (.iand, 1) := by decide +kernel
theorem dJ6_bitCount_0f7a4_33 : decode cJ6_bitCount_0f7a4 33 = .ok (.istore_n 0, 1) := by decide +kernel
theorem dJ6_bitCount_0f7a4_34 : decode cJ6_bitCount_0f7a4 34 = .ok (.iload_n 0, 1) := by decide +kernel
theorem dJ6_bitCount_0f7a4_35 : decode cJ6_bitCount_0f7a4 35 = .ok (.iload_n 0, 1) := by decide +kernel
theorem dJ6_bitCount_0f7a4_36 : decode cJ6_bitCount_0f7a4 36 = .ok (.bipush 8, 2) := by decide +kernel
theorem dJ6_bitCount_0f7a4_38 : decode cJ6_bitCount_0f7a4 38 = .ok (.iushr, 1) := by decide +kernel
theorem dJ6_bitCount_0f7a4_39 : decode cJ6_bitCount_0f7a4 39 = .ok (.iadd, 1) := by decide +kernel
theorem dJ6_bitCount_0f7a4_40 : decode cJ6_bitCount_0f7a4 40 = .ok (.istore_n 0, 1) := by decide +kernel
theorem dJ6_bitCount_0f7a4_41 : decode cJ6_bitCount_0f7a4 41 = .ok (.iload_n 0, 1) := by decide +kernel
theorem dJ6_bitCount_0f7a4_42 : decode cJ6_bitCount_0f7a4 42 = .ok (.iload_n 0, 1) := by decide +kernel
theorem dJ6_bitCount_0f7a4_43 : decode cJ6_bitCount_0f7a4 43 = .ok (.bipush 16, 2) := by decide +kernel
theorem dJ6_bitCount_0f7a4_45 : decode cJ6_bitCount_0f7a4 45 = .ok (.iushr, 1) := by decide +kernel
theorem dJ6_bitCount_0f7a4_46 : decode cJ6_bitCount_0f7a4 46 = .ok (.iadd, 1) := by decide +kernel
theorem dJ6_bitCount_0f7a4_47 : decode cJ6_bitCount_0f7a4 47 = .ok (.istore_n 0, 1) := by decide +kernel
theorem dJ6_bitCount_0f7a4_48 : decode cJ6_bitCount_0f7a4 48 = .ok (.iload_n 0, 1) := by decide +kernel
theorem dJ6_bitCount_0f7a4_49 : decode cJ6_bitCount_0f7a4 49 = .ok (.bipush 63, 2) := by decide +kernel
theorem dJ6_bitCount_0f7a4_51 : decode cJ6_bitCount_0f7a4 51 = .ok (.iand, 1) := by decide +kernel
theorem dJ6_bitCount_0f7a4_52 : decode cJ6_bitCount_0f7a4 52 = .ok (.ireturn, 1) := by decide +kernel
theorem dJ7_fill_d0a16_0 : decode cJ7_fill_d0a16 0 = .ok (.iconst 0, 1) := by decide +kernel
theorem dJ7_fill_d0a16_1 : decode cJ7_fill_d0a16 1 = .ok (.istore_n 3, 1) := by decide +kernel
theorem dJ7_fill_d0a16_2 : decode cJ7_fill_d0a16 2 = .ok (.aload_n 0, 1) := by decide +kernel
theorem dJ7_fill_d0a16_3 : decode cJ7_fill_d0a16 3 = .ok (.arraylength, 1) := by decide +kernel
theorem dJ7_fill_d0a16_4 : decode cJ7_fill_d0a16 4 = .ok (.istore 4, 2) := by decide +kernel
theorem dJ7_fill_d0a16_6 : decode cJ7_fill_d0a16 6 = .ok (.iload_n 3, 1) := by decide +kernel
theorem dJ7_fill_d0a16_7 : decode cJ7_fill_d0a16 7 = .ok (.iload 4, 2) := by decide +kernel
theorem dJ7_fill_d0a16_9 : decode cJ7_fill_d0a16 9 = .ok (.if_icmp .ge 13, 3) := by decide +kernel
theorem dJ7_fill_d0a16_12 : decode cJ7_fill_d0a16 12 = .ok (.aload_n 0, 1) := by decide +kernel
theorem dJ7_fill_d0a16_13 : decode cJ7_fill_d0a16 13 = .ok (.iload_n 3, 1) := by decide +kernel
theorem dJ7_fill_d0a16_14 : decode cJ7_fill_d0a16 14 = .ok (.lload_n 1, 1) := by decide +kernel
theorem dJ7_fill_d0a16_15 : decode cJ7_fill_d0a16 15 = .ok (.lastore, 1) := by decide +kernel
theorem dJ7_fill_d0a16_16 : decode cJ7_fill_d0a16 16 = .ok (.iinc 3 1, 3) := by decide +kernel
theorem dJ7_fill_d0a16_19 : decode cJ7_fill_d0a16 19 = .ok (.goto (-13), 3) := by decide +kernel
theorem dJ7_fill_d0a16_22 : decode cJ7_fill_d0a16 22 = .ok (.return_, 1) := by decide +kernel
theorem dJ7_fill_53178_0 : decode cJ7_fill_53178 0 = .ok (.iconst 0, 1) := by decide +kernel
theorem dJ7_fill_53178_1 : decode cJ7_fill_53178 1 = .ok (.istore_n 2, 1) := by decide +kernel
theorem dJ7_fill_53178_2 : decode cJ7_fill_53178 2 = .ok (.aload_n 0, 1) := by decide +kernel
theorem dJ7_fill_53178_3 : decode cJ7_fill_53178 3 = .ok (.arraylength, 1) := by decide +kernel
theorem dJ7_fill_53178_4 : decode cJ7_fill_53178 4 = .ok (.istore_n 3, 1) := by decide +kernel
theorem dJ7_fill_53178_5 : decode cJ7_fill_53178 5 = .ok (.iload_n 2, 1) := by decide +kernel
theorem dJ7_fill_53178_6 : decode cJ7_fill_53178 6 = .ok (.iload_n 3, 1) := by decide +kernel
theorem dJ7_fill_53178_7 : decode cJ7_fill_53178 7 = .ok (.if_icmp .ge 13, 3) := by decide +kernel
theorem dJ7_fill_53178_10 : decode cJ7_fill_53178 10 = .ok (.aload_n 0, 1) := by decide +kernel
theorem dJ7_fill_53178_11 : decode cJ7_fill_53178 11 = .ok (.iload_n 2, 1) := by decide +kernel
theorem dJ7_fill_53178_12 : decode cJ7_fill_53178 12 = .ok (.iload_n 1, 1) := by decide +kernel
theorem dJ7_fill_53178_13 : decode cJ7_fill_53178 13 = .ok (.iastore, 1) := by decide +kernel
theorem dJ7_fill_53178_14 : decode cJ7_fill_53178 14 = .ok (.iinc 2 1, 3) := by decide +kernel
theorem dJ7_fill_53178_17 : decode cJ7_fill_53178 17 = .ok (.goto (-12), 3) := by decide +kernel
theorem dJ7_fill_53178_20 : decode cJ7_fill_53178 20 = .ok (.return_, 1) := by decide +kernel
theorem dJ9_abs_0f7a4_0 : decode cJ9_abs_0f7a4 0 = .ok (.iload_n 0, 1) := by decide +kernel
theorem dJ9_abs_0f7a4_1 : decode cJ9_abs_0f7a4 1 = .ok (.ifCond .ge 8, 3) := by decide +kernel
theorem dJ9_abs_0f7a4_4 : decode cJ9_abs_0f7a4 4 = .ok (.iload_n 0, 1) := by decide +kernel
theorem dJ9_abs_0f7a4_5 : decode cJ9_abs_0f7a4 5 = .ok (.ineg, 1) := by decide +kernel
theorem dJ9_abs_0f7a4_6 : decode cJ9_abs_0f7a4 6 = .ok (.goto 4, 3) := by decide +kernel
theorem dJ9_abs_0f7a4_9 : decode cJ9_abs_0f7a4 9 = .ok (.iload_n 0, 1) := by decide +kernel
theorem dJ9_abs_0f7a4_10 : decode cJ9_abs_0f7a4 10 = .ok (.ireturn, 1) := by decide +kernel
theorem dJ9_max_7cf53_0 : decode cJ9_max_7cf53 0 = .ok (.iload_n 0, 1) := by decide +kernel
theorem dJ9_max_7cf53_1 : decode cJ9_max_7cf53 1 = .ok (.iload_n 1, 1) := by decide +kernel
theorem dJ9_max_7cf53_2 : decode cJ9_max_7cf53 2 = .ok (.if_icmp .lt 7, 3) := by decide +kernel
theorem dJ9_max_7cf53_5 : decode cJ9_max_7cf53 5 = .ok (.iload_n 0, 1) := by decide +kernel
theorem dJ9_max_7cf53_6 : decode cJ9_max_7cf53 6 = .ok (.goto 4, 3) := by decide +kernel
theorem dJ9_max_7cf53_9 : decode cJ9_max_7cf53 9 = .ok (.iload_n 1, 1) := by decide +kernel
theorem dJ9_max_7cf53_10 : decode cJ9_max_7cf53 10 = .ok (.ireturn, 1) := by decide +kernel
theorem dJ9_min_7cf53_0 : decode cJ9_min_7cf53 0 = .ok (.iload_n 0, 1) := by decide +kernel
theorem dJ9_min_7cf53_1 : decode cJ9_min_7cf53 1 = .ok (.iload_n 1, 1) := by decide +kernel
theorem dJ9_min_7cf53_2 : decode cJ9_min_7cf53 2 = .ok (.if_icmp .gt 7, 3) := by decide +kernel
theorem dJ9_min_7cf53_5 : decode cJ9_min_7cf53 5 = .ok (.iload_n 0, 1) := by decide +kernel
theorem dJ9_min_7cf53_6 : decode cJ9_min_7cf53 6 = .ok (.goto 4, 3) := by decide +kernel
theorem dJ9_min_7cf53_9 : decode cJ9_min_7cf53 9 = .ok (.iload_n 1, 1) := by decide +kernel
theorem dJ9_min_7cf53_10 : decode cJ9_min_7cf53 10 = .ok (.ireturn, 1) := by decide +kernel
end
section
theorem dX8_init_0 : decode cX8_init 0 = .ok (.aload_n 0, 1) := by decide +kernel
theorem dX8_init_1 : decode cX8_init 1 = .ok (.invokespecial 1, 3) := by decide +kernel
theorem dX8_init_4 : decode cX8_init 4 = .ok (.aload_n 0, 1) := by decide +kernel
theorem dX8_init_5 : decode cX8_init 5 = .ok (.bipush 8, 2) := by decide +kernel
theorem dX8_init_7 : decode cX8_init 7 = .ok (.anewarray 9, 3) := by decide +kernel
theorem dX8_init_10 : decode cX8_init 10 = .ok (.putfield 11, 3) := by decide +kernel
theorem dX8_init_13 : decode cX8_init 13 = .ok (.aload_n 0, 1) := by decide +kernel
theorem dX8_init_14 : decode cX8_init 14 = .ok (.bipush 24, 2) := by decide +kernel
theorem dX8_init_16 : decode cX8_init 16 = .ok (.anewarray 15, 3) := by decide +kernel
theorem dX8_init_19 : decode cX8_init 19 = .ok (.putfield 17, 3) := by decide +kernel
theorem dX8_init_22 : decode cX8_init 22 = .ok (.aload_n 0, 1) := by decide +kernel
theorem dX8_init_23 : decode cX8_init 23 = .ok (.bipush 8, 2) := by decide +kernel
theorem dX8_init_25 : decode cX8_init 25 = .ok (.newarray .int, 2) := by decide +kernel
theorem dX8_init_27 : decode cX8_init 27 = .ok (.putfield 21, 3) := by decide +kernel
theorem dX8_init_30 : decode cX8_init 30 = .ok (.aload_n 0, 1) := by decide +kernel
theorem dX8_init_31 : decode cX8_init 31 = .ok (.new 25, 3) := by decide +kernel
theorem dX8_init_34 : decode cX8_init 34 = .ok (.dup, 1) := by decide +kernel
theorem dX8_init_35 : decode cX8_init 35 = .ok (.invokespecial 27, 3) := by decide +kernel
theorem dX8_init_38 : decode cX8_init 38 = .ok (.putfield 28, 3) := by decide +kernel
theorem dX8_init_41 : decode cX8_init 41 = .ok (.aload_n 0, 1) := by decide +kernel
theorem dX8_init_42 : decode cX8_init 42 = .ok (.new 32, 3) := by decide +kernel
theorem dX8_init_45 : decode cX8_init 45 = .ok (.dup, 1) := by decide +kernel
theorem dX8_init_46 : decode cX8_init 46 = .ok (.invokespecial 34, 3) := by decide +kernel
theorem dX8_init_49 : decode cX8_init 49 = .ok (.putfield 35, 3) := by decide +kernel
theorem dX8_init_52 : decode cX8_init 52 = .ok (.aload_n 0, 1) := by decide +kernel
theorem dX8_init_53 : decode cX8_init 53 = .ok (.new 39, 3) := by decide +kernel
theorem dX8_init_56 : decode cX8_init 56 = .ok (.dup, 1) := by decide +kernel
theorem dX8_init_57 : decode cX8_init 57 = .ok (.invokespecial 41, 3) := by decide +kernel
theorem dX8_init_60 : decode cX8_init 60 = .ok (.putfield 42, 3) := by decide +kernel
theorem dX8_init_63 : decode cX8_init 63 = .ok (.aload_n 0, 1) := by decide +kernel
theorem dX8_init_64 : decode cX8_init 64 = .ok (.new 46, 3) := by decide +kernel
theorem dX8_init_67 : decode cX8_init 67 = .ok (.dup, 1) := by decide +kernel
theorem dX8_init_68 : decode cX8_init 68 = .ok (.invokespecial 48, 3) := by decide +kernel
theorem dX8_init_71 : decode cX8_init 71 = .ok (.putfield 49, 3) := by decide +kernel
theorem dX8_init_74 : decode cX8_init 74 = .ok (.iconst 0, 1) := by decide +kernel
theorem dX8_init_75 : decode cX8_init 75 = .ok (.istore_n 1, 1) := by decide +kernel
theorem dX8_init_76 : decode cX8_init 76 = .ok (.iload_n 1, 1) := by decide +kernel
theorem dX8_init_77 : decode cX8_init 77 = .ok (.bipush 8, 2) := by decide +kernel
theorem dX8_init_79 : decode cX8_init 79 = .ok (.if_icmp .ge 22, 3) := by decide +kernel
theorem dX8_init_82 : decode cX8_init 82 = .ok (.aload_n 0, 1) := by decide +kernel
theorem dX8_init_83 : decode cX8_init 83 = .ok (.getfield 11, 3) := by decide +kernel
theorem dX8_init_86 : decode cX8_init 86 = .ok (.iload_n 1, 1) := by decide +kernel
theorem dX8_init_87 : decode cX8_init 87 = .ok (.new 9, 3) := by decide +kernel
theorem dX8_init_90 : decode cX8_init 90 = .ok (.dup, 1) := by decide +kernel
theorem dX8_init_91 : decode cX8_init 91 = .ok (.invokespecial 53, 3) := by decide +kernel
theorem dX8_init_94 : decode cX8_init 94 = .ok (.aastore, 1) := by decide +kernel
theorem dX8_init_95 : decode cX8_init 95 = .ok (.iinc 1 1, 3) := by decide +kernel
theorem dX8_init_98 : decode cX8_init 98 = .ok (.goto (-22), 3) := by decide +kernel
theorem dX8_init_101 : decode cX8_init 101 = .ok (.return_, 1) := by decide +kernel
theorem dX8_door_0 : decode cX8_door 0 = .ok (.iload_n 1, 1) := by decide +kernel
theorem dX8_door_1 : decode cX8_door 1 = .ok (.invokestatic 54, 3) := by decide +kernel
theorem dX8_door_4 : decode cX8_door 4 = .ok (.ifCond .ne 9, 3) := by decide +kernel
theorem dX8_door_7 : decode cX8_door 7 = .ok (.aload_n 0, 1) := by decide +kernel
theorem dX8_door_8 : decode cX8_door 8 = .ok (.iconst (-1), 1) := by decide +kernel
theorem dX8_door_9 : decode cX8_door 9 = .ok (.invokevirtual 58, 3) := by decide +kernel
theorem dX8_door_12 : decode cX8_door 12 = .ok (.ireturn, 1) := by decide +kernel
theorem dX8_door_13 : decode cX8_door 13 = .ok (.iload_n 2, 1) := by decide +kernel
theorem dX8_door_14 : decode cX8_door 14 = .ok (.invokestatic 62, 3) := by decide +kernel
theorem dX8_door_17 : decode cX8_door 17 = .ok (.ifCond .eq 21, 3) := by decide +kernel
theorem dX8_door_20 : decode cX8_door 20 = .ok (.iload_n 3, 1) := by decide +kernel
theorem dX8_door_21 : decode cX8_door 21 = .ok (.ifCond .lt 17, 3) := by decide +kernel
theorem dX8_door_24 : decode cX8_door 24 = .ok (.iload_n 3, 1) := by decide +kernel
theorem dX8_door_25 : decode cX8_door 25 = .ok (.sipush 1024, 3) := by decide +kernel
theorem dX8_door_28 : decode cX8_door 28 = .ok (.if_icmp .ge 10, 3) := by decide +kernel
theorem dX8_door_31 : decode cX8_door 31 = .ok (.aload_n 0, 1) := by decide +kernel
theorem dX8_door_32 : decode cX8_door 32 = .ok (.getfield 65, 3) := by decide +kernel
theorem dX8_door_35 : decode cX8_door 35 = .ok (.ifCond .eq 10, 3) := by decide +kernel
theorem dX8_door_38 : decode cX8_door 38 = .ok (.aload_n 0, 1) := by decide +kernel
theorem dX8_door_39 : decode cX8_door 39 = .ok (.bipush (-6), 2) := by decide +kernel
theorem dX8_door_41 : decode cX8_door 41 = .ok (.invokevirtual 58, 3) := by decide +kernel
theorem dX8_door_44 : decode cX8_door 44 = .ok (.ireturn, 1) := by decide +kernel
theorem dX8_door_45 : decode cX8_door 45 = .ok (.aload_n 0, 1) := by decide +kernel
theorem dX8_door_46 : decode cX8_door 46 = .ok (.getfield 69, 3) := by decide +kernel
theorem dX8_door_49 : decode cX8_door 49 = .ok (.bipush 24, 2) := by decide +kernel
theorem dX8_door_51 : decode cX8_door 51 = .ok (.if_icmp .lt 10, 3) := by decide +kernel
theorem dX8_door_54 : decode cX8_door 54 = .ok (.aload_n 0, 1) := by decide +kernel
theorem dX8_door_55 : decode cX8_door 55 = .ok (.bipush (-7), 2) := by decide +kernel
theorem dX8_door_57 : decode cX8_door 57 = .ok (.invokevirtual 58, 3) := by decide +kernel
theorem dX8_door_60 : decode cX8_door 60 = .ok (.ireturn, 1) := by decide +kernel
theorem dX8_door_61 : decode cX8_door 61 = .ok (.aload_n 0, 1) := by decide +kernel
theorem dX8_door_62 : decode cX8_door 62 = .ok (.getfield 17, 3) := by decide +kernel
theorem dX8_door_65 : decode cX8_door 65 = .ok (.aload_n 0, 1) := by decide +kernel
theorem dX8_door_66 : decode cX8_door 66 = .ok (.getfield 69, 3) := by decide +kernel
theorem dX8_door_69 : decode cX8_door 69 = .ok (.new 15, 3) := by decide +kernel
theorem dX8_door_72 : decode cX8_door 72 = .ok (.dup, 1) := by decide +kernel
theorem dX8_door_73 : decode cX8_door 73 = .ok (.iload_n 1, 1) := by decide +kernel
theorem dX8_door_74 : decode cX8_door 74 = .ok (.iload_n 2, 1) := by decide +kernel
theorem dX8_door_75 : decode cX8_door 75 = .ok (.iload_n 3, 1) := by decide +kernel
theorem dX8_door_76 : decode cX8_door 76 = .ok (.invokespecial 73, 3) := by decide +kernel
theorem dX8_door_79 : decode cX8_door 79 = .ok (.aastore, 1) := by decide +kernel
theorem dX8_door_80 : decode cX8_door 80 = .ok (.aload_n 0, 1) := by decide +kernel
theorem dX8_door_81 : decode cX8_door 81 = .ok (.dup, 1) := by decide +kernel
theorem dX8_door_82 : decode cX8_door 82 = .ok (.getfield 69, 3) := by decide +kernel
theorem dX8_door_85 : decode cX8_door 85 = .ok (.iconst 1, 1) := by decide +kernel
theorem dX8_door_86 : decode cX8_door 86 = .ok (.iadd, 1) := by decide +kernel
theorem dX8_door_87 : decode cX8_door 87 = .ok (.putfield 69, 3) := by decide +kernel
theorem dX8_door_90 : decode cX8_door 90 = .ok (.aload_n 0, 1) := by decide +kernel
theorem dX8_door_91 : decode cX8_door 91 = .ok (.getfield 69, 3) := by decide +kernel
theorem dX8_door_94 : decode cX8_door 94 = .ok (.iconst 1, 1) := by decide +kernel
theorem dX8_door_95 : decode cX8_door 95 = .ok (.isub, 1) := by decide +kernel
theorem dX8_door_96 : decode cX8_door 96 = .ok (.ireturn, 1) := by decide +kernel
theorem dX8_near_0 : decode cX8_near 0 = .ok (.iload_n 1, 1) := by decide +kernel
theorem dX8_near_1 : decode cX8_near 1 = .ok (.invokestatic 54, 3) := by decide +kernel
theorem dX8_near_4 : decode cX8_near 4 = .ok (.ifCond .eq 10, 3) := by decide +kernel
theorem dX8_near_7 : decode cX8_near 7 = .ok (.iload_n 2, 1) := by decide +kernel
theorem dX8_near_8 : decode cX8_near 8 = .ok (.invokestatic 54, 3) := by decide +kernel
theorem dX8_near_11 : decode cX8_near 11 = .ok (.ifCond .ne 9, 3) := by decide +kernel
theorem dX8_near_14 : decode cX8_near 14 = .ok (.aload_n 0, 1) := by decide +kernel
theorem dX8_near_15 : decode cX8_near 15 = .ok (.iconst (-1), 1) := by decide +kernel
theorem dX8_near_16 : decode cX8_near 16 = .ok (.invokevirtual 58, 3) := by decide +kernel
theorem dX8_near_19 : decode cX8_near 19 = .ok (.ireturn, 1) := by decide +kernel
theorem dX8_near_20 : decode cX8_near 20 = .ok (.iload_n 1, 1) := by decide +kernel
theorem dX8_near_21 : decode cX8_near 21 = .ok (.iload_n 2, 1) := by decide +kernel
theorem dX8_near_22 : decode cX8_near 22 = .ok (.if_icmp .ne 10, 3) := by decide +kernel
theorem dX8_near_25 : decode cX8_near 25 = .ok (.aload_n 0, 1) := by decide +kernel
theorem dX8_near_26 : decode cX8_near 26 = .ok (.bipush (-6), 2) := by decide +kernel
theorem dX8_near_28 : decode cX8_near 28 = .ok (.invokevirtual 58, 3) := by decide +kernel
theorem dX8_near_31 : decode cX8_near 31 = .ok (.ireturn, 1) := by decide +kernel
theorem dX8_near_32 : decode cX8_near 32 = .ok (.aload_n 0, 1) := by decide +kernel
theorem dX8_near_33 : decode cX8_near 33 = .ok (.getfield 42, 3) := by decide +kernel
theorem dX8_near_36 : decode cX8_near 36 = .ok (.iload_n 1, 1) := by decide +kernel
theorem dX8_near_37 : decode cX8_near 37 = .ok (.iload_n 2, 1) := by decide +kernel
theorem dX8_near_38 : decode cX8_near 38 = .ok (.invokevirtual 76, 3) := by decide +kernel
theorem dX8_near_41 : decode cX8_near 41 = .ok (.ifCond .eq 7, 3) := by decide +kernel
theorem dX8_near_44 : decode cX8_near 44 = .ok (.iconst 1, 1) := by decide +kernel
theorem dX8_near_45 : decode cX8_near 45 = .ok (.goto 4, 3) := by decide +kernel
theorem dX8_near_48 : decode cX8_near 48 = .ok (.iconst 0, 1) := by decide +kernel
theorem dX8_near_49 : decode cX8_near 49 = .ok (.ireturn, 1) := by decide +kernel
theorem dX8_row_0 : decode cX8_row 0 = .ok (.iload_n 1, 1) := by decide +kernel
theorem dX8_row_1 : decode cX8_row 1 = .ok (.invokestatic 80, 3) := by decide +kernel
theorem dX8_row_4 : decode cX8_row 4 = .ok (.ifCond .ne 9, 3) := by decide +kernel
theorem dX8_row_7 : decode cX8_row 7 = .ok (.aload_n 0, 1) := by decide +kernel
theorem dX8_row_8 : decode cX8_row 8 = .ok (.iconst (-1), 1) := by decide +kernel
theorem dX8_row_9 : decode cX8_row 9 = .ok (.invokevirtual 58, 3) := by decide +kernel
theorem dX8_row_12 : decode cX8_row 12 = .ok (.ireturn, 1) := by decide +kernel
theorem dX8_row_13 : decode cX8_row 13 = .ok (.iload_n 3, 1) := by decide +kernel
theorem dX8_row_14 : decode cX8_row 14 = .ok (.ifCond .ge 10, 3) := by decide +kernel
theorem dX8_row_17 : decode cX8_row 17 = .ok (.aload_n 0, 1) := by decide +kernel
theorem dX8_row_18 : decode cX8_row 18 = .ok (.bipush (-4), 2) := by decide +kernel
theorem dX8_row_20 : decode cX8_row 20 = .ok (.invokevirtual 58, 3) := by decide +kernel
theorem dX8_row_23 : decode cX8_row 23 = .ok (.ireturn, 1) := by decide +kernel
theorem dX8_row_24 : decode cX8_row 24 = .ok (.iload_n 2, 1) := by decide +kernel
theorem dX8_row_25 : decode cX8_row 25 = .ok (.ifCond .lt 8, 3) := by decide +kernel
theorem dX8_row_28 : decode cX8_row 28 = .ok (.iload_n 2, 1) := by decide +kernel
theorem dX8_row_29 : decode cX8_row 29 = .ok (.iconst 4, 1) := by decide +kernel
theorem dX8_row_30 : decode cX8_row 30 = .ok (.if_icmp .lt 10, 3) := by decide +kernel
theorem dX8_row_33 : decode cX8_row 33 = .ok (.aload_n 0, 1) := by decide +kernel
theorem dX8_row_34 : decode cX8_row 34 = .ok (.bipush (-6), 2) := by decide +kernel
theorem dX8_row_36 : decode cX8_row 36 = .ok (.invokevirtual 58, 3) := by decide +kernel
theorem dX8_row_39 : decode cX8_row 39 = .ok (.ireturn, 1) := by decide +kernel
theorem dX8_row_40 : decode cX8_row 40 = .ok (.iload_n 3, 1) := by decide +kernel
theorem dX8_row_41 : decode cX8_row 41 = .ok (.bipush 30, 2) := by decide +kernel
theorem dX8_row_43 : decode cX8_row 43 = .ok (.if_icmp .le 10, 3) := by decide +kernel
theorem dX8_row_46 : decode cX8_row 46 = .ok (.aload_n 0, 1) := by decide +kernel
theorem dX8_row_47 : decode cX8_row 47 = .ok (.bipush (-7), 2) := by decide +kernel
theorem dX8_row_49 : decode cX8_row 49 = .ok (.invokevirtual 58, 3) := by decide +kernel
theorem dX8_row_52 : decode cX8_row 52 = .ok (.ireturn, 1) := by decide +kernel
theorem dX8_row_53 : decode cX8_row 53 = .ok (.aload_n 0, 1) := by decide +kernel
theorem dX8_row_54 : decode cX8_row 54 = .ok (.getfield 11, 3) := by decide +kernel
theorem dX8_row_57 : decode cX8_row 57 = .ok (.iload_n 1, 1) := by decide +kernel
theorem dX8_row_58 : decode cX8_row 58 = .ok (.aaload, 1) := by decide +kernel
theorem dX8_row_59 : decode cX8_row 59 = .ok (.iload_n 2, 1) := by decide +kernel
theorem dX8_row_60 : decode cX8_row 60 = .ok (.iload_n 3, 1) := by decide +kernel
theorem dX8_row_61 : decode cX8_row 61 = .ok (.invokevirtual 83, 3) := by decide +kernel
theorem dX8_row_64 : decode cX8_row 64 = .ok (.iconst 1, 1) := by decide +kernel
theorem dX8_row_65 : decode cX8_row 65 = .ok (.ireturn, 1) := by decide +kernel
theorem dX8_set_0 : decode cX8_set 0 = .ok (.iload_n 1, 1) := by decide +kernel
theorem dX8_set_1 : decode cX8_set 1 = .ok (.invokestatic 80, 3) := by decide +kernel
theorem dX8_set_4 : decode cX8_set 4 = .ok (.ifCond .eq 15, 3) := by decide +kernel
theorem dX8_set_7 : decode cX8_set 7 = .ok (.aload_n 0, 1) := by decide +kernel
theorem dX8_set_8 : decode cX8_set 8 = .ok (.getfield 11, 3) := by decide +kernel
theorem dX8_set_11 : decode cX8_set 11 = .ok (.iload_n 1, 1) := by decide +kernel
theorem dX8_set_12 : decode cX8_set 12 = .ok (.aaload, 1) := by decide +kernel
theorem dX8_set_13 : decode cX8_set 13 = .ok (.invokevirtual 87, 3) := by decide +kernel
theorem dX8_set_16 : decode cX8_set 16 = .ok (.goto 4, 3) := by decide +kernel
theorem dX8_set_19 : decode cX8_set 19 = .ok (.iconst (-1), 1) := by decide +kernel
theorem dX8_set_20 : decode cX8_set 20 = .ok (.istore 5, 2) := by decide +kernel
theorem dX8_set_22 : decode cX8_set 22 = .ok (.iload 5, 2) := by decide +kernel
theorem dX8_set_24 : decode cX8_set 24 = .ok (.ifCond .eq 10, 3) := by decide +kernel
theorem dX8_set_27 : decode cX8_set 27 = .ok (.aload_n 0, 1) := by decide +kernel
theorem dX8_set_28 : decode cX8_set 28 = .ok (.iload 5, 2) := by decide +kernel
theorem dX8_set_30 : decode cX8_set 30 = .ok (.invokevirtual 58, 3) := by decide +kernel
theorem dX8_set_33 : decode cX8_set 33 = .ok (.ireturn, 1) := by decide +kernel
theorem dX8_set_34 : decode cX8_set 34 = .ok (.aload_n 0, 1) := by decide +kernel
theorem dX8_set_35 : decode cX8_set 35 = .ok (.getfield 11, 3) := by decide +kernel
theorem dX8_set_38 : decode cX8_set 38 = .ok (.iload_n 1, 1) := by decide +kernel
theorem dX8_set_39 : decode cX8_set 39 = .ok (.aaload, 1) := by decide +kernel
theorem dX8_set_40 : decode cX8_set 40 = .ok (.iload_n 2, 1) := by decide +kernel
theorem dX8_set_41 : decode cX8_set 41 = .ok (.invokevirtual 91, 3) := by decide +kernel
theorem dX8_set_44 : decode cX8_set 44 = .ok (.ifCond .ne 10, 3) := by decide +kernel
theorem dX8_set_47 : decode cX8_set 47 = .ok (.aload_n 0, 1) := by decide +kernel
theorem dX8_set_48 : decode cX8_set 48 = .ok (.bipush (-5), 2) := by decide +kernel
theorem dX8_set_50 : decode cX8_set 50 = .ok (.invokevirtual 58, 3) := by decide +kernel
theorem dX8_set_53 : decode cX8_set 53 = .ok (.ireturn, 1) := by decide +kernel
theorem dX8_set_54 : decode cX8_set 54 = .ok (.aload_n 0, 1) := by decide +kernel
theorem dX8_set_55 : decode cX8_set 55 = .ok (.getfield 11, 3) := by decide +kernel
theorem dX8_set_58 : decode cX8_set 58 = .ok (.iload_n 1, 1) := by decide +kernel
theorem dX8_set_59 : decode cX8_set 59 = .ok (.aaload, 1) := by decide +kernel
theorem dX8_set_60 : decode cX8_set 60 = .ok (.iload_n 2, 1) := by decide +kernel
theorem dX8_set_61 : decode cX8_set 61 = .ok (.lload_n 3, 1) := by decide +kernel
theorem dX8_set_62 : decode cX8_set 62 = .ok (.invokevirtual 94, 3) := by decide +kernel
theorem dX8_set_65 : decode cX8_set 65 = .ok (.iconst 1, 1) := by decide +kernel
theorem dX8_set_66 : decode cX8_set 66 = .ok (.ireturn, 1) := by decide +kernel
theorem dX8_copy_0 : decode cX8_copy 0 = .ok (.iload_n 1, 1) := by decide +kernel
theorem dX8_copy_1 : decode cX8_copy 1 = .ok (.invokestatic 80, 3) := by decide +kernel
theorem dX8_copy_4 : decode cX8_copy 4 = .ok (.ifCond .eq 10, 3) := by decide +kernel
theorem dX8_copy_7 : decode cX8_copy 7 = .ok (.iload_n 2, 1) := by decide +kernel
theorem dX8_copy_8 : decode cX8_copy 8 = .ok (.invokestatic 80, 3) := by decide +kernel
theorem dX8_copy_11 : decode cX8_copy 11 = .ok (.ifCond .ne 9, 3) := by decide +kernel
theorem dX8_copy_14 : decode cX8_copy 14 = .ok (.aload_n 0, 1) := by decide +kernel
theorem dX8_copy_15 : decode cX8_copy 15 = .ok (.iconst (-1), 1) := by decide +kernel
theorem dX8_copy_16 : decode cX8_copy 16 = .ok (.invokevirtual 58, 3) := by decide +kernel
theorem dX8_copy_19 : decode cX8_copy 19 = .ok (.ireturn, 1) := by decide +kernel
theorem dX8_copy_20 : decode cX8_copy 20 = .ok (.aload_n 0, 1) := by decide +kernel
theorem dX8_copy_21 : decode cX8_copy 21 = .ok (.getfield 11, 3) := by decide +kernel
theorem dX8_copy_24 : decode cX8_copy 24 = .ok (.iload_n 1, 1) := by decide +kernel
theorem dX8_copy_25 : decode cX8_copy 25 = .ok (.aaload, 1) := by decide +kernel
theorem dX8_copy_26 : decode cX8_copy 26 = .ok (.astore 6, 2) := by decide +kernel
theorem dX8_copy_28 : decode cX8_copy 28 = .ok (.aload_n 0, 1) := by decide +kernel
theorem dX8_copy_29 : decode cX8_copy 29 = .ok (.getfield 11, 3) := by decide +kernel
theorem dX8_copy_32 : decode cX8_copy 32 = .ok (.iload_n 2, 1) := by decide +kernel
theorem dX8_copy_33 : decode cX8_copy 33 = .ok (.aaload, 1) := by decide +kernel
theorem dX8_copy_34 : decode cX8_copy 34 = .ok (.astore 7, 2) := by decide +kernel
theorem dX8_copy_36 : decode cX8_copy 36 = .ok (.aload 6, 2) := by decide +kernel
theorem dX8_copy_38 : decode cX8_copy 38 = .ok (.invokevirtual 98, 3) := by decide +kernel
theorem dX8_copy_41 : decode cX8_copy 41 = .ok (.ifCond .ne 11, 3) := by decide +kernel
theorem dX8_copy_44 : decode cX8_copy 44 = .ok (.aload 7, 2) := by decide +kernel
theorem dX8_copy_46 : decode cX8_copy 46 = .ok (.invokevirtual 98, 3) := by decide +kernel
theorem dX8_copy_49 : decode cX8_copy 49 = .ok (.ifCond .eq 10, 3) := by decide +kernel
theorem dX8_copy_52 : decode cX8_copy 52 = .ok (.aload_n 0, 1) := by decide +kernel
theorem dX8_copy_53 : decode cX8_copy 53 = .ok (.bipush (-2), 2) := by decide +kernel
theorem dX8_copy_55 : decode cX8_copy 55 = .ok (.invokevirtual 58, 3) := by decide +kernel
theorem dX8_copy_58 : decode cX8_copy 58 = .ok (.ireturn, 1) := by decide +kernel
theorem dX8_copy_59 : decode cX8_copy 59 = .ok (.aload 6, 2) := by decide +kernel
theorem dX8_copy_61 : decode cX8_copy 61 = .ok (.invokevirtual 102, 3) := by decide +kernel
theorem dX8_copy_64 : decode cX8_copy 64 = .ok (.ifCond .eq 31, 3) := by decide +kernel
theorem dX8_copy_67 : decode cX8_copy 67 = .ok (.aload 7, 2) := by decide +kernel
theorem dX8_copy_69 : decode cX8_copy 69 = .ok (.invokevirtual 102, 3) := by decide +kernel
theorem dX8_copy_72 : decode cX8_copy 72 = .ok (.ifCond .eq 23, 3) := by decide +kernel
theorem dX8_copy_75 : decode cX8_copy 75 = .ok (.aload 6, 2) := by decide +kernel
theorem dX8_copy_77 : decode cX8_copy 77 = .ok (.getfield 105, 3) := by decide +kernel
theorem dX8_copy_80 : decode cX8_copy 80 = .ok (.aload 7, 2) := by decide +kernel
theorem dX8_copy_82 : decode cX8_copy 82 = .ok (.getfield 105, 3) := by decide +kernel
theorem dX8_copy_85 : decode cX8_copy 85 = .ok (.if_icmp .eq 10, 3) := by decide +kernel
theorem dX8_copy_88 : decode cX8_copy 88 = .ok (.aload_n 0, 1) := by decide +kernel
theorem dX8_copy_89 : decode cX8_copy 89 = .ok (.bipush (-2), 2) := by decide +kernel
theorem dX8_copy_91 : decode cX8_copy 91 = .ok (.invokevirtual 58, 3) := by decide +kernel
theorem dX8_copy_94 : decode cX8_copy 94 = .ok (.ireturn, 1) := by decide +kernel
theorem dX8_copy_95 : decode cX8_copy 95 = .ok (.aload 6, 2) := by decide +kernel
theorem dX8_copy_97 : decode cX8_copy 97 = .ok (.invokevirtual 102, 3) := by decide +kernel
theorem dX8_copy_100 : decode cX8_copy 100 = .ok (.ifCond .eq 11, 3) := by decide +kernel
theorem dX8_copy_103 : decode cX8_copy 103 = .ok (.aload 7, 2) := by decide +kernel
theorem dX8_copy_105 : decode cX8_copy 105 = .ok (.invokevirtual 102, 3) := by decide +kernel
theorem dX8_copy_108 : decode cX8_copy 108 = .ok (.ifCond .ne 10, 3) := by decide +kernel
theorem dX8_copy_111 : decode cX8_copy 111 = .ok (.aload_n 0, 1) := by decide +kernel
theorem dX8_copy_112 : decode cX8_copy 112 = .ok (.bipush (-3), 2) := by decide +kernel
theorem dX8_copy_114 : decode cX8_copy 114 = .ok (.invokevirtual 58, 3) := by decide +kernel
theorem dX8_copy_117 : decode cX8_copy 117 = .ok (.ireturn, 1) := by decide +kernel
theorem dX8_copy_118 : decode cX8_copy 118 = .ok (.iload 5, 2) := by decide +kernel
theorem dX8_copy_120 : decode cX8_copy 120 = .ok (.ifCond .ge 10, 3) := by decide +kernel
theorem dX8_copy_123 : decode cX8_copy 123 = .ok (.aload_n 0, 1) := by decide +kernel
theorem dX8_copy_124 : decode cX8_copy 124 = .ok (.bipush (-4), 2) := by decide +kernel
theorem dX8_copy_126 : decode cX8_copy 126 = .ok (.invokevirtual 58, 3) := by decide +kernel
theorem dX8_copy_129 : decode cX8_copy 129 = .ok (.ireturn, 1) := by decide +kernel
theorem dX8_copy_130 : decode cX8_copy 130 = .ok (.aload 6, 2) := by decide +kernel
theorem dX8_copy_132 : decode cX8_copy 132 = .ok (.iload_n 3, 1) := by decide +kernel
theorem dX8_copy_133 : decode cX8_copy 133 = .ok (.iload 5, 2) := by decide +kernel
theorem dX8_copy_135 : decode cX8_copy 135 = .ok (.invokevirtual 108, 3) := by decide +kernel
theorem dX8_copy_138 : decode cX8_copy 138 = .ok (.ifCond .eq 15, 3) := by decide +kernel
theorem dX8_copy_141 : decode cX8_copy 141 = .ok (.aload 7, 2) := by decide +kernel
theorem dX8_copy_143 : decode cX8_copy 143 = .ok (.iload 4, 2) := by decide +kernel
theorem dX8_copy_145 : decode cX8_copy 145 = .ok (.iload 5, 2) := by decide +kernel
theorem dX8_copy_147 : decode cX8_copy 147 = .ok (.invokevirtual 108, 3) := by decide +kernel
theorem dX8_copy_150 : decode cX8_copy 150 = .ok (.ifCond .ne 10, 3) := by decide +kernel
theorem dX8_copy_153 : decode cX8_copy 153 = .ok (.aload_n 0, 1) := by decide +kernel
theorem dX8_copy_154 : decode cX8_copy 154 = .ok (.bipush (-5), 2) := by decide +kernel
theorem dX8_copy_156 : decode cX8_copy 156 = .ok (.invokevirtual 58, 3) := by decide +kernel
theorem dX8_copy_159 : decode cX8_copy 159 = .ok (.ireturn, 1) := by decide +kernel
theorem dX8_copy_160 : decode cX8_copy 160 = .ok (.aload 6, 2) := by decide +kernel
theorem dX8_copy_162 : decode cX8_copy 162 = .ok (.getfield 111, 3) := by decide +kernel
theorem dX8_copy_165 : decode cX8_copy 165 = .ok (.iload_n 3, 1) := by decide +kernel
theorem dX8_copy_166 : decode cX8_copy 166 = .ok (.aload 7, 2) := by decide +kernel
theorem dX8_copy_168 : decode cX8_copy 168 = .ok (.getfield 111, 3) := by decide +kernel
theorem dX8_copy_171 : decode cX8_copy 171 = .ok (.iload 4, 2) := by decide +kernel
theorem dX8_copy_173 : decode cX8_copy 173 = .ok (.iload 5, 2) := by decide +kernel
theorem dX8_copy_175 : decode cX8_copy 175 = .ok (.invokestatic 115, 3) := by decide +kernel
theorem dX8_copy_178 : decode cX8_copy 178 = .ok (.iconst 1, 1) := by decide +kernel
theorem dX8_copy_179 : decode cX8_copy 179 = .ok (.ireturn, 1) := by decide +kernel
theorem dX8_element_0 : decode cX8_element 0 = .ok (.iload_n 1, 1) := by decide +kernel
theorem dX8_element_1 : decode cX8_element 1 = .ok (.invokestatic 80, 3) := by decide +kernel
theorem dX8_element_4 : decode cX8_element 4 = .ok (.ifCond .eq 16, 3) := by decide +kernel
theorem dX8_element_7 : decode cX8_element 7 = .ok (.aload_n 0, 1) := by decide +kernel
theorem dX8_element_8 : decode cX8_element 8 = .ok (.getfield 11, 3) := by decide +kernel
theorem dX8_element_11 : decode cX8_element 11 = .ok (.iload_n 1, 1) := by decide +kernel
theorem dX8_element_12 : decode cX8_element 12 = .ok (.aaload, 1) := by decide +kernel
theorem dX8_element_13 : decode cX8_element 13 = .ok (.iload_n 2, 1) := by decide +kernel
theorem dX8_element_14 : decode cX8_element 14 = .ok (.invokevirtual 91, 3) := by decide +kernel
theorem dX8_element_17 : decode cX8_element 17 = .ok (.ifCond .ne 5, 3) := by decide +kernel
theorem dX8_element_20 : decode cX8_element 20 = .ok (.lconst 0, 1) := by decide +kernel
theorem dX8_element_21 : decode cX8_element 21 = .ok (.lreturn, 1) := by decide +kernel
theorem dX8_element_22 : decode cX8_element 22 = .ok (.aload_n 0, 1) := by decide +kernel
theorem dX8_element_23 : decode cX8_element 23 = .ok (.getfield 11, 3) := by decide +kernel
theorem dX8_element_26 : decode cX8_element 26 = .ok (.iload_n 1, 1) := by decide +kernel
theorem dX8_element_27 : decode cX8_element 27 = .ok (.aaload, 1) := by decide +kernel
theorem dX8_element_28 : decode cX8_element 28 = .ok (.getfield 111, 3) := by decide +kernel
theorem dX8_element_31 : decode cX8_element 31 = .ok (.iload_n 2, 1) := by decide +kernel
theorem dX8_element_32 : decode cX8_element 32 = .ok (.laload, 1) := by decide +kernel
theorem dX8_element_33 : decode cX8_element 33 = .ok (.lreturn, 1) := by decide +kernel
theorem dX8_show_0 : decode cX8_show 0 = .ok (.iload_n 1, 1) := by decide +kernel
theorem dX8_show_1 : decode cX8_show 1 = .ok (.invokestatic 80, 3) := by decide +kernel
theorem dX8_show_4 : decode cX8_show 4 = .ok (.ifCond .eq 16, 3) := by decide +kernel
theorem dX8_show_7 : decode cX8_show 7 = .ok (.iload_n 2, 1) := by decide +kernel
theorem dX8_show_8 : decode cX8_show 8 = .ok (.iconst (-1), 1) := by decide +kernel
theorem dX8_show_9 : decode cX8_show 9 = .ok (.if_icmp .eq 17, 3) := by decide +kernel
theorem dX8_show_12 : decode cX8_show 12 = .ok (.aload_n 0, 1) := by decide +kernel
theorem dX8_show_13 : decode cX8_show 13 = .ok (.iload_n 2, 1) := by decide +kernel
theorem dX8_show_14 : decode cX8_show 14 = .ok (.invokevirtual 121, 3) := by decide +kernel
theorem dX8_show_17 : decode cX8_show 17 = .ok (.ifCond .ne 9, 3) := by decide +kernel
theorem dX8_show_20 : decode cX8_show 20 = .ok (.aload_n 0, 1) := by decide +kernel
theorem dX8_show_21 : decode cX8_show 21 = .ok (.iconst (-1), 1) := by decide +kernel
theorem dX8_show_22 : decode cX8_show 22 = .ok (.invokevirtual 58, 3) := by decide +kernel
theorem dX8_show_25 : decode cX8_show 25 = .ok (.ireturn, 1) := by decide +kernel
theorem dX8_show_26 : decode cX8_show 26 = .ok (.iload_n 2, 1) := by decide +kernel
theorem dX8_show_27 : decode cX8_show 27 = .ok (.iconst (-1), 1) := by decide +kernel
theorem dX8_show_28 : decode cX8_show 28 = .ok (.if_icmp .ne 14, 3) := by decide +kernel
theorem dX8_show_31 : decode cX8_show 31 = .ok (.aload_n 0, 1) := by decide +kernel
theorem dX8_show_32 : decode cX8_show 32 = .ok (.getfield 11, 3) := by decide +kernel
theorem dX8_show_35 : decode cX8_show 35 = .ok (.iload_n 1, 1) := by decide +kernel
theorem dX8_show_36 : decode cX8_show 36 = .ok (.aaload, 1) := by decide +kernel
theorem dX8_show_37 : decode cX8_show 37 = .ok (.invokevirtual 123, 3) := by decide +kernel
theorem dX8_show_40 : decode cX8_show 40 = .ok (.iconst 0, 1) := by decide +kernel
theorem dX8_show_41 : decode cX8_show 41 = .ok (.ireturn, 1) := by decide +kernel
theorem dX8_show_42 : decode cX8_show 42 = .ok (.aload_n 0, 1) := by decide +kernel
theorem dX8_show_43 : decode cX8_show 43 = .ok (.getfield 11, 3) := by decide +kernel
theorem dX8_show_46 : decode cX8_show 46 = .ok (.iload_n 1, 1) := by decide +kernel
theorem dX8_show_47 : decode cX8_show 47 = .ok (.aaload, 1) := by decide +kernel
theorem dX8_show_48 : decode cX8_show 48 = .ok (.iload_n 2, 1) := by decide +kernel
theorem dX8_show_49 : decode cX8_show 49 = .ok (.invokevirtual 126, 3) := by decide +kernel
theorem dX8_show_52 : decode cX8_show 52 = .ok (.iconst 1, 1) := by decide +kernel
theorem dX8_show_53 : decode cX8_show 53 = .ok (.ireturn, 1) := by decide +kernel
theorem dX8_holds_0 : decode cX8_holds 0 = .ok (.iload_n 1, 1) := by decide +kernel
theorem dX8_holds_1 : decode cX8_holds 1 = .ok (.invokestatic 80, 3) := by decide +kernel
theorem dX8_holds_4 : decode cX8_holds 4 = .ok (.ifCond .eq 15, 3) := by decide +kernel
theorem dX8_holds_7 : decode cX8_holds 7 = .ok (.aload_n 0, 1) := by decide +kernel
theorem dX8_holds_8 : decode cX8_holds 8 = .ok (.getfield 11, 3) := by decide +kernel
theorem dX8_holds_11 : decode cX8_holds 11 = .ok (.iload_n 1, 1) := by decide +kernel
theorem dX8_holds_12 : decode cX8_holds 12 = .ok (.aaload, 1) := by decide +kernel
theorem dX8_holds_13 : decode cX8_holds 13 = .ok (.invokevirtual 130, 3) := by decide +kernel
theorem dX8_holds_16 : decode cX8_holds 16 = .ok (.goto 4, 3) := by decide +kernel
theorem dX8_holds_19 : decode cX8_holds 19 = .ok (.iconst (-1), 1) := by decide +kernel
theorem dX8_holds_20 : decode cX8_holds 20 = .ok (.ireturn, 1) := by decide +kernel
theorem dX8_blockIn_0 : decode cX8_blockIn 0 = .ok (.iload_n 1, 1) := by decide +kernel
theorem dX8_blockIn_1 : decode cX8_blockIn 1 = .ok (.invokestatic 80, 3) := by decide +kernel
theorem dX8_blockIn_4 : decode cX8_blockIn 4 = .ok (.ifCond .eq 15, 3) := by decide +kernel
theorem dX8_blockIn_7 : decode cX8_blockIn 7 = .ok (.aload_n 0, 1) := by decide +kernel
theorem dX8_blockIn_8 : decode cX8_blockIn 8 = .ok (.getfield 11, 3) := by decide +kernel
theorem dX8_blockIn_11 : decode cX8_blockIn 11 = .ok (.iload_n 1, 1) := by decide +kernel
theorem dX8_blockIn_12 : decode cX8_blockIn 12 = .ok (.aaload, 1) := by decide +kernel
theorem dX8_blockIn_13 : decode cX8_blockIn 13 = .ok (.invokevirtual 133, 3) := by decide +kernel
theorem dX8_blockIn_16 : decode cX8_blockIn 16 = .ok (.goto 4, 3) := by decide +kernel
theorem dX8_blockIn_19 : decode cX8_blockIn 19 = .ok (.iconst (-1), 1) := by decide +kernel
theorem dX8_blockIn_20 : decode cX8_blockIn 20 = .ok (.istore_n 2, 1) := by decide +kernel
theorem dX8_blockIn_21 : decode cX8_blockIn 21 = .ok (.iload_n 2, 1) := by decide +kernel
theorem dX8_blockIn_22 : decode cX8_blockIn 22 = .ok (.ifCond .eq 9, 3) := by decide +kernel
theorem dX8_blockIn_25 : decode cX8_blockIn 25 = .ok (.aload_n 0, 1) := by decide +kernel
theorem dX8_blockIn_26 : decode cX8_blockIn 26 = .ok (.iload_n 2, 1) := by decide +kernel
theorem dX8_blockIn_27 : decode cX8_blockIn 27 = .ok (.invokevirtual 58, 3) := by decide +kernel
theorem dX8_blockIn_30 : decode cX8_blockIn 30 = .ok (.ireturn, 1) := by decide +kernel
theorem dX8_blockIn_31 : decode cX8_blockIn 31 = .ok (.aload_n 0, 1) := by decide +kernel
theorem dX8_blockIn_32 : decode cX8_blockIn 32 = .ok (.aload_n 0, 1) := by decide +kernel
theorem dX8_blockIn_33 : decode cX8_blockIn 33 = .ok (.getfield 11, 3) := by decide +kernel
theorem dX8_blockIn_36 : decode cX8_blockIn 36 = .ok (.iload_n 1, 1) := by decide +kernel
theorem dX8_blockIn_37 : decode cX8_blockIn 37 = .ok (.aaload, 1) := by decide +kernel
theorem dX8_blockIn_38 : decode cX8_blockIn 38 = .ok (.getfield 136, 3) := by decide +kernel
theorem dX8_blockIn_41 : decode cX8_blockIn 41 = .ok (.invokevirtual 139, 3) := by decide +kernel
theorem dX8_blockIn_44 : decode cX8_blockIn 44 = .ok (.astore_n 3, 1) := by decide +kernel
theorem dX8_blockIn_45 : decode cX8_blockIn 45 = .ok (.aload_n 3, 1) := by decide +kernel
theorem dX8_blockIn_46 : decode cX8_blockIn 46 = .ok (.ifnonnull 11, 3) := by decide +kernel
theorem dX8_blockIn_49 : decode cX8_blockIn 49 = .ok (.aload_n 0, 1) := by decide +kernel
theorem dX8_blockIn_50 : decode cX8_blockIn 50 = .ok (.iconst (-1), 1) := by decide +kernel
theorem dX8_blockIn_51 : decode cX8_blockIn 51 = .ok (.invokevirtual 58, 3) := by decide +kernel
theorem dX8_blockIn_54 : decode cX8_blockIn 54 = .ok (.goto 7, 3) := by decide +kernel
theorem dX8_blockIn_57 : decode cX8_blockIn 57 = .ok (.aload_n 3, 1) := by decide +kernel
theorem dX8_blockIn_58 : decode cX8_blockIn 58 = .ok (.getfield 143, 3) := by decide +kernel
theorem dX8_blockIn_61 : decode cX8_blockIn 61 = .ok (.ireturn, 1) := by decide +kernel
theorem dX8_law_0 : decode cX8_law 0 = .ok (.iload_n 1, 1) := by decide +kernel
theorem dX8_law_1 : decode cX8_law 1 = .ok (.invokestatic 80, 3) := by decide +kernel
theorem dX8_law_4 : decode cX8_law 4 = .ok (.ifCond .eq 15, 3) := by decide +kernel
theorem dX8_law_7 : decode cX8_law 7 = .ok (.aload_n 0, 1) := by decide +kernel
theorem dX8_law_8 : decode cX8_law 8 = .ok (.getfield 11, 3) := by decide +kernel
theorem dX8_law_11 : decode cX8_law 11 = .ok (.iload_n 1, 1) := by decide +kernel
theorem dX8_law_12 : decode cX8_law 12 = .ok (.aaload, 1) := by decide +kernel
theorem dX8_law_13 : decode cX8_law 13 = .ok (.invokevirtual 87, 3) := by decide +kernel
theorem dX8_law_16 : decode cX8_law 16 = .ok (.goto 4, 3) := by decide +kernel
theorem dX8_law_19 : decode cX8_law 19 = .ok (.iconst (-1), 1) := by decide +kernel
theorem dX8_law_20 : decode cX8_law 20 = .ok (.istore_n 2, 1) := by decide +kernel
theorem dX8_law_21 : decode cX8_law 21 = .ok (.iload_n 2, 1) := by decide +kernel
theorem dX8_law_22 : decode cX8_law 22 = .ok (.ifCond .eq 9, 3) := by decide +kernel
theorem dX8_law_25 : decode cX8_law 25 = .ok (.aload_n 0, 1) := by decide +kernel
theorem dX8_law_26 : decode cX8_law 26 = .ok (.iload_n 2, 1) := by decide +kernel
theorem dX8_law_27 : decode cX8_law 27 = .ok (.invokevirtual 58, 3) := by decide +kernel
theorem dX8_law_30 : decode cX8_law 30 = .ok (.ireturn, 1) := by decide +kernel
theorem dX8_law_31 : decode cX8_law 31 = .ok (.aload_n 0, 1) := by decide +kernel
theorem dX8_law_32 : decode cX8_law 32 = .ok (.getfield 28, 3) := by decide +kernel
theorem dX8_law_35 : decode cX8_law 35 = .ok (.aload_n 0, 1) := by decide +kernel
theorem dX8_law_36 : decode cX8_law 36 = .ok (.getfield 11, 3) := by decide +kernel
theorem dX8_law_39 : decode cX8_law 39 = .ok (.iload_n 1, 1) := by decide +kernel
theorem dX8_law_40 : decode cX8_law 40 = .ok (.aaload, 1) := by decide +kernel
theorem dX8_law_41 : decode cX8_law 41 = .ok (.invokevirtual 146, 3) := by decide +kernel
theorem dX8_law_44 : decode cX8_law 44 = .ok (.ifCond .eq 7, 3) := by decide +kernel
theorem dX8_law_47 : decode cX8_law 47 = .ok (.iconst 1, 1) := by decide +kernel
theorem dX8_law_48 : decode cX8_law 48 = .ok (.goto 9, 3) := by decide +kernel
theorem dX8_law_51 : decode cX8_law 51 = .ok (.aload_n 0, 1) := by decide +kernel
theorem dX8_law_52 : decode cX8_law 52 = .ok (.bipush (-6), 2) := by decide +kernel
theorem dX8_law_54 : decode cX8_law 54 = .ok (.invokevirtual 58, 3) := by decide +kernel
theorem dX8_law_57 : decode cX8_law 57 = .ok (.ireturn, 1) := by decide +kernel
theorem dX8_fault_0 : decode cX8_fault 0 = .ok (.aload_n 0, 1) := by decide +kernel
theorem dX8_fault_1 : decode cX8_fault 1 = .ok (.getfield 28, 3) := by decide +kernel
theorem dX8_fault_4 : decode cX8_fault 4 = .ok (.getfield 150, 3) := by decide +kernel
theorem dX8_fault_7 : decode cX8_fault 7 = .ok (.ireturn, 1) := by decide +kernel
theorem dX8_truth_0 : decode cX8_truth 0 = .ok (.aload_n 0, 1) := by decide +kernel
theorem dX8_truth_1 : decode cX8_truth 1 = .ok (.iload_n 1, 1) := by decide +kernel
theorem dX8_truth_2 : decode cX8_truth 2 = .ok (.invokevirtual 139, 3) := by decide +kernel
theorem dX8_truth_5 : decode cX8_truth 5 = .ok (.astore_n 3, 1) := by decide +kernel
theorem dX8_truth_6 : decode cX8_truth 6 = .ok (.aload_n 3, 1) := by decide +kernel
theorem dX8_truth_7 : decode cX8_truth 7 = .ok (.ifnull 10, 3) := by decide +kernel
theorem dX8_truth_10 : decode cX8_truth 10 = .ok (.iload_n 2, 1) := by decide +kernel
theorem dX8_truth_11 : decode cX8_truth 11 = .ok (.invokestatic 80, 3) := by decide +kernel
theorem dX8_truth_14 : decode cX8_truth 14 = .ok (.ifCond .ne 9, 3) := by decide +kernel
theorem dX8_truth_17 : decode cX8_truth 17 = .ok (.aload_n 0, 1) := by decide +kernel
theorem dX8_truth_18 : decode cX8_truth 18 = .ok (.iconst (-1), 1) := by decide +kernel
theorem dX8_truth_19 : decode cX8_truth 19 = .ok (.invokevirtual 58, 3) := by decide +kernel
theorem dX8_truth_22 : decode cX8_truth 22 = .ok (.ireturn, 1) := by decide +kernel
theorem dX8_truth_23 : decode cX8_truth 23 = .ok (.aload_n 0, 1) := by decide +kernel
theorem dX8_truth_24 : decode cX8_truth 24 = .ok (.getfield 11, 3) := by decide +kernel
theorem dX8_truth_27 : decode cX8_truth 27 = .ok (.iload_n 2, 1) := by decide +kernel
theorem dX8_truth_28 : decode cX8_truth 28 = .ok (.aaload, 1) := by decide +kernel
theorem dX8_truth_29 : decode cX8_truth 29 = .ok (.invokevirtual 87, 3) := by decide +kernel
theorem dX8_truth_32 : decode cX8_truth 32 = .ok (.istore 4, 2) := by decide +kernel
theorem dX8_truth_34 : decode cX8_truth 34 = .ok (.iload 4, 2) := by decide +kernel
theorem dX8_truth_36 : decode cX8_truth 36 = .ok (.ifCond .eq 10, 3) := by decide +kernel
theorem dX8_truth_39 : decode cX8_truth 39 = .ok (.aload_n 0, 1) := by decide +kernel
theorem dX8_truth_40 : decode cX8_truth 40 = .ok (.iload 4, 2) := by decide +kernel
theorem dX8_truth_42 : decode cX8_truth 42 = .ok (.invokevirtual 58, 3) := by decide +kernel
theorem dX8_truth_45 : decode cX8_truth 45 = .ok (.ireturn, 1) := by decide +kernel
theorem dX8_truth_46 : decode cX8_truth 46 = .ok (.aload_n 0, 1) := by decide +kernel
theorem dX8_truth_47 : decode cX8_truth 47 = .ok (.getfield 65, 3) := by decide +kernel
theorem dX8_truth_50 : decode cX8_truth 50 = .ok (.ifCond .eq 10, 3) := by decide +kernel
theorem dX8_truth_53 : decode cX8_truth 53 = .ok (.aload_n 0, 1) := by decide +kernel
theorem dX8_truth_54 : decode cX8_truth 54 = .ok (.bipush (-6), 2) := by decide +kernel
theorem dX8_truth_56 : decode cX8_truth 56 = .ok (.invokevirtual 58, 3) := by decide +kernel
theorem dX8_truth_59 : decode cX8_truth 59 = .ok (.ireturn, 1) := by decide +kernel
theorem dX8_truth_60 : decode cX8_truth 60 = .ok (.aload_n 0, 1) := by decide +kernel
theorem dX8_truth_61 : decode cX8_truth 61 = .ok (.getfield 11, 3) := by decide +kernel
theorem dX8_truth_64 : decode cX8_truth 64 = .ok (.iload_n 2, 1) := by decide +kernel
theorem dX8_truth_65 : decode cX8_truth 65 = .ok (.aaload, 1) := by decide +kernel
theorem dX8_truth_66 : decode cX8_truth 66 = .ok (.getfield 153, 3) := by decide +kernel
theorem dX8_truth_69 : decode cX8_truth 69 = .ok (.bipush 12, 2) := by decide +kernel
theorem dX8_truth_71 : decode cX8_truth 71 = .ok (.if_icmp .le 10, 3) := by decide +kernel
theorem dX8_truth_74 : decode cX8_truth 74 = .ok (.aload_n 0, 1) := by decide +kernel
theorem dX8_truth_75 : decode cX8_truth 75 = .ok (.bipush (-7), 2) := by decide +kernel
theorem dX8_truth_77 : decode cX8_truth 77 = .ok (.invokevirtual 58, 3) := by decide +kernel
theorem dX8_truth_80 : decode cX8_truth 80 = .ok (.ireturn, 1) := by decide +kernel
theorem dX8_truth_81 : decode cX8_truth 81 = .ok (.aload_n 3, 1) := by decide +kernel
theorem dX8_truth_82 : decode cX8_truth 82 = .ok (.aload_n 0, 1) := by decide +kernel
theorem dX8_truth_83 : decode cX8_truth 83 = .ok (.getfield 11, 3) := by decide +kernel
theorem dX8_truth_86 : decode cX8_truth 86 = .ok (.iload_n 2, 1) := by decide +kernel
theorem dX8_truth_87 : decode cX8_truth 87 = .ok (.aaload, 1) := by decide +kernel
theorem dX8_truth_88 : decode cX8_truth 88 = .ok (.invokevirtual 156, 3) := by decide +kernel
theorem dX8_truth_91 : decode cX8_truth 91 = .ok (.ireturn, 1) := by decide +kernel
theorem dX8_paper_0 : decode cX8_paper 0 = .ok (.aload_n 0, 1) := by decide +kernel
theorem dX8_paper_1 : decode cX8_paper 1 = .ok (.iload_n 1, 1) := by decide +kernel
theorem dX8_paper_2 : decode cX8_paper 2 = .ok (.invokevirtual 139, 3) := by decide +kernel
theorem dX8_paper_5 : decode cX8_paper 5 = .ok (.astore_n 2, 1) := by decide +kernel
theorem dX8_paper_6 : decode cX8_paper 6 = .ok (.aload_n 2, 1) := by decide +kernel
theorem dX8_paper_7 : decode cX8_paper 7 = .ok (.ifnonnull 9, 3) := by decide +kernel
theorem dX8_paper_10 : decode cX8_paper 10 = .ok (.aload_n 0, 1) := by decide +kernel
theorem dX8_paper_11 : decode cX8_paper 11 = .ok (.iconst (-1), 1) := by decide +kernel
theorem dX8_paper_12 : decode cX8_paper 12 = .ok (.invokevirtual 58, 3) := by decide +kernel
theorem dX8_paper_15 : decode cX8_paper 15 = .ok (.ireturn, 1) := by decide +kernel
theorem dX8_paper_16 : decode cX8_paper 16 = .ok (.aload_n 0, 1) := by decide +kernel
theorem dX8_paper_17 : decode cX8_paper 17 = .ok (.getfield 65, 3) := by decide +kernel
theorem dX8_paper_20 : decode cX8_paper 20 = .ok (.ifCond .ne 17, 3) := by decide +kernel
theorem dX8_paper_23 : decode cX8_paper 23 = .ok (.aload_n 2, 1) := by decide +kernel
theorem dX8_paper_24 : decode cX8_paper 24 = .ok (.invokevirtual 160, 3) := by decide +kernel
theorem dX8_paper_27 : decode cX8_paper 27 = .ok (.ifCond .eq 10, 3) := by decide +kernel
theorem dX8_paper_30 : decode cX8_paper 30 = .ok (.aload_n 2, 1) := by decide +kernel
theorem dX8_paper_31 : decode cX8_paper 31 = .ok (.getfield 163, 3) := by decide +kernel
theorem dX8_paper_34 : decode cX8_paper 34 = .ok (.ifCond .eq 10, 3) := by decide +kernel
theorem dX8_paper_37 : decode cX8_paper 37 = .ok (.aload_n 0, 1) := by decide +kernel
theorem dX8_paper_38 : decode cX8_paper 38 = .ok (.bipush (-6), 2) := by decide +kernel
theorem dX8_paper_40 : decode cX8_paper 40 = .ok (.invokevirtual 58, 3) := by decide +kernel
theorem dX8_paper_43 : decode cX8_paper 43 = .ok (.ireturn, 1) := by decide +kernel
theorem dX8_paper_44 : decode cX8_paper 44 = .ok (.aload_n 2, 1) := by decide +kernel
theorem dX8_paper_45 : decode cX8_paper 45 = .ok (.invokevirtual 166, 3) := by decide +kernel
theorem dX8_paper_48 : decode cX8_paper 48 = .ok (.ireturn, 1) := by decide +kernel
theorem dX8_knock_0 : decode cX8_knock 0 = .ok (.aload_n 0, 1) := by decide +kernel
theorem dX8_knock_1 : decode cX8_knock 1 = .ok (.iload_n 1, 1) := by decide +kernel
theorem dX8_knock_2 : decode cX8_knock 2 = .ok (.invokevirtual 139, 3) := by decide +kernel
theorem dX8_knock_5 : decode cX8_knock 5 = .ok (.astore_n 3, 1) := by decide +kernel
theorem dX8_knock_6 : decode cX8_knock 6 = .ok (.aload_n 3, 1) := by decide +kernel
theorem dX8_knock_7 : decode cX8_knock 7 = .ok (.ifnonnull 9, 3) := by decide +kernel
theorem dX8_knock_10 : decode cX8_knock 10 = .ok (.aload_n 0, 1) := by decide +kernel
theorem dX8_knock_11 : decode cX8_knock 11 = .ok (.iconst (-1), 1) := by decide +kernel
theorem dX8_knock_12 : decode cX8_knock 12 = .ok (.invokevirtual 58, 3) := by decide +kernel
theorem dX8_knock_15 : decode cX8_knock 15 = .ok (.ireturn, 1) := by decide +kernel
theorem dX8_knock_16 : decode cX8_knock 16 = .ok (.iload_n 2, 1) := by decide +kernel
theorem dX8_knock_17 : decode cX8_knock 17 = .ok (.ifCond .lt 23, 3) := by decide +kernel
theorem dX8_knock_20 : decode cX8_knock 20 = .ok (.iload_n 2, 1) := by decide +kernel
theorem dX8_knock_21 : decode cX8_knock 21 = .ok (.bipush 10, 2) := by decide +kernel
theorem dX8_knock_23 : decode cX8_knock 23 = .ok (.if_icmp .ge 17, 3) := by decide +kernel
theorem dX8_knock_26 : decode cX8_knock 26 = .ok (.aload_n 0, 1) := by decide +kernel
theorem dX8_knock_27 : decode cX8_knock 27 = .ok (.getfield 65, 3) := by decide +kernel
theorem dX8_knock_30 : decode cX8_knock 30 = .ok (.ifCond .ne 10, 3) := by decide +kernel
theorem dX8_knock_33 : decode cX8_knock 33 = .ok (.aload_n 3, 1) := by decide +kernel
theorem dX8_knock_34 : decode cX8_knock 34 = .ok (.invokevirtual 160, 3) := by decide +kernel
theorem dX8_knock_37 : decode cX8_knock 37 = .ok (.ifCond .ne 10, 3) := by decide +kernel
theorem dX8_knock_40 : decode cX8_knock 40 = .ok (.aload_n 0, 1) := by decide +kernel
theorem dX8_knock_41 : decode cX8_knock 41 = .ok (.bipush (-6), 2) := by decide +kernel
theorem dX8_knock_43 : decode cX8_knock 43 = .ok (.invokevirtual 58, 3) := by decide +kernel
theorem dX8_knock_46 : decode cX8_knock 46 = .ok (.ireturn, 1) := by decide +kernel
theorem dX8_knock_47 : decode cX8_knock 47 = .ok (.aload_n 3, 1) := by decide +kernel
theorem dX8_knock_48 : decode cX8_knock 48 = .ok (.getfield 169, 3) := by decide +kernel
theorem dX8_knock_51 : decode cX8_knock 51 = .ok (.aload_n 0, 1) := by decide +kernel
theorem dX8_knock_52 : decode cX8_knock 52 = .ok (.getfield 28, 3) := by decide +kernel
theorem dX8_knock_55 : decode cX8_knock 55 = .ok (.getfield 172, 3) := by decide +kernel
theorem dX8_knock_58 : decode cX8_knock 58 = .ok (.if_icmp .lt 10, 3) := by decide +kernel
theorem dX8_knock_61 : decode cX8_knock 61 = .ok (.aload_n 0, 1) := by decide +kernel
theorem dX8_knock_62 : decode cX8_knock 62 = .ok (.bipush (-6), 2) := by decide +kernel
theorem dX8_knock_64 : decode cX8_knock 64 = .ok (.invokevirtual 58, 3) := by decide +kernel
theorem dX8_knock_67 : decode cX8_knock 67 = .ok (.ireturn, 1) := by decide +kernel
theorem dX8_knock_68 : decode cX8_knock 68 = .ok (.aload_n 3, 1) := by decide +kernel
theorem dX8_knock_69 : decode cX8_knock 69 = .ok (.iload_n 2, 1) := by decide +kernel
theorem dX8_knock_70 : decode cX8_knock 70 = .ok (.invokevirtual 175, 3) := by decide +kernel
theorem dX8_knock_73 : decode cX8_knock 73 = .ok (.istore 4, 2) := by decide +kernel
theorem dX8_knock_75 : decode cX8_knock 75 = .ok (.aload_n 0, 1) := by decide +kernel
theorem dX8_knock_76 : decode cX8_knock 76 = .ok (.getfield 35, 3) := by decide +kernel
theorem dX8_knock_79 : decode cX8_knock 79 = .ok (.aload_n 3, 1) := by decide +kernel
theorem dX8_knock_80 : decode cX8_knock 80 = .ok (.getfield 178, 3) := by decide +kernel
theorem dX8_knock_83 : decode cX8_knock 83 = .ok (.iload_n 2, 1) := by decide +kernel
theorem dX8_knock_84 : decode cX8_knock 84 = .ok (.iload 4, 2) := by decide +kernel
theorem dX8_knock_86 : decode cX8_knock 86 = .ok (.invokevirtual 181, 3) := by decide +kernel
theorem dX8_knock_89 : decode cX8_knock 89 = .ok (.iload 4, 2) := by decide +kernel
theorem dX8_knock_91 : decode cX8_knock 91 = .ok (.ifCond .eq 7, 3) := by decide +kernel
theorem dX8_knock_94 : decode cX8_knock 94 = .ok (.iconst 1, 1) := by decide +kernel
theorem dX8_knock_95 : decode cX8_knock 95 = .ok (.goto 4, 3) := by decide +kernel
theorem dX8_knock_98 : decode cX8_knock 98 = .ok (.iconst 0, 1) := by decide +kernel
theorem dX8_knock_99 : decode cX8_knock 99 = .ok (.ireturn, 1) := by decide +kernel
theorem dX8_proxy_0 : decode cX8_proxy 0 = .ok (.aload_n 0, 1) := by decide +kernel
theorem dX8_proxy_1 : decode cX8_proxy 1 = .ok (.iload_n 1, 1) := by decide +kernel
theorem dX8_proxy_2 : decode cX8_proxy 2 = .ok (.invokevirtual 139, 3) := by decide +kernel
theorem dX8_proxy_5 : decode cX8_proxy 5 = .ok (.astore_n 3, 1) := by decide +kernel
theorem dX8_proxy_6 : decode cX8_proxy 6 = .ok (.aload_n 3, 1) := by decide +kernel
theorem dX8_proxy_7 : decode cX8_proxy 7 = .ok (.ifnonnull 9, 3) := by decide +kernel
theorem dX8_proxy_10 : decode cX8_proxy 10 = .ok (.aload_n 0, 1) := by decide +kernel
theorem dX8_proxy_11 : decode cX8_proxy 11 = .ok (.iconst (-1), 1) := by decide +kernel
theorem dX8_proxy_12 : decode cX8_proxy 12 = .ok (.invokevirtual 58, 3) := by decide +kernel
theorem dX8_proxy_15 : decode cX8_proxy 15 = .ok (.ireturn, 1) := by decide +kernel
theorem dX8_proxy_16 : decode cX8_proxy 16 = .ok (.iload_n 2, 1) := by decide +kernel
theorem dX8_proxy_17 : decode cX8_proxy 17 = .ok (.ifCond .lt 23, 3) := by decide +kernel
theorem dX8_proxy_20 : decode cX8_proxy 20 = .ok (.iload_n 2, 1) := by decide +kernel
theorem dX8_proxy_21 : decode cX8_proxy 21 = .ok (.bipush 12, 2) := by decide +kernel
theorem dX8_proxy_23 : decode cX8_proxy 23 = .ok (.if_icmp .gt 17, 3) := by decide +kernel
theorem dX8_proxy_26 : decode cX8_proxy 26 = .ok (.aload_n 0, 1) := by decide +kernel
theorem dX8_proxy_27 : decode cX8_proxy 27 = .ok (.getfield 65, 3) := by decide +kernel
theorem dX8_proxy_30 : decode cX8_proxy 30 = .ok (.ifCond .ne 10, 3) := by decide +kernel
theorem dX8_proxy_33 : decode cX8_proxy 33 = .ok (.aload_n 3, 1) := by decide +kernel
theorem dX8_proxy_34 : decode cX8_proxy 34 = .ok (.invokevirtual 160, 3) := by decide +kernel
theorem dX8_proxy_37 : decode cX8_proxy 37 = .ok (.ifCond .ne 10, 3) := by decide +kernel
theorem dX8_proxy_40 : decode cX8_proxy 40 = .ok (.aload_n 0, 1) := by decide +kernel
theorem dX8_proxy_41 : decode cX8_proxy 41 = .ok (.bipush (-6), 2) := by decide +kernel
theorem dX8_proxy_43 : decode cX8_proxy 43 = .ok (.invokevirtual 58, 3) := by decide +kernel
theorem dX8_proxy_46 : decode cX8_proxy 46 = .ok (.ireturn, 1) := by decide +kernel
theorem dX8_proxy_47 : decode cX8_proxy 47 = .ok (.aload_n 3, 1) := by decide +kernel
theorem dX8_proxy_48 : decode cX8_proxy 48 = .ok (.getfield 185, 3) := by decide +kernel
theorem dX8_proxy_51 : decode cX8_proxy 51 = .ok (.iconst 3, 1) := by decide +kernel
theorem dX8_proxy_52 : decode cX8_proxy 52 = .ok (.if_icmp .eq 17, 3) := by decide +kernel
theorem dX8_proxy_55 : decode cX8_proxy 55 = .ok (.aload_n 3, 1) := by decide +kernel
theorem dX8_proxy_56 : decode cX8_proxy 56 = .ok (.getfield 169, 3) := by decide +kernel
theorem dX8_proxy_59 : decode cX8_proxy 59 = .ok (.aload_n 0, 1) := by decide +kernel
theorem dX8_proxy_60 : decode cX8_proxy 60 = .ok (.getfield 28, 3) := by decide +kernel
theorem dX8_proxy_63 : decode cX8_proxy 63 = .ok (.getfield 188, 3) := by decide +kernel
theorem dX8_proxy_66 : decode cX8_proxy 66 = .ok (.if_icmp .ge 10, 3) := by decide +kernel
theorem dX8_proxy_69 : decode cX8_proxy 69 = .ok (.aload_n 0, 1) := by decide +kernel
theorem dX8_proxy_70 : decode cX8_proxy 70 = .ok (.bipush (-6), 2) := by decide +kernel
theorem dX8_proxy_72 : decode cX8_proxy 72 = .ok (.invokevirtual 58, 3) := by decide +kernel
theorem dX8_proxy_75 : decode cX8_proxy 75 = .ok (.ireturn, 1) := by decide +kernel
theorem dX8_proxy_76 : decode cX8_proxy 76 = .ok (.aload_n 3, 1) := by decide +kernel
theorem dX8_proxy_77 : decode cX8_proxy 77 = .ok (.iload_n 2, 1) := by decide +kernel
theorem dX8_proxy_78 : decode cX8_proxy 78 = .ok (.invokevirtual 191, 3) := by decide +kernel
theorem dX8_proxy_81 : decode cX8_proxy 81 = .ok (.iload_n 2, 1) := by decide +kernel
theorem dX8_proxy_82 : decode cX8_proxy 82 = .ok (.ireturn, 1) := by decide +kernel
theorem dX8_twice_0 : decode cX8_twice 0 = .ok (.aload_n 0, 1) := by decide +kernel
theorem dX8_twice_1 : decode cX8_twice 1 = .ok (.iload_n 1, 1) := by decide +kernel
theorem dX8_twice_2 : decode cX8_twice 2 = .ok (.invokevirtual 139, 3) := by decide +kernel
theorem dX8_twice_5 : decode cX8_twice 5 = .ok (.astore 5, 2) := by decide +kernel
theorem dX8_twice_7 : decode cX8_twice 7 = .ok (.aload_n 0, 1) := by decide +kernel
theorem dX8_twice_8 : decode cX8_twice 8 = .ok (.iload_n 3, 1) := by decide +kernel
theorem dX8_twice_9 : decode cX8_twice 9 = .ok (.invokevirtual 139, 3) := by decide +kernel
theorem dX8_twice_12 : decode cX8_twice 12 = .ok (.astore 6, 2) := by decide +kernel
theorem dX8_twice_14 : decode cX8_twice 14 = .ok (.aload 5, 2) := by decide +kernel
theorem dX8_twice_16 : decode cX8_twice 16 = .ok (.ifnull 8, 3) := by decide +kernel
theorem dX8_twice_19 : decode cX8_twice 19 = .ok (.aload 6, 2) := by decide +kernel
theorem dX8_twice_21 : decode cX8_twice 21 = .ok (.ifnonnull 9, 3) := by decide +kernel
theorem dX8_twice_24 : decode cX8_twice 24 = .ok (.aload_n 0, 1) := by decide +kernel
theorem dX8_twice_25 : decode cX8_twice 25 = .ok (.iconst (-1), 1) := by decide +kernel
theorem dX8_twice_26 : decode cX8_twice 26 = .ok (.invokevirtual 58, 3) := by decide +kernel
theorem dX8_twice_29 : decode cX8_twice 29 = .ok (.ireturn, 1) := by decide +kernel
theorem dX8_twice_30 : decode cX8_twice 30 = .ok (.aload 5, 2) := by decide +kernel
theorem dX8_twice_32 : decode cX8_twice 32 = .ok (.iload_n 2, 1) := by decide +kernel
theorem dX8_twice_33 : decode cX8_twice 33 = .ok (.invokevirtual 194, 3) := by decide +kernel
theorem dX8_twice_36 : decode cX8_twice 36 = .ok (.ifCond .eq 13, 3) := by decide +kernel
theorem dX8_twice_39 : decode cX8_twice 39 = .ok (.aload 6, 2) := by decide +kernel
theorem dX8_twice_41 : decode cX8_twice 41 = .ok (.iload 4, 2) := by decide +kernel
theorem dX8_twice_43 : decode cX8_twice 43 = .ok (.invokevirtual 194, 3) := by decide +kernel
theorem dX8_twice_46 : decode cX8_twice 46 = .ok (.ifCond .ne 10, 3) := by decide +kernel
theorem dX8_twice_49 : decode cX8_twice 49 = .ok (.aload_n 0, 1) := by decide +kernel
theorem dX8_twice_50 : decode cX8_twice 50 = .ok (.bipush (-5), 2) := by decide +kernel
theorem dX8_twice_52 : decode cX8_twice 52 = .ok (.invokevirtual 58, 3) := by decide +kernel
theorem dX8_twice_55 : decode cX8_twice 55 = .ok (.ireturn, 1) := by decide +kernel
theorem dX8_twice_56 : decode cX8_twice 56 = .ok (.iload_n 1, 1) := by decide +kernel
theorem dX8_twice_57 : decode cX8_twice 57 = .ok (.iload_n 3, 1) := by decide +kernel
theorem dX8_twice_58 : decode cX8_twice 58 = .ok (.if_icmp .eq 22, 3) := by decide +kernel
theorem dX8_twice_61 : decode cX8_twice 61 = .ok (.aload 5, 2) := by decide +kernel
theorem dX8_twice_63 : decode cX8_twice 63 = .ok (.iload_n 2, 1) := by decide +kernel
theorem dX8_twice_64 : decode cX8_twice 64 = .ok (.invokevirtual 197, 3) := by decide +kernel
theorem dX8_twice_67 : decode cX8_twice 67 = .ok (.ifCond .ne 13, 3) := by decide +kernel
theorem dX8_twice_70 : decode cX8_twice 70 = .ok (.aload 6, 2) := by decide +kernel
theorem dX8_twice_72 : decode cX8_twice 72 = .ok (.iload 4, 2) := by decide +kernel
theorem dX8_twice_74 : decode cX8_twice 74 = .ok (.invokevirtual 197, 3) := by decide +kernel
theorem dX8_twice_77 : decode cX8_twice 77 = .ok (.ifCond .eq 10, 3) := by decide +kernel
theorem dX8_twice_80 : decode cX8_twice 80 = .ok (.aload_n 0, 1) := by decide +kernel
theorem dX8_twice_81 : decode cX8_twice 81 = .ok (.bipush (-6), 2) := by decide +kernel
theorem dX8_twice_83 : decode cX8_twice 83 = .ok (.invokevirtual 58, 3) := by decide +kernel
theorem dX8_twice_86 : decode cX8_twice 86 = .ok (.ireturn, 1) := by decide +kernel
theorem dX8_twice_87 : decode cX8_twice 87 = .ok (.aload 5, 2) := by decide +kernel
theorem dX8_twice_89 : decode cX8_twice 89 = .ok (.getfield 185, 3) := by decide +kernel
theorem dX8_twice_92 : decode cX8_twice 92 = .ok (.iconst 4, 1) := by decide +kernel
theorem dX8_twice_93 : decode cX8_twice 93 = .ok (.if_icmp .eq 12, 3) := by decide +kernel
theorem dX8_twice_96 : decode cX8_twice 96 = .ok (.aload 6, 2) := by decide +kernel
theorem dX8_twice_98 : decode cX8_twice 98 = .ok (.getfield 185, 3) := by decide +kernel
theorem dX8_twice_101 : decode cX8_twice 101 = .ok (.iconst 4, 1) := by decide +kernel
theorem dX8_twice_102 : decode cX8_twice 102 = .ok (.if_icmp .ne 10, 3) := by decide +kernel
theorem dX8_twice_105 : decode cX8_twice 105 = .ok (.aload_n 0, 1) := by decide +kernel
theorem dX8_twice_106 : decode cX8_twice 106 = .ok (.bipush (-6), 2) := by decide +kernel
theorem dX8_twice_108 : decode cX8_twice 108 = .ok (.invokevirtual 58, 3) := by decide +kernel
theorem dX8_twice_111 : decode cX8_twice 111 = .ok (.ireturn, 1) := by decide +kernel
theorem dX8_twice_112 : decode cX8_twice 112 = .ok (.iload_n 1, 1) := by decide +kernel
theorem dX8_twice_113 : decode cX8_twice 113 = .ok (.iload_n 3, 1) := by decide +kernel
theorem dX8_twice_114 : decode cX8_twice 114 = .ok (.if_icmp .le 11, 3) := by decide +kernel
theorem dX8_twice_117 : decode cX8_twice 117 = .ok (.aload 5, 2) := by decide +kernel
theorem dX8_twice_119 : decode cX8_twice 119 = .ok (.iload_n 2, 1) := by decide +kernel
theorem dX8_twice_120 : decode cX8_twice 120 = .ok (.invokevirtual 200, 3) := by decide +kernel
theorem dX8_twice_123 : decode cX8_twice 123 = .ok (.iload_n 1, 1) := by decide +kernel
theorem dX8_twice_124 : decode cX8_twice 124 = .ok (.ireturn, 1) := by decide +kernel
theorem dX8_twice_125 : decode cX8_twice 125 = .ok (.aload 6, 2) := by decide +kernel
theorem dX8_twice_127 : decode cX8_twice 127 = .ok (.iload 4, 2) := by decide +kernel
theorem dX8_twice_129 : decode cX8_twice 129 = .ok (.invokevirtual 200, 3) := by decide +kernel
theorem dX8_twice_132 : decode cX8_twice 132 = .ok (.iload_n 3, 1) := by decide +kernel
theorem dX8_twice_133 : decode cX8_twice 133 = .ok (.ireturn, 1) := by decide +kernel
theorem dX8_fill_0 : decode cX8_fill 0 = .ok (.aload_n 0, 1) := by decide +kernel
theorem dX8_fill_1 : decode cX8_fill 1 = .ok (.getfield 65, 3) := by decide +kernel
theorem dX8_fill_4 : decode cX8_fill 4 = .ok (.ifCond .eq 10, 3) := by decide +kernel
theorem dX8_fill_7 : decode cX8_fill 7 = .ok (.aload_n 0, 1) := by decide +kernel
theorem dX8_fill_8 : decode cX8_fill 8 = .ok (.bipush (-6), 2) := by decide +kernel
theorem dX8_fill_10 : decode cX8_fill 10 = .ok (.invokevirtual 58, 3) := by decide +kernel
theorem dX8_fill_13 : decode cX8_fill 13 = .ok (.ireturn, 1) := by decide +kernel
theorem dX8_fill_14 : decode cX8_fill 14 = .ok (.aload_n 0, 1) := by decide +kernel
theorem dX8_fill_15 : decode cX8_fill 15 = .ok (.iconst 1, 1) := by decide +kernel
theorem dX8_fill_16 : decode cX8_fill 16 = .ok (.putfield 65, 3) := by decide +kernel
theorem dX8_fill_19 : decode cX8_fill 19 = .ok (.iconst 0, 1) := by decide +kernel
theorem dX8_fill_20 : decode cX8_fill 20 = .ok (.istore_n 1, 1) := by decide +kernel
theorem dX8_fill_21 : decode cX8_fill 21 = .ok (.iconst 0, 1) := by decide +kernel
theorem dX8_fill_22 : decode cX8_fill 22 = .ok (.istore_n 2, 1) := by decide +kernel
theorem dX8_fill_23 : decode cX8_fill 23 = .ok (.iload_n 2, 1) := by decide +kernel
theorem dX8_fill_24 : decode cX8_fill 24 = .ok (.aload_n 0, 1) := by decide +kernel
theorem dX8_fill_25 : decode cX8_fill 25 = .ok (.getfield 69, 3) := by decide +kernel
theorem dX8_fill_28 : decode cX8_fill 28 = .ok (.if_icmp .ge 32, 3) := by decide +kernel
theorem dX8_fill_31 : decode cX8_fill 31 = .ok (.aload_n 0, 1) := by decide +kernel
theorem dX8_fill_32 : decode cX8_fill 32 = .ok (.getfield 17, 3) := by decide +kernel
theorem dX8_fill_35 : decode cX8_fill 35 = .ok (.iload_n 2, 1) := by decide +kernel
theorem dX8_fill_36 : decode cX8_fill 36 = .ok (.aaload, 1) := by decide +kernel
theorem dX8_fill_37 : decode cX8_fill 37 = .ok (.getfield 185, 3) := by decide +kernel
theorem dX8_fill_40 : decode cX8_fill 40 = .ok (.ifCond .ne 14, 3) := by decide +kernel
theorem dX8_fill_43 : decode cX8_fill 43 = .ok (.aload_n 0, 1) := by decide +kernel
theorem dX8_fill_44 : decode cX8_fill 44 = .ok (.iload_n 2, 1) := by decide +kernel
theorem dX8_fill_45 : decode cX8_fill 45 = .ok (.invokevirtual 203, 3) := by decide +kernel
theorem dX8_fill_48 : decode cX8_fill 48 = .ok (.ifCond .eq 6, 3) := by decide +kernel
theorem dX8_fill_51 : decode cX8_fill 51 = .ok (.iinc 1 1, 3) := by decide +kernel
theorem dX8_fill_54 : decode cX8_fill 54 = .ok (.iinc 2 1, 3) := by decide +kernel
theorem dX8_fill_57 : decode cX8_fill 57 = .ok (.goto (-34), 3) := by decide +kernel
theorem dX8_fill_60 : decode cX8_fill 60 = .ok (.iload_n 1, 1) := by decide +kernel
theorem dX8_fill_61 : decode cX8_fill 61 = .ok (.ireturn, 1) := by decide +kernel
theorem dX8_from_0 : decode cX8_from 0 = .ok (.aload_n 0, 1) := by decide +kernel
theorem dX8_from_1 : decode cX8_from 1 = .ok (.iload_n 1, 1) := by decide +kernel
theorem dX8_from_2 : decode cX8_from 2 = .ok (.invokevirtual 139, 3) := by decide +kernel
theorem dX8_from_5 : decode cX8_from 5 = .ok (.astore_n 2, 1) := by decide +kernel
theorem dX8_from_6 : decode cX8_from 6 = .ok (.aload_n 2, 1) := by decide +kernel
theorem dX8_from_7 : decode cX8_from 7 = .ok (.ifnonnull 7, 3) := by decide +kernel
theorem dX8_from_10 : decode cX8_from 10 = .ok (.iconst (-1), 1) := by decide +kernel
theorem dX8_from_11 : decode cX8_from 11 = .ok (.goto 7, 3) := by decide +kernel
theorem dX8_from_14 : decode cX8_from 14 = .ok (.aload_n 2, 1) := by decide +kernel
theorem dX8_from_15 : decode cX8_from 15 = .ok (.getfield 206, 3) := by decide +kernel
theorem dX8_from_18 : decode cX8_from 18 = .ok (.ireturn, 1) := by decide +kernel
theorem dX8_about_0 : decode cX8_about 0 = .ok (.aload_n 0, 1) := by decide +kernel
theorem dX8_about_1 : decode cX8_about 1 = .ok (.iload_n 1, 1) := by decide +kernel
theorem dX8_about_2 : decode cX8_about 2 = .ok (.invokevirtual 139, 3) := by decide +kernel
theorem dX8_about_5 : decode cX8_about 5 = .ok (.astore_n 3, 1) := by decide +kernel
theorem dX8_about_6 : decode cX8_about 6 = .ok (.aload_n 3, 1) := by decide +kernel
theorem dX8_about_7 : decode cX8_about 7 = .ok (.ifnonnull 7, 3) := by decide +kernel
theorem dX8_about_10 : decode cX8_about 10 = .ok (.iconst (-1), 1) := by decide +kernel
theorem dX8_about_11 : decode cX8_about 11 = .ok (.goto 8, 3) := by decide +kernel
theorem dX8_about_14 : decode cX8_about 14 = .ok (.aload_n 3, 1) := by decide +kernel
theorem dX8_about_15 : decode cX8_about 15 = .ok (.iload_n 2, 1) := by decide +kernel
theorem dX8_about_16 : decode cX8_about 16 = .ok (.invokevirtual 209, 3) := by decide +kernel
theorem dX8_about_19 : decode cX8_about 19 = .ok (.ireturn, 1) := by decide +kernel
theorem dX8_age_0 : decode cX8_age 0 = .ok (.aload_n 0, 1) := by decide +kernel
theorem dX8_age_1 : decode cX8_age 1 = .ok (.iload_n 1, 1) := by decide +kernel
theorem dX8_age_2 : decode cX8_age 2 = .ok (.invokevirtual 139, 3) := by decide +kernel
theorem dX8_age_5 : decode cX8_age 5 = .ok (.astore_n 3, 1) := by decide +kernel
theorem dX8_age_6 : decode cX8_age 6 = .ok (.aload_n 3, 1) := by decide +kernel
theorem dX8_age_7 : decode cX8_age 7 = .ok (.ifnull 11, 3) := by decide +kernel
theorem dX8_age_10 : decode cX8_age 10 = .ok (.aload_n 3, 1) := by decide +kernel
theorem dX8_age_11 : decode cX8_age 11 = .ok (.iload_n 2, 1) := by decide +kernel
theorem dX8_age_12 : decode cX8_age 12 = .ok (.invokevirtual 194, 3) := by decide +kernel
theorem dX8_age_15 : decode cX8_age 15 = .ok (.ifCond .ne 7, 3) := by decide +kernel
theorem dX8_age_18 : decode cX8_age 18 = .ok (.iconst (-1), 1) := by decide +kernel
theorem dX8_age_19 : decode cX8_age 19 = .ok (.goto 9, 3) := by decide +kernel
theorem dX8_age_22 : decode cX8_age 22 = .ok (.aload_n 3, 1) := by decide +kernel
theorem dX8_age_23 : decode cX8_age 23 = .ok (.getfield 212, 3) := by decide +kernel
theorem dX8_age_26 : decode cX8_age 26 = .ok (.iload_n 2, 1) := by decide +kernel
theorem dX8_age_27 : decode cX8_age 27 = .ok (.iaload, 1) := by decide +kernel
theorem dX8_age_28 : decode cX8_age 28 = .ok (.ireturn, 1) := by decide +kernel
theorem dX8_count_0 : decode cX8_count 0 = .ok (.iload_n 1, 1) := by decide +kernel
theorem dX8_count_1 : decode cX8_count 1 = .ok (.invokestatic 54, 3) := by decide +kernel
theorem dX8_count_4 : decode cX8_count 4 = .ok (.ifCond .eq 12, 3) := by decide +kernel
theorem dX8_count_7 : decode cX8_count 7 = .ok (.iload_n 2, 1) := by decide +kernel
theorem dX8_count_8 : decode cX8_count 8 = .ok (.ifCond .lt 8, 3) := by decide +kernel
theorem dX8_count_11 : decode cX8_count 11 = .ok (.iload_n 2, 1) := by decide +kernel
theorem dX8_count_12 : decode cX8_count 12 = .ok (.iconst 4, 1) := by decide +kernel
theorem dX8_count_13 : decode cX8_count 13 = .ok (.if_icmp .lt 5, 3) := by decide +kernel
theorem dX8_count_16 : decode cX8_count 16 = .ok (.iconst (-1), 1) := by decide +kernel
theorem dX8_count_17 : decode cX8_count 17 = .ok (.ireturn, 1) := by decide +kernel
theorem dX8_count_18 : decode cX8_count 18 = .ok (.iconst 0, 1) := by decide +kernel
theorem dX8_count_19 : decode cX8_count 19 = .ok (.istore 4, 2) := by decide +kernel
theorem dX8_count_21 : decode cX8_count 21 = .ok (.iconst 0, 1) := by decide +kernel
theorem dX8_count_22 : decode cX8_count 22 = .ok (.istore 5, 2) := by decide +kernel
theorem dX8_count_24 : decode cX8_count 24 = .ok (.iload 5, 2) := by decide +kernel
theorem dX8_count_26 : decode cX8_count 26 = .ok (.aload_n 0, 1) := by decide +kernel
theorem dX8_count_27 : decode cX8_count 27 = .ok (.getfield 69, 3) := by decide +kernel
theorem dX8_count_30 : decode cX8_count 30 = .ok (.if_icmp .ge 51, 3) := by decide +kernel
theorem dX8_count_33 : decode cX8_count 33 = .ok (.aload_n 0, 1) := by decide +kernel
theorem dX8_count_34 : decode cX8_count 34 = .ok (.getfield 17, 3) := by decide +kernel
theorem dX8_count_37 : decode cX8_count 37 = .ok (.iload 5, 2) := by decide +kernel
theorem dX8_count_39 : decode cX8_count 39 = .ok (.aaload, 1) := by decide +kernel
theorem dX8_count_40 : decode cX8_count 40 = .ok (.astore 6, 2) := by decide +kernel
theorem dX8_count_42 : decode cX8_count 42 = .ok (.aload 6, 2) := by decide +kernel
theorem dX8_count_44 : decode cX8_count 44 = .ok (.getfield 143, 3) := by decide +kernel
theorem dX8_count_47 : decode cX8_count 47 = .ok (.iload_n 1, 1) := by decide +kernel
theorem dX8_count_48 : decode cX8_count 48 = .ok (.if_icmp .ne 27, 3) := by decide +kernel
theorem dX8_count_51 : decode cX8_count 51 = .ok (.iload_n 3, 1) := by decide +kernel
theorem dX8_count_52 : decode cX8_count 52 = .ok (.ifCond .ne 12, 3) := by decide +kernel
theorem dX8_count_55 : decode cX8_count 55 = .ok (.aload 6, 2) := by decide +kernel
theorem dX8_count_57 : decode cX8_count 57 = .ok (.getfield 185, 3) := by decide +kernel
theorem dX8_count_60 : decode cX8_count 60 = .ok (.iconst 4, 1) := by decide +kernel
theorem dX8_count_61 : decode cX8_count 61 = .ok (.if_icmp .eq 14, 3) := by decide +kernel
theorem dX8_count_64 : decode cX8_count 64 = .ok (.iload 4, 2) := by decide +kernel
theorem dX8_count_66 : decode cX8_count 66 = .ok (.aload 6, 2) := by decide +kernel
theorem dX8_count_68 : decode cX8_count 68 = .ok (.iload_n 2, 1) := by decide +kernel
theorem dX8_count_69 : decode cX8_count 69 = .ok (.invokevirtual 215, 3) := by decide +kernel
theorem dX8_count_72 : decode cX8_count 72 = .ok (.iadd, 1) := by decide +kernel
theorem dX8_count_73 : decode cX8_count 73 = .ok (.istore 4, 2) := by decide +kernel
theorem dX8_count_75 : decode cX8_count 75 = .ok (.iinc 5 1, 3) := by decide +kernel
theorem dX8_count_78 : decode cX8_count 78 = .ok (.goto (-54), 3) := by decide +kernel
theorem dX8_count_81 : decode cX8_count 81 = .ok (.iload 4, 2) := by decide +kernel
theorem dX8_count_83 : decode cX8_count 83 = .ok (.ireturn, 1) := by decide +kernel
theorem dX8_bestHour_0 : decode cX8_bestHour 0 = .ok (.iload_n 1, 1) := by decide +kernel
theorem dX8_bestHour_1 : decode cX8_bestHour 1 = .ok (.invokestatic 62, 3) := by decide +kernel
theorem dX8_bestHour_4 : decode cX8_bestHour 4 = .ok (.ifCond .eq 14, 3) := by decide +kernel
theorem dX8_bestHour_7 : decode cX8_bestHour 7 = .ok (.aload_n 0, 1) := by decide +kernel
theorem dX8_bestHour_8 : decode cX8_bestHour 8 = .ok (.getfield 35, 3) := by decide +kernel
theorem dX8_bestHour_11 : decode cX8_bestHour 11 = .ok (.iload_n 1, 1) := by decide +kernel
theorem dX8_bestHour_12 : decode cX8_bestHour 12 = .ok (.invokevirtual 218, 3) := by decide +kernel
theorem dX8_bestHour_15 : decode cX8_bestHour 15 = .ok (.goto 4, 3) := by decide +kernel
theorem dX8_bestHour_18 : decode cX8_bestHour 18 = .ok (.iconst (-1), 1) := by decide +kernel
theorem dX8_bestHour_19 : decode cX8_bestHour 19 = .ok (.ireturn, 1) := by decide +kernel
theorem dX8_cut_0 : decode cX8_cut 0 = .ok (.iload_n 1, 1) := by decide +kernel
theorem dX8_cut_1 : decode cX8_cut 1 = .ok (.ifCond .lt 9, 3) := by decide +kernel
theorem dX8_cut_4 : decode cX8_cut 4 = .ok (.iload_n 1, 1) := by decide +kernel
theorem dX8_cut_5 : decode cX8_cut 5 = .ok (.bipush 24, 2) := by decide +kernel
theorem dX8_cut_7 : decode cX8_cut 7 = .ok (.if_icmp .le 10, 3) := by decide +kernel
theorem dX8_cut_10 : decode cX8_cut 10 = .ok (.aload_n 0, 1) := by decide +kernel
theorem dX8_cut_11 : decode cX8_cut 11 = .ok (.bipush (-6), 2) := by decide +kernel
theorem dX8_cut_13 : decode cX8_cut 13 = .ok (.invokevirtual 58, 3) := by decide +kernel
theorem dX8_cut_16 : decode cX8_cut 16 = .ok (.ireturn, 1) := by decide +kernel
theorem dX8_cut_17 : decode cX8_cut 17 = .ok (.aload_n 0, 1) := by decide +kernel
theorem dX8_cut_18 : decode cX8_cut 18 = .ok (.getfield 42, 3) := by decide +kernel
theorem dX8_cut_21 : decode cX8_cut 21 = .ok (.invokevirtual 221, 3) := by decide +kernel
theorem dX8_cut_24 : decode cX8_cut 24 = .ok (.iconst 0, 1) := by decide +kernel
theorem dX8_cut_25 : decode cX8_cut 25 = .ok (.istore_n 2, 1) := by decide +kernel
theorem dX8_cut_26 : decode cX8_cut 26 = .ok (.iload_n 2, 1) := by decide +kernel
theorem dX8_cut_27 : decode cX8_cut 27 = .ok (.aload_n 0, 1) := by decide +kernel
theorem dX8_cut_28 : decode cX8_cut 28 = .ok (.getfield 69, 3) := by decide +kernel
theorem dX8_cut_31 : decode cX8_cut 31 = .ok (.if_icmp .ge 34, 3) := by decide +kernel
theorem dX8_cut_34 : decode cX8_cut 34 = .ok (.aload_n 0, 1) := by decide +kernel
theorem dX8_cut_35 : decode cX8_cut 35 = .ok (.getfield 42, 3) := by decide +kernel
theorem dX8_cut_38 : decode cX8_cut 38 = .ok (.aload_n 0, 1) := by decide +kernel
theorem dX8_cut_39 : decode cX8_cut 39 = .ok (.getfield 17, 3) := by decide +kernel
theorem dX8_cut_42 : decode cX8_cut 42 = .ok (.iload_n 2, 1) := by decide +kernel
theorem dX8_cut_43 : decode cX8_cut 43 = .ok (.aaload, 1) := by decide +kernel
theorem dX8_cut_44 : decode cX8_cut 44 = .ok (.getfield 143, 3) := by decide +kernel
theorem dX8_cut_47 : decode cX8_cut 47 = .ok (.aload_n 0, 1) := by decide +kernel
theorem dX8_cut_48 : decode cX8_cut 48 = .ok (.getfield 17, 3) := by decide +kernel
theorem dX8_cut_51 : decode cX8_cut 51 = .ok (.iload_n 2, 1) := by decide +kernel
theorem dX8_cut_52 : decode cX8_cut 52 = .ok (.aaload, 1) := by decide +kernel
theorem dX8_cut_53 : decode cX8_cut 53 = .ok (.invokevirtual 160, 3) := by decide +kernel
theorem dX8_cut_56 : decode cX8_cut 56 = .ok (.invokevirtual 224, 3) := by decide +kernel
theorem dX8_cut_59 : decode cX8_cut 59 = .ok (.iinc 2 1, 3) := by decide +kernel
theorem dX8_cut_62 : decode cX8_cut 62 = .ok (.goto (-36), 3) := by decide +kernel
theorem dX8_cut_65 : decode cX8_cut 65 = .ok (.aload_n 0, 1) := by decide +kernel
theorem dX8_cut_66 : decode cX8_cut 66 = .ok (.getfield 42, 3) := by decide +kernel
theorem dX8_cut_69 : decode cX8_cut 69 = .ok (.iload_n 1, 1) := by decide +kernel
theorem dX8_cut_70 : decode cX8_cut 70 = .ok (.invokevirtual 228, 3) := by decide +kernel
theorem dX8_cut_73 : decode cX8_cut 73 = .ok (.istore_n 2, 1) := by decide +kernel
theorem dX8_cut_74 : decode cX8_cut 74 = .ok (.iload_n 2, 1) := by decide +kernel
theorem dX8_cut_75 : decode cX8_cut 75 = .ok (.iconst (-1), 1) := by decide +kernel
theorem dX8_cut_76 : decode cX8_cut 76 = .ok (.if_icmp .ne 12, 3) := by decide +kernel
theorem dX8_cut_79 : decode cX8_cut 79 = .ok (.aload_n 0, 1) := by decide +kernel
theorem dX8_cut_80 : decode cX8_cut 80 = .ok (.bipush (-6), 2) := by decide +kernel
theorem dX8_cut_82 : decode cX8_cut 82 = .ok (.invokevirtual 58, 3) := by decide +kernel
theorem dX8_cut_85 : decode cX8_cut 85 = .ok (.goto 4, 3) := by decide +kernel
theorem dX8_cut_88 : decode cX8_cut 88 = .ok (.iload_n 2, 1) := by decide +kernel
theorem dX8_cut_89 : decode cX8_cut 89 = .ok (.ireturn, 1) := by decide +kernel
theorem dX8_walk_0 : decode cX8_walk 0 = .ok (.iload_n 1, 1) := by decide +kernel
theorem dX8_walk_1 : decode cX8_walk 1 = .ok (.invokestatic 54, 3) := by decide +kernel
theorem dX8_walk_4 : decode cX8_walk 4 = .ok (.ifCond .eq 14, 3) := by decide +kernel
theorem dX8_walk_7 : decode cX8_walk 7 = .ok (.aload_n 0, 1) := by decide +kernel
theorem dX8_walk_8 : decode cX8_walk 8 = .ok (.getfield 42, 3) := by decide +kernel
theorem dX8_walk_11 : decode cX8_walk 11 = .ok (.iload_n 1, 1) := by decide +kernel
theorem dX8_walk_12 : decode cX8_walk 12 = .ok (.invokevirtual 231, 3) := by decide +kernel
theorem dX8_walk_15 : decode cX8_walk 15 = .ok (.goto 4, 3) := by decide +kernel
theorem dX8_walk_18 : decode cX8_walk 18 = .ok (.iconst (-1), 1) := by decide +kernel
theorem dX8_walk_19 : decode cX8_walk 19 = .ok (.ireturn, 1) := by decide +kernel
theorem dX8_second_0 : decode cX8_second 0 = .ok (.iload_n 1, 1) := by decide +kernel
theorem dX8_second_1 : decode cX8_second 1 = .ok (.invokestatic 54, 3) := by decide +kernel
theorem dX8_second_4 : decode cX8_second 4 = .ok (.ifCond .eq 10, 3) := by decide +kernel
theorem dX8_second_7 : decode cX8_second 7 = .ok (.iload_n 2, 1) := by decide +kernel
theorem dX8_second_8 : decode cX8_second 8 = .ok (.invokestatic 80, 3) := by decide +kernel
theorem dX8_second_11 : decode cX8_second 11 = .ok (.ifCond .ne 9, 3) := by decide +kernel
theorem dX8_second_14 : decode cX8_second 14 = .ok (.aload_n 0, 1) := by decide +kernel
theorem dX8_second_15 : decode cX8_second 15 = .ok (.iconst (-1), 1) := by decide +kernel
theorem dX8_second_16 : decode cX8_second 16 = .ok (.invokevirtual 58, 3) := by decide +kernel
theorem dX8_second_19 : decode cX8_second 19 = .ok (.ireturn, 1) := by decide +kernel
theorem dX8_second_20 : decode cX8_second 20 = .ok (.aload_n 0, 1) := by decide +kernel
theorem dX8_second_21 : decode cX8_second 21 = .ok (.getfield 11, 3) := by decide +kernel
theorem dX8_second_24 : decode cX8_second 24 = .ok (.iload_n 2, 1) := by decide +kernel
theorem dX8_second_25 : decode cX8_second 25 = .ok (.aaload, 1) := by decide +kernel
theorem dX8_second_26 : decode cX8_second 26 = .ok (.astore_n 3, 1) := by decide +kernel
theorem dX8_second_27 : decode cX8_second 27 = .ok (.aload_n 3, 1) := by decide +kernel
theorem dX8_second_28 : decode cX8_second 28 = .ok (.invokevirtual 87, 3) := by decide +kernel
theorem dX8_second_31 : decode cX8_second 31 = .ok (.istore 4, 2) := by decide +kernel
theorem dX8_second_33 : decode cX8_second 33 = .ok (.iload 4, 2) := by decide +kernel
theorem dX8_second_35 : decode cX8_second 35 = .ok (.ifCond .eq 10, 3) := by decide +kernel
theorem dX8_second_38 : decode cX8_second 38 = .ok (.aload_n 0, 1) := by decide +kernel
theorem dX8_second_39 : decode cX8_second 39 = .ok (.iload 4, 2) := by decide +kernel
theorem dX8_second_41 : decode cX8_second 41 = .ok (.invokevirtual 58, 3) := by decide +kernel
theorem dX8_second_44 : decode cX8_second 44 = .ok (.ireturn, 1) := by decide +kernel
theorem dX8_second_45 : decode cX8_second 45 = .ok (.aload_n 0, 1) := by decide +kernel
theorem dX8_second_46 : decode cX8_second 46 = .ok (.iload_n 1, 1) := by decide +kernel
theorem dX8_second_47 : decode cX8_second 47 = .ok (.invokevirtual 234, 3) := by decide +kernel
theorem dX8_second_50 : decode cX8_second 50 = .ok (.istore 5, 2) := by decide +kernel
theorem dX8_second_52 : decode cX8_second 52 = .ok (.aload_n 3, 1) := by decide +kernel
theorem dX8_second_53 : decode cX8_second 53 = .ok (.getfield 153, 3) := by decide +kernel
theorem dX8_second_56 : decode cX8_second 56 = .ok (.iload 5, 2) := by decide +kernel
theorem dX8_second_58 : decode cX8_second 58 = .ok (.if_icmp .ge 10, 3) := by decide +kernel
theorem dX8_second_61 : decode cX8_second 61 = .ok (.aload_n 0, 1) := by decide +kernel
theorem dX8_second_62 : decode cX8_second 62 = .ok (.bipush (-5), 2) := by decide +kernel
theorem dX8_second_64 : decode cX8_second 64 = .ok (.invokevirtual 58, 3) := by decide +kernel
theorem dX8_second_67 : decode cX8_second 67 = .ok (.ireturn, 1) := by decide +kernel
theorem dX8_second_68 : decode cX8_second 68 = .ok (.iconst 0, 1) := by decide +kernel
theorem dX8_second_69 : decode cX8_second 69 = .ok (.istore 6, 2) := by decide +kernel
theorem dX8_second_71 : decode cX8_second 71 = .ok (.iload 6, 2) := by decide +kernel
theorem dX8_second_73 : decode cX8_second 73 = .ok (.iload 5, 2) := by decide +kernel
theorem dX8_second_75 : decode cX8_second 75 = .ok (.if_icmp .ge 36, 3) := by decide +kernel
theorem dX8_second_78 : decode cX8_second 78 = .ok (.aload_n 3, 1) := by decide +kernel
theorem dX8_second_79 : decode cX8_second 79 = .ok (.iload 6, 2) := by decide +kernel
theorem dX8_second_81 : decode cX8_second 81 = .ok (.invokevirtual 237, 3) := by decide +kernel
theorem dX8_second_84 : decode cX8_second 84 = .ok (.ifCond .lt 14, 3) := by decide +kernel
theorem dX8_second_87 : decode cX8_second 87 = .ok (.aload_n 3, 1) := by decide +kernel
theorem dX8_second_88 : decode cX8_second 88 = .ok (.iload 6, 2) := by decide +kernel
theorem dX8_second_90 : decode cX8_second 90 = .ok (.invokevirtual 237, 3) := by decide +kernel
theorem dX8_second_93 : decode cX8_second 93 = .ok (.bipush 99, 2) := by decide +kernel
theorem dX8_second_95 : decode cX8_second 95 = .ok (.if_icmp .le 10, 3) := by decide +kernel
theorem dX8_second_98 : decode cX8_second 98 = .ok (.aload_n 0, 1) := by decide +kernel
theorem dX8_second_99 : decode cX8_second 99 = .ok (.bipush (-6), 2) := by decide +kernel
theorem dX8_second_101 : decode cX8_second 101 = .ok (.invokevirtual 58, 3) := by decide +kernel
theorem dX8_second_104 : decode cX8_second 104 = .ok (.ireturn, 1) := by decide +kernel
theorem dX8_second_105 : decode cX8_second 105 = .ok (.iinc 6 1, 3) := by decide +kernel
theorem dX8_second_108 : decode cX8_second 108 = .ok (.goto (-37), 3) := by decide +kernel
theorem dX8_second_111 : decode cX8_second 111 = .ok (.aload_n 0, 1) := by decide +kernel
theorem dX8_second_112 : decode cX8_second 112 = .ok (.iload_n 1, 1) := by decide +kernel
theorem dX8_second_113 : decode cX8_second 113 = .ok (.aload_n 3, 1) := by decide +kernel
theorem dX8_second_114 : decode cX8_second 114 = .ok (.invokevirtual 240, 3) := by decide +kernel
theorem dX8_second_117 : decode cX8_second 117 = .ok (.ireturn, 1) := by decide +kernel
theorem dX8_right_0 : decode cX8_right 0 = .ok (.lconst 0, 1) := by decide +kernel
theorem dX8_right_1 : decode cX8_right 1 = .ok (.lstore_n 2, 1) := by decide +kernel
theorem dX8_right_2 : decode cX8_right 2 = .ok (.lconst 0, 1) := by decide +kernel
theorem dX8_right_3 : decode cX8_right 3 = .ok (.lstore 4, 2) := by decide +kernel
theorem dX8_right_5 : decode cX8_right 5 = .ok (.iconst 0, 1) := by decide +kernel
theorem dX8_right_6 : decode cX8_right 6 = .ok (.istore 6, 2) := by decide +kernel
theorem dX8_right_8 : decode cX8_right 8 = .ok (.iload 6, 2) := by decide +kernel
theorem dX8_right_10 : decode cX8_right 10 = .ok (.aload_n 0, 1) := by decide +kernel
theorem dX8_right_11 : decode cX8_right 11 = .ok (.getfield 69, 3) := by decide +kernel
theorem dX8_right_14 : decode cX8_right 14 = .ok (.if_icmp .ge 55, 3) := by decide +kernel
theorem dX8_right_17 : decode cX8_right 17 = .ok (.aload_n 0, 1) := by decide +kernel
theorem dX8_right_18 : decode cX8_right 18 = .ok (.getfield 17, 3) := by decide +kernel
theorem dX8_right_21 : decode cX8_right 21 = .ok (.iload 6, 2) := by decide +kernel
theorem dX8_right_23 : decode cX8_right 23 = .ok (.aaload, 1) := by decide +kernel
theorem dX8_right_24 : decode cX8_right 24 = .ok (.astore 7, 2) := by decide +kernel
theorem dX8_right_26 : decode cX8_right 26 = .ok (.aload 7, 2) := by decide +kernel
theorem dX8_right_28 : decode cX8_right 28 = .ok (.getfield 244, 3) := by decide +kernel
theorem dX8_right_31 : decode cX8_right 31 = .ok (.iconst (-1), 1) := by decide +kernel
theorem dX8_right_32 : decode cX8_right 32 = .ok (.if_icmp .eq 31, 3) := by decide +kernel
theorem dX8_right_35 : decode cX8_right 35 = .ok (.lload_n 2, 1) := by decide +kernel
theorem dX8_right_36 : decode cX8_right 36 = .ok (.aload 7, 2) := by decide +kernel
theorem dX8_right_38 : decode cX8_right 38 = .ok (.getfield 244, 3) := by decide +kernel
theorem dX8_right_41 : decode cX8_right 41 = .ok (.i2l, 1) := by decide +kernel
theorem dX8_right_42 : decode cX8_right 42 = .ok (.ladd, 1) := by decide +kernel
theorem dX8_right_43 : decode cX8_right 43 = .ok (.lstore_n 2, 1) := by decide +kernel
theorem dX8_right_44 : decode cX8_right 44 = .ok (.lload 4, 2) := by decide +kernel
theorem dX8_right_46 : decode cX8_right 46 = .ok (.aload 7, 2) := by decide +kernel
theorem dX8_right_48 : decode cX8_right 48 = .ok (.getfield 244, 3) := by decide +kernel
theorem dX8_right_51 : decode cX8_right 51 = .ok (.aload 7, 2) := by decide +kernel
theorem dX8_right_53 : decode cX8_right 53 = .ok (.invokevirtual 247, 3) := by decide +kernel
theorem dX8_right_56 : decode cX8_right 56 = .ok (.invokestatic 250, 3) := by decide +kernel
theorem dX8_right_59 : decode cX8_right 59 = .ok (.i2l, 1) := by decide +kernel
theorem dX8_right_60 : decode cX8_right 60 = .ok (.ladd, 1) := by decide +kernel
theorem dX8_right_61 : decode cX8_right 61 = .ok (.lstore 4, 2) := by decide +kernel
theorem dX8_right_63 : decode cX8_right 63 = .ok (.iinc 6 1, 3) := by decide +kernel
theorem dX8_right_66 : decode cX8_right 66 = .ok (.goto (-58), 3) := by decide +kernel
theorem dX8_right_69 : decode cX8_right 69 = .ok (.lload 4, 2) := by decide +kernel
theorem dX8_right_71 : decode cX8_right 71 = .ok (.lconst 0, 1) := by decide +kernel
theorem dX8_right_72 : decode cX8_right 72 = .ok (.lcmp, 1) := by decide +kernel
theorem dX8_right_73 : decode cX8_right 73 = .ok (.ifCond .ne 13, 3) := by decide +kernel
theorem dX8_right_76 : decode cX8_right 76 = .ok (.iload_n 1, 1) := by decide +kernel
theorem dX8_right_77 : decode cX8_right 77 = .ok (.ifCond .eq 7, 3) := by decide +kernel
theorem dX8_right_80 : decode cX8_right 80 = .ok (.lconst 1, 1) := by decide +kernel
theorem dX8_right_81 : decode cX8_right 81 = .ok (.goto 4, 3) := by decide +kernel
theorem dX8_right_84 : decode cX8_right 84 = .ok (.lconst 0, 1) := by decide +kernel
theorem dX8_right_85 : decode cX8_right 85 = .ok (.lreturn, 1) := by decide +kernel
theorem dX8_right_86 : decode cX8_right 86 = .ok (.aload_n 0, 1) := by decide +kernel
theorem dX8_right_87 : decode cX8_right 87 = .ok (.invokevirtual 256, 3) := by decide +kernel
theorem dX8_right_90 : decode cX8_right 90 = .ok (.i2l, 1) := by decide +kernel
theorem dX8_right_91 : decode cX8_right 91 = .ok (.lload_n 2, 1) := by decide +kernel
theorem dX8_right_92 : decode cX8_right 92 = .ok (.lmul, 1) := by decide +kernel
theorem dX8_right_93 : decode cX8_right 93 = .ok (.lstore 6, 2) := by decide +kernel
theorem dX8_right_95 : decode cX8_right 95 = .ok (.lload 6, 2) := by decide +kernel
theorem dX8_right_97 : decode cX8_right 97 = .ok (.lload 4, 2) := by decide +kernel
theorem dX8_right_99 : decode cX8_right 99 = .ok (.invokestatic 259, 3) := by decide +kernel
theorem dX8_right_102 : decode cX8_right 102 = .ok (.lstore 8, 2) := by decide +kernel
theorem dX8_right_104 : decode cX8_right 104 = .ok (.lload 8, 2) := by decide +kernel
theorem dX8_right_106 : decode cX8_right 106 = .ok (.lconst 0, 1) := by decide +kernel
theorem dX8_right_107 : decode cX8_right 107 = .ok (.lcmp, 1) := by decide +kernel
theorem dX8_right_108 : decode cX8_right 108 = .ok (.ifCond .ne 13, 3) := by decide +kernel
theorem dX8_right_111 : decode cX8_right 111 = .ok (.iload_n 1, 1) := by decide +kernel
theorem dX8_right_112 : decode cX8_right 112 = .ok (.ifCond .eq 7, 3) := by decide +kernel
theorem dX8_right_115 : decode cX8_right 115 = .ok (.lconst 1, 1) := by decide +kernel
theorem dX8_right_116 : decode cX8_right 116 = .ok (.goto 4, 3) := by decide +kernel
theorem dX8_right_119 : decode cX8_right 119 = .ok (.lconst 0, 1) := by decide +kernel
theorem dX8_right_120 : decode cX8_right 120 = .ok (.lreturn, 1) := by decide +kernel
theorem dX8_right_121 : decode cX8_right 121 = .ok (.iload_n 1, 1) := by decide +kernel
theorem dX8_right_122 : decode cX8_right 122 = .ok (.ifCond .eq 11, 3) := by decide +kernel
theorem dX8_right_125 : decode cX8_right 125 = .ok (.lload 4, 2) := by decide +kernel
theorem dX8_right_127 : decode cX8_right 127 = .ok (.lload 8, 2) := by decide +kernel
theorem dX8_right_129 : decode cX8_right 129 = .ok (.ldiv, 1) := by decide +kernel
theorem dX8_right_130 : decode cX8_right 130 = .ok (.goto 8, 3) := by decide +kernel
theorem dX8_right_133 : decode cX8_right 133 = .ok (.lload 6, 2) := by decide +kernel
theorem dX8_right_135 : decode cX8_right 135 = .ok (.lload 8, 2) := by decide +kernel
theorem dX8_right_137 : decode cX8_right 137 = .ok (.ldiv, 1) := by decide +kernel
theorem dX8_right_138 : decode cX8_right 138 = .ok (.lreturn, 1) := by decide +kernel
theorem dX8_heap_0 : decode cX8_heap 0 = .ok (.iconst 0, 1) := by decide +kernel
theorem dX8_heap_1 : decode cX8_heap 1 = .ok (.istore_n 1, 1) := by decide +kernel
theorem dX8_heap_2 : decode cX8_heap 2 = .ok (.iconst 0, 1) := by decide +kernel
theorem dX8_heap_3 : decode cX8_heap 3 = .ok (.istore_n 2, 1) := by decide +kernel
theorem dX8_heap_4 : decode cX8_heap 4 = .ok (.iconst 0, 1) := by decide +kernel
theorem dX8_heap_5 : decode cX8_heap 5 = .ok (.istore_n 3, 1) := by decide +kernel
theorem dX8_heap_6 : decode cX8_heap 6 = .ok (.iload_n 3, 1) := by decide +kernel
theorem dX8_heap_7 : decode cX8_heap 7 = .ok (.aload_n 0, 1) := by decide +kernel
theorem dX8_heap_8 : decode cX8_heap 8 = .ok (.getfield 69, 3) := by decide +kernel
theorem dX8_heap_11 : decode cX8_heap 11 = .ok (.if_icmp .ge 35, 3) := by decide +kernel
theorem dX8_heap_14 : decode cX8_heap 14 = .ok (.iload_n 1, 1) := by decide +kernel
theorem dX8_heap_15 : decode cX8_heap 15 = .ok (.aload_n 0, 1) := by decide +kernel
theorem dX8_heap_16 : decode cX8_heap 16 = .ok (.getfield 17, 3) := by decide +kernel
theorem dX8_heap_19 : decode cX8_heap 19 = .ok (.iload_n 3, 1) := by decide +kernel
theorem dX8_heap_20 : decode cX8_heap 20 = .ok (.aaload, 1) := by decide +kernel
theorem dX8_heap_21 : decode cX8_heap 21 = .ok (.iconst 1, 1) := by decide +kernel
theorem dX8_heap_22 : decode cX8_heap 22 = .ok (.invokevirtual 263, 3) := by decide +kernel
theorem dX8_heap_25 : decode cX8_heap 25 = .ok (.iadd, 1) := by decide +kernel
theorem dX8_heap_26 : decode cX8_heap 26 = .ok (.istore_n 1, 1) := by decide +kernel
theorem dX8_heap_27 : decode cX8_heap 27 = .ok (.iload_n 2, 1) := by decide +kernel
theorem dX8_heap_28 : decode cX8_heap 28 = .ok (.aload_n 0, 1) := by decide +kernel
theorem dX8_heap_29 : decode cX8_heap 29 = .ok (.getfield 17, 3) := by decide +kernel
theorem dX8_heap_32 : decode cX8_heap 32 = .ok (.iload_n 3, 1) := by decide +kernel
theorem dX8_heap_33 : decode cX8_heap 33 = .ok (.aaload, 1) := by decide +kernel
theorem dX8_heap_34 : decode cX8_heap 34 = .ok (.iconst 5, 1) := by decide +kernel
theorem dX8_heap_35 : decode cX8_heap 35 = .ok (.invokevirtual 263, 3) := by decide +kernel
theorem dX8_heap_38 : decode cX8_heap 38 = .ok (.iadd, 1) := by decide +kernel
theorem dX8_heap_39 : decode cX8_heap 39 = .ok (.istore_n 2, 1) := by decide +kernel
theorem dX8_heap_40 : decode cX8_heap 40 = .ok (.iinc 3 1, 3) := by decide +kernel
theorem dX8_heap_43 : decode cX8_heap 43 = .ok (.goto (-37), 3) := by decide +kernel
theorem dX8_heap_46 : decode cX8_heap 46 = .ok (.iload_n 1, 1) := by decide +kernel
theorem dX8_heap_47 : decode cX8_heap 47 = .ok (.ifCond .ne 8, 3) := by decide +kernel
theorem dX8_heap_50 : decode cX8_heap 50 = .ok (.bipush 100, 2) := by decide +kernel
theorem dX8_heap_52 : decode cX8_heap 52 = .ok (.goto 10, 3) := by decide +kernel
theorem dX8_heap_55 : decode cX8_heap 55 = .ok (.sipush 500, 3) := by decide +kernel
theorem dX8_heap_58 : decode cX8_heap 58 = .ok (.iload_n 2, 1) := by decide +kernel
theorem dX8_heap_59 : decode cX8_heap 59 = .ok (.imul, 1) := by decide +kernel
theorem dX8_heap_60 : decode cX8_heap 60 = .ok (.iload_n 1, 1) := by decide +kernel
theorem dX8_heap_61 : decode cX8_heap 61 = .ok (.idiv, 1) := by decide +kernel
theorem dX8_heap_62 : decode cX8_heap 62 = .ok (.ireturn, 1) := by decide +kernel
theorem dX8_table_0 : decode cX8_table 0 = .ok (.aload_n 0, 1) := by decide +kernel
theorem dX8_table_1 : decode cX8_table 1 = .ok (.getfield 65, 3) := by decide +kernel
theorem dX8_table_4 : decode cX8_table 4 = .ok (.ifCond .ne 10, 3) := by decide +kernel
theorem dX8_table_7 : decode cX8_table 7 = .ok (.aload_n 0, 1) := by decide +kernel
theorem dX8_table_8 : decode cX8_table 8 = .ok (.bipush (-6), 2) := by decide +kernel
theorem dX8_table_10 : decode cX8_table 10 = .ok (.invokevirtual 58, 3) := by decide +kernel
theorem dX8_table_13 : decode cX8_table 13 = .ok (.ireturn, 1) := by decide +kernel
theorem dX8_table_14 : decode cX8_table 14 = .ok (.iconst 0, 1) := by decide +kernel
theorem dX8_table_15 : decode cX8_table 15 = .ok (.istore_n 1, 1) := by decide +kernel
theorem dX8_table_16 : decode cX8_table 16 = .ok (.iload_n 1, 1) := by decide +kernel
theorem dX8_table_17 : decode cX8_table 17 = .ok (.bipush 6, 2) := by decide +kernel
theorem dX8_table_19 : decode cX8_table 19 = .ok (.if_icmp .ge 38, 3) := by decide +kernel
theorem dX8_table_22 : decode cX8_table 22 = .ok (.iconst 0, 1) := by decide +kernel
theorem dX8_table_23 : decode cX8_table 23 = .ok (.istore_n 2, 1) := by decide +kernel
theorem dX8_table_24 : decode cX8_table 24 = .ok (.iload_n 2, 1) := by decide +kernel
theorem dX8_table_25 : decode cX8_table 25 = .ok (.iconst 4, 1) := by decide +kernel
theorem dX8_table_26 : decode cX8_table 26 = .ok (.if_icmp .ge 25, 3) := by decide +kernel
theorem dX8_table_29 : decode cX8_table 29 = .ok (.aload_n 0, 1) := by decide +kernel
theorem dX8_table_30 : decode cX8_table 30 = .ok (.getfield 49, 3) := by decide +kernel
theorem dX8_table_33 : decode cX8_table 33 = .ok (.iload_n 1, 1) := by decide +kernel
theorem dX8_table_34 : decode cX8_table 34 = .ok (.iload_n 2, 1) := by decide +kernel
theorem dX8_table_35 : decode cX8_table 35 = .ok (.aload_n 0, 1) := by decide +kernel
theorem dX8_table_36 : decode cX8_table 36 = .ok (.iload_n 1, 1) := by decide +kernel
theorem dX8_table_37 : decode cX8_table 37 = .ok (.iload_n 2, 1) := by decide +kernel
theorem dX8_table_38 : decode cX8_table 38 = .ok (.iconst 1, 1) := by decide +kernel
theorem dX8_table_39 : decode cX8_table 39 = .ok (.invokevirtual 266, 3) := by decide +kernel
theorem dX8_table_42 : decode cX8_table 42 = .ok (.invokevirtual 270, 3) := by decide +kernel
theorem dX8_table_45 : decode cX8_table 45 = .ok (.iinc 2 1, 3) := by decide +kernel
theorem dX8_table_48 : decode cX8_table 48 = .ok (.goto (-24), 3) := by decide +kernel
theorem dX8_table_51 : decode cX8_table 51 = .ok (.iinc 1 1, 3) := by decide +kernel
theorem dX8_table_54 : decode cX8_table 54 = .ok (.goto (-38), 3) := by decide +kernel
theorem dX8_table_57 : decode cX8_table 57 = .ok (.aload_n 0, 1) := by decide +kernel
theorem dX8_table_58 : decode cX8_table 58 = .ok (.getfield 49, 3) := by decide +kernel
theorem dX8_table_61 : decode cX8_table 61 = .ok (.aload_n 0, 1) := by decide +kernel
theorem dX8_table_62 : decode cX8_table 62 = .ok (.getfield 28, 3) := by decide +kernel
theorem dX8_table_65 : decode cX8_table 65 = .ok (.getfield 273, 3) := by decide +kernel
theorem dX8_table_68 : decode cX8_table 68 = .ok (.invokevirtual 276, 3) := by decide +kernel
theorem dX8_table_71 : decode cX8_table 71 = .ok (.ifCond .eq 13, 3) := by decide +kernel
theorem dX8_table_74 : decode cX8_table 74 = .ok (.aload_n 0, 1) := by decide +kernel
theorem dX8_table_75 : decode cX8_table 75 = .ok (.getfield 49, 3) := by decide +kernel
theorem dX8_table_78 : decode cX8_table 78 = .ok (.invokevirtual 279, 3) := by decide +kernel
theorem dX8_table_81 : decode cX8_table 81 = .ok (.goto 9, 3) := by decide +kernel
theorem dX8_table_84 : decode cX8_table 84 = .ok (.aload_n 0, 1) := by decide +kernel
theorem dX8_table_85 : decode cX8_table 85 = .ok (.bipush (-6), 2) := by decide +kernel
theorem dX8_table_87 : decode cX8_table 87 = .ok (.invokevirtual 58, 3) := by decide +kernel
theorem dX8_table_90 : decode cX8_table 90 = .ok (.ireturn, 1) := by decide +kernel
theorem dX8_told_0 : decode cX8_told 0 = .ok (.aload_n 0, 1) := by decide +kernel
theorem dX8_told_1 : decode cX8_told 1 = .ok (.getfield 49, 3) := by decide +kernel
theorem dX8_told_4 : decode cX8_told 4 = .ok (.iload_n 1, 1) := by decide +kernel
theorem dX8_told_5 : decode cX8_told 5 = .ok (.iload_n 2, 1) := by decide +kernel
theorem dX8_told_6 : decode cX8_told 6 = .ok (.invokevirtual 282, 3) := by decide +kernel
theorem dX8_told_9 : decode cX8_told 9 = .ok (.ireturn, 1) := by decide +kernel
theorem dX8_could_0 : decode cX8_could 0 = .ok (.aload_n 0, 1) := by decide +kernel
theorem dX8_could_1 : decode cX8_could 1 = .ok (.getfield 49, 3) := by decide +kernel
theorem dX8_could_4 : decode cX8_could 4 = .ok (.iload_n 1, 1) := by decide +kernel
theorem dX8_could_5 : decode cX8_could 5 = .ok (.iload_n 2, 1) := by decide +kernel
theorem dX8_could_6 : decode cX8_could 6 = .ok (.iload_n 3, 1) := by decide +kernel
theorem dX8_could_7 : decode cX8_could 7 = .ok (.invokevirtual 284, 3) := by decide +kernel
theorem dX8_could_10 : decode cX8_could 10 = .ok (.ireturn, 1) := by decide +kernel
theorem dX8_status_0 : decode cX8_status 0 = .ok (.iload_n 1, 1) := by decide +kernel
theorem dX8_status_1 : decode cX8_status 1 = .ok (.tableswitch 197 0 20 #[99, 104, 115, 121, 126, 131, 139, 147, 160, 165, 197, 197, 197, 197, 197, 197, 197, 197, 173, 181, 189], 99) := by decide +kernel
theorem dX8_status_100 : decode cX8_status 100 = .ok (.aload_n 0, 1) := by decide +kernel
theorem dX8_status_101 : decode cX8_status 101 = .ok (.getfield 69, 3) := by decide +kernel
theorem dX8_status_104 : decode cX8_status 104 = .ok (.ireturn, 1) := by decide +kernel
theorem dX8_status_105 : decode cX8_status 105 = .ok (.aload_n 0, 1) := by decide +kernel
theorem dX8_status_106 : decode cX8_status 106 = .ok (.getfield 69, 3) := by decide +kernel
theorem dX8_status_109 : decode cX8_status 109 = .ok (.aload_n 0, 1) := by decide +kernel
theorem dX8_status_110 : decode cX8_status 110 = .ok (.iconst 0, 1) := by decide +kernel
theorem dX8_status_111 : decode cX8_status 111 = .ok (.invokevirtual 287, 3) := by decide +kernel
theorem dX8_status_114 : decode cX8_status 114 = .ok (.isub, 1) := by decide +kernel
theorem dX8_status_115 : decode cX8_status 115 = .ok (.ireturn, 1) := by decide +kernel
theorem dX8_status_116 : decode cX8_status 116 = .ok (.aload_n 0, 1) := by decide +kernel
theorem dX8_status_117 : decode cX8_status 117 = .ok (.iconst 4, 1) := by decide +kernel
theorem dX8_status_118 : decode cX8_status 118 = .ok (.invokevirtual 287, 3) := by decide +kernel
theorem dX8_status_121 : decode cX8_status 121 = .ok (.ireturn, 1) := by decide +kernel
theorem dX8_status_122 : decode cX8_status 122 = .ok (.aload_n 0, 1) := by decide +kernel
theorem dX8_status_123 : decode cX8_status 123 = .ok (.invokevirtual 256, 3) := by decide +kernel
theorem dX8_status_126 : decode cX8_status 126 = .ok (.ireturn, 1) := by decide +kernel
theorem dX8_status_127 : decode cX8_status 127 = .ok (.aload_n 0, 1) := by decide +kernel
theorem dX8_status_128 : decode cX8_status 128 = .ok (.invokevirtual 290, 3) := by decide +kernel
theorem dX8_status_131 : decode cX8_status 131 = .ok (.ireturn, 1) := by decide +kernel
theorem dX8_status_132 : decode cX8_status 132 = .ok (.aload_n 0, 1) := by decide +kernel
theorem dX8_status_133 : decode cX8_status 133 = .ok (.getfield 35, 3) := by decide +kernel
theorem dX8_status_136 : decode cX8_status 136 = .ok (.getfield 293, 3) := by decide +kernel
theorem dX8_status_139 : decode cX8_status 139 = .ok (.ireturn, 1) := by decide +kernel
theorem dX8_status_140 : decode cX8_status 140 = .ok (.aload_n 0, 1) := by decide +kernel
theorem dX8_status_141 : decode cX8_status 141 = .ok (.getfield 35, 3) := by decide +kernel
theorem dX8_status_144 : decode cX8_status 144 = .ok (.getfield 296, 3) := by decide +kernel
theorem dX8_status_147 : decode cX8_status 147 = .ok (.ireturn, 1) := by decide +kernel
theorem dX8_status_148 : decode cX8_status 148 = .ok (.aload_n 0, 1) := by decide +kernel
theorem dX8_status_149 : decode cX8_status 149 = .ok (.getfield 65, 3) := by decide +kernel
theorem dX8_status_152 : decode cX8_status 152 = .ok (.ifCond .eq 7, 3) := by decide +kernel
theorem dX8_status_155 : decode cX8_status 155 = .ok (.iconst 1, 1) := by decide +kernel
theorem dX8_status_156 : decode cX8_status 156 = .ok (.goto 4, 3) := by decide +kernel
theorem dX8_status_159 : decode cX8_status 159 = .ok (.iconst 0, 1) := by decide +kernel
theorem dX8_status_160 : decode cX8_status 160 = .ok (.ireturn, 1) := by decide +kernel
theorem dX8_status_161 : decode cX8_status 161 = .ok (.aload_n 0, 1) := by decide +kernel
theorem dX8_status_162 : decode cX8_status 162 = .ok (.invokevirtual 299, 3) := by decide +kernel
theorem dX8_status_165 : decode cX8_status 165 = .ok (.ireturn, 1) := by decide +kernel
theorem dX8_status_166 : decode cX8_status 166 = .ok (.aload_n 0, 1) := by decide +kernel
theorem dX8_status_167 : decode cX8_status 167 = .ok (.getfield 302, 3) := by decide +kernel
theorem dX8_status_170 : decode cX8_status 170 = .ok (.invokestatic 305, 3) := by decide +kernel
theorem dX8_status_173 : decode cX8_status 173 = .ok (.ireturn, 1) := by decide +kernel
theorem dX8_status_174 : decode cX8_status 174 = .ok (.aload_n 0, 1) := by decide +kernel
theorem dX8_status_175 : decode cX8_status 175 = .ok (.getfield 28, 3) := by decide +kernel
theorem dX8_status_178 : decode cX8_status 178 = .ok (.getfield 172, 3) := by decide +kernel
theorem dX8_status_181 : decode cX8_status 181 = .ok (.ireturn, 1) := by decide +kernel
theorem dX8_status_182 : decode cX8_status 182 = .ok (.aload_n 0, 1) := by decide +kernel
theorem dX8_status_183 : decode cX8_status 183 = .ok (.getfield 28, 3) := by decide +kernel
theorem dX8_status_186 : decode cX8_status 186 = .ok (.getfield 188, 3) := by decide +kernel
theorem dX8_status_189 : decode cX8_status 189 = .ok (.ireturn, 1) := by decide +kernel
theorem dX8_status_190 : decode cX8_status 190 = .ok (.aload_n 0, 1) := by decide +kernel
theorem dX8_status_191 : decode cX8_status 191 = .ok (.getfield 28, 3) := by decide +kernel
theorem dX8_status_194 : decode cX8_status 194 = .ok (.getfield 273, 3) := by decide +kernel
theorem dX8_status_197 : decode cX8_status 197 = .ok (.ireturn, 1) := by decide +kernel
theorem dX8_status_198 : decode cX8_status 198 = .ok (.iload_n 1, 1) := by decide +kernel
theorem dX8_status_199 : decode cX8_status 199 = .ok (.bipush 11, 2) := by decide +kernel
theorem dX8_status_201 : decode cX8_status 201 = .ok (.if_icmp .lt 21, 3) := by decide +kernel
theorem dX8_status_204 : decode cX8_status 204 = .ok (.iload_n 1, 1) := by decide +kernel
theorem dX8_status_205 : decode cX8_status 205 = .ok (.bipush 17, 2) := by decide +kernel
theorem dX8_status_207 : decode cX8_status 207 = .ok (.if_icmp .gt 15, 3) := by decide +kernel
theorem dX8_status_210 : decode cX8_status 210 = .ok (.aload_n 0, 1) := by decide +kernel
theorem dX8_status_211 : decode cX8_status 211 = .ok (.getfield 21, 3) := by decide +kernel
theorem dX8_status_214 : decode cX8_status 214 = .ok (.iload_n 1, 1) := by decide +kernel
theorem dX8_status_215 : decode cX8_status 215 = .ok (.bipush 10, 2) := by decide +kernel
theorem dX8_status_217 : decode cX8_status 217 = .ok (.isub, 1) := by decide +kernel
theorem dX8_status_218 : decode cX8_status 218 = .ok (.iaload, 1) := by decide +kernel
theorem dX8_status_219 : decode cX8_status 219 = .ok (.goto 4, 3) := by decide +kernel
theorem dX8_status_222 : decode cX8_status 222 = .ok (.iconst (-1), 1) := by decide +kernel
theorem dX8_status_223 : decode cX8_status 223 = .ok (.ireturn, 1) := by decide +kernel
theorem dX8_refuse_0 : decode cX8_refuse 0 = .ok (.iload_n 1, 1) := by decide +kernel
theorem dX8_refuse_1 : decode cX8_refuse 1 = .ok (.iconst (-1), 1) := by decide +kernel
theorem dX8_refuse_2 : decode cX8_refuse 2 = .ok (.if_icmp .gt 20, 3) := by decide +kernel
theorem dX8_refuse_5 : decode cX8_refuse 5 = .ok (.iload_n 1, 1) := by decide +kernel
theorem dX8_refuse_6 : decode cX8_refuse 6 = .ok (.bipush (-7), 2) := by decide +kernel
theorem dX8_refuse_8 : decode cX8_refuse 8 = .ok (.if_icmp .lt 14, 3) := by decide +kernel
theorem dX8_refuse_11 : decode cX8_refuse 11 = .ok (.aload_n 0, 1) := by decide +kernel
theorem dX8_refuse_12 : decode cX8_refuse 12 = .ok (.getfield 21, 3) := by decide +kernel
theorem dX8_refuse_15 : decode cX8_refuse 15 = .ok (.iload_n 1, 1) := by decide +kernel
theorem dX8_refuse_16 : decode cX8_refuse 16 = .ok (.ineg, 1) := by decide +kernel
theorem dX8_refuse_17 : decode cX8_refuse 17 = .ok (.dup2, 1) := by decide +kernel
theorem dX8_refuse_18 : decode cX8_refuse 18 = .ok (.iaload, 1) := by decide +kernel
theorem dX8_refuse_19 : decode cX8_refuse 19 = .ok (.iconst 1, 1) := by decide +kernel
theorem dX8_refuse_20 : decode cX8_refuse 20 = .ok (.iadd, 1) := by decide +kernel
theorem dX8_refuse_21 : decode cX8_refuse 21 = .ok (.iastore, 1) := by decide +kernel
theorem dX8_refuse_22 : decode cX8_refuse 22 = .ok (.iload_n 1, 1) := by decide +kernel
theorem dX8_refuse_23 : decode cX8_refuse 23 = .ok (.ireturn, 1) := by decide +kernel
theorem dX8_isBlock_0 : decode cX8_isBlock 0 = .ok (.iload_n 0, 1) := by decide +kernel
theorem dX8_isBlock_1 : decode cX8_isBlock 1 = .ok (.ifCond .lt 13, 3) := by decide +kernel
theorem dX8_isBlock_4 : decode cX8_isBlock 4 = .ok (.iload_n 0, 1) := by decide +kernel
theorem dX8_isBlock_5 : decode cX8_isBlock 5 = .ok (.bipush 6, 2) := by decide +kernel
theorem dX8_isBlock_7 : decode cX8_isBlock 7 = .ok (.if_icmp .ge 7, 3) := by decide +kernel
theorem dX8_isBlock_10 : decode cX8_isBlock 10 = .ok (.iconst 1, 1) := by decide +kernel
theorem dX8_isBlock_11 : decode cX8_isBlock 11 = .ok (.goto 4, 3) := by decide +kernel
theorem dX8_isBlock_14 : decode cX8_isBlock 14 = .ok (.iconst 0, 1) := by decide +kernel
theorem dX8_isBlock_15 : decode cX8_isBlock 15 = .ok (.ireturn, 1) := by decide +kernel
theorem dX8_isLike_0 : decode cX8_isLike 0 = .ok (.iload_n 0, 1) := by decide +kernel
theorem dX8_isLike_1 : decode cX8_isLike 1 = .ok (.ifCond .lt 12, 3) := by decide +kernel
theorem dX8_isLike_4 : decode cX8_isLike 4 = .ok (.iload_n 0, 1) := by decide +kernel
theorem dX8_isLike_5 : decode cX8_isLike 5 = .ok (.iconst 4, 1) := by decide +kernel
theorem dX8_isLike_6 : decode cX8_isLike 6 = .ok (.if_icmp .ge 7, 3) := by decide +kernel
theorem dX8_isLike_9 : decode cX8_isLike 9 = .ok (.iconst 1, 1) := by decide +kernel
theorem dX8_isLike_10 : decode cX8_isLike 10 = .ok (.goto 4, 3) := by decide +kernel
theorem dX8_isLike_13 : decode cX8_isLike 13 = .ok (.iconst 0, 1) := by decide +kernel
theorem dX8_isLike_14 : decode cX8_isLike 14 = .ok (.ireturn, 1) := by decide +kernel
theorem dX8_isShelf_0 : decode cX8_isShelf 0 = .ok (.iload_n 0, 1) := by decide +kernel
theorem dX8_isShelf_1 : decode cX8_isShelf 1 = .ok (.ifCond .lt 13, 3) := by decide +kernel
theorem dX8_isShelf_4 : decode cX8_isShelf 4 = .ok (.iload_n 0, 1) := by decide +kernel
theorem dX8_isShelf_5 : decode cX8_isShelf 5 = .ok (.bipush 8, 2) := by decide +kernel
theorem dX8_isShelf_7 : decode cX8_isShelf 7 = .ok (.if_icmp .ge 7, 3) := by decide +kernel
theorem dX8_isShelf_10 : decode cX8_isShelf 10 = .ok (.iconst 1, 1) := by decide +kernel
theorem dX8_isShelf_11 : decode cX8_isShelf 11 = .ok (.goto 4, 3) := by decide +kernel
theorem dX8_isShelf_14 : decode cX8_isShelf 14 = .ok (.iconst 0, 1) := by decide +kernel
theorem dX8_isShelf_15 : decode cX8_isShelf 15 = .ok (.ireturn, 1) := by decide +kernel
theorem dX8_isDoor_0 : decode cX8_isDoor 0 = .ok (.iload_n 1, 1) := by decide +kernel
theorem dX8_isDoor_1 : decode cX8_isDoor 1 = .ok (.ifCond .lt 15, 3) := by decide +kernel
theorem dX8_isDoor_4 : decode cX8_isDoor 4 = .ok (.iload_n 1, 1) := by decide +kernel
theorem dX8_isDoor_5 : decode cX8_isDoor 5 = .ok (.aload_n 0, 1) := by decide +kernel
theorem dX8_isDoor_6 : decode cX8_isDoor 6 = .ok (.getfield 69, 3) := by decide +kernel
theorem dX8_isDoor_9 : decode cX8_isDoor 9 = .ok (.if_icmp .ge 7, 3) := by decide +kernel
theorem dX8_isDoor_12 : decode cX8_isDoor 12 = .ok (.iconst 1, 1) := by decide +kernel
theorem dX8_isDoor_13 : decode cX8_isDoor 13 = .ok (.goto 4, 3) := by decide +kernel
theorem dX8_isDoor_16 : decode cX8_isDoor 16 = .ok (.iconst 0, 1) := by decide +kernel
theorem dX8_isDoor_17 : decode cX8_isDoor 17 = .ok (.ireturn, 1) := by decide +kernel
theorem dX8_doorAt_0 : decode cX8_doorAt 0 = .ok (.aload_n 0, 1) := by decide +kernel
theorem dX8_doorAt_1 : decode cX8_doorAt 1 = .ok (.iload_n 1, 1) := by decide +kernel
theorem dX8_doorAt_2 : decode cX8_doorAt 2 = .ok (.invokevirtual 121, 3) := by decide +kernel
theorem dX8_doorAt_5 : decode cX8_doorAt 5 = .ok (.ifCond .eq 12, 3) := by decide +kernel
theorem dX8_doorAt_8 : decode cX8_doorAt 8 = .ok (.aload_n 0, 1) := by decide +kernel
theorem dX8_doorAt_9 : decode cX8_doorAt 9 = .ok (.getfield 17, 3) := by decide +kernel
theorem dX8_doorAt_12 : decode cX8_doorAt 12 = .ok (.iload_n 1, 1) := by decide +kernel
theorem dX8_doorAt_13 : decode cX8_doorAt 13 = .ok (.aaload, 1) := by decide +kernel
theorem dX8_doorAt_14 : decode cX8_doorAt 14 = .ok (.goto 4, 3) := by decide +kernel
theorem dX8_doorAt_17 : decode cX8_doorAt 17 = .ok (.aconst_null, 1) := by decide +kernel
theorem dX8_doorAt_18 : decode cX8_doorAt 18 = .ok (.areturn, 1) := by decide +kernel
theorem dX8_fillDoor_0 : decode cX8_fillDoor 0 = .ok (.iconst (-1), 1) := by decide +kernel
theorem dX8_fillDoor_1 : decode cX8_fillDoor 1 = .ok (.istore_n 2, 1) := by decide +kernel
theorem dX8_fillDoor_2 : decode cX8_fillDoor 2 = .ok (.iconst 0, 1) := by decide +kernel
theorem dX8_fillDoor_3 : decode cX8_fillDoor 3 = .ok (.istore_n 3, 1) := by decide +kernel
theorem dX8_fillDoor_4 : decode cX8_fillDoor 4 = .ok (.iload_n 3, 1) := by decide +kernel
theorem dX8_fillDoor_5 : decode cX8_fillDoor 5 = .ok (.aload_n 0, 1) := by decide +kernel
theorem dX8_fillDoor_6 : decode cX8_fillDoor 6 = .ok (.getfield 69, 3) := by decide +kernel
theorem dX8_fillDoor_9 : decode cX8_fillDoor 9 = .ok (.if_icmp .ge 55, 3) := by decide +kernel
theorem dX8_fillDoor_12 : decode cX8_fillDoor 12 = .ok (.aload_n 0, 1) := by decide +kernel
theorem dX8_fillDoor_13 : decode cX8_fillDoor 13 = .ok (.getfield 17, 3) := by decide +kernel
theorem dX8_fillDoor_16 : decode cX8_fillDoor 16 = .ok (.iload_n 3, 1) := by decide +kernel
theorem dX8_fillDoor_17 : decode cX8_fillDoor 17 = .ok (.aaload, 1) := by decide +kernel
theorem dX8_fillDoor_18 : decode cX8_fillDoor 18 = .ok (.aload_n 0, 1) := by decide +kernel
theorem dX8_fillDoor_19 : decode cX8_fillDoor 19 = .ok (.getfield 17, 3) := by decide +kernel
theorem dX8_fillDoor_22 : decode cX8_fillDoor 22 = .ok (.iload_n 1, 1) := by decide +kernel
theorem dX8_fillDoor_23 : decode cX8_fillDoor 23 = .ok (.aaload, 1) := by decide +kernel
theorem dX8_fillDoor_24 : decode cX8_fillDoor 24 = .ok (.getfield 178, 3) := by decide +kernel
theorem dX8_fillDoor_27 : decode cX8_fillDoor 27 = .ok (.invokevirtual 310, 3) := by decide +kernel
theorem dX8_fillDoor_30 : decode cX8_fillDoor 30 = .ok (.ifCond .ne 6, 3) := by decide +kernel
theorem dX8_fillDoor_33 : decode cX8_fillDoor 33 = .ok (.goto 25, 3) := by decide +kernel
theorem dX8_fillDoor_36 : decode cX8_fillDoor 36 = .ok (.iload_n 2, 1) := by decide +kernel
theorem dX8_fillDoor_37 : decode cX8_fillDoor 37 = .ok (.iconst (-1), 1) := by decide +kernel
theorem dX8_fillDoor_38 : decode cX8_fillDoor 38 = .ok (.if_icmp .eq 18, 3) := by decide +kernel
theorem dX8_fillDoor_41 : decode cX8_fillDoor 41 = .ok (.iload_n 3, 1) := by decide +kernel
theorem dX8_fillDoor_42 : decode cX8_fillDoor 42 = .ok (.iload_n 1, 1) := by decide +kernel
theorem dX8_fillDoor_43 : decode cX8_fillDoor 43 = .ok (.isub, 1) := by decide +kernel
theorem dX8_fillDoor_44 : decode cX8_fillDoor 44 = .ok (.invokestatic 313, 3) := by decide +kernel
theorem dX8_fillDoor_47 : decode cX8_fillDoor 47 = .ok (.iload_n 2, 1) := by decide +kernel
theorem dX8_fillDoor_48 : decode cX8_fillDoor 48 = .ok (.iload_n 1, 1) := by decide +kernel
theorem dX8_fillDoor_49 : decode cX8_fillDoor 49 = .ok (.isub, 1) := by decide +kernel
theorem dX8_fillDoor_50 : decode cX8_fillDoor 50 = .ok (.invokestatic 313, 3) := by decide +kernel
theorem dX8_fillDoor_53 : decode cX8_fillDoor 53 = .ok (.if_icmp .ge 5, 3) := by decide +kernel
theorem dX8_fillDoor_56 : decode cX8_fillDoor 56 = .ok (.iload_n 3, 1) := by decide +kernel
theorem dX8_fillDoor_57 : decode cX8_fillDoor 57 = .ok (.istore_n 2, 1) := by decide +kernel
theorem dX8_fillDoor_58 : decode cX8_fillDoor 58 = .ok (.iinc 3 1, 3) := by decide +kernel
theorem dX8_fillDoor_61 : decode cX8_fillDoor 61 = .ok (.goto (-57), 3) := by decide +kernel
theorem dX8_fillDoor_64 : decode cX8_fillDoor 64 = .ok (.iload_n 2, 1) := by decide +kernel
theorem dX8_fillDoor_65 : decode cX8_fillDoor 65 = .ok (.iconst (-1), 1) := by decide +kernel
theorem dX8_fillDoor_66 : decode cX8_fillDoor 66 = .ok (.if_icmp .ne 5, 3) := by decide +kernel
theorem dX8_fillDoor_69 : decode cX8_fillDoor 69 = .ok (.iconst 0, 1) := by decide +kernel
theorem dX8_fillDoor_70 : decode cX8_fillDoor 70 = .ok (.ireturn, 1) := by decide +kernel
theorem dX8_fillDoor_71 : decode cX8_fillDoor 71 = .ok (.aload_n 0, 1) := by decide +kernel
theorem dX8_fillDoor_72 : decode cX8_fillDoor 72 = .ok (.getfield 17, 3) := by decide +kernel
theorem dX8_fillDoor_75 : decode cX8_fillDoor 75 = .ok (.iload_n 1, 1) := by decide +kernel
theorem dX8_fillDoor_76 : decode cX8_fillDoor 76 = .ok (.aaload, 1) := by decide +kernel
theorem dX8_fillDoor_77 : decode cX8_fillDoor 77 = .ok (.aload_n 0, 1) := by decide +kernel
theorem dX8_fillDoor_78 : decode cX8_fillDoor 78 = .ok (.getfield 17, 3) := by decide +kernel
theorem dX8_fillDoor_81 : decode cX8_fillDoor 81 = .ok (.iload_n 2, 1) := by decide +kernel
theorem dX8_fillDoor_82 : decode cX8_fillDoor 82 = .ok (.aaload, 1) := by decide +kernel
theorem dX8_fillDoor_83 : decode cX8_fillDoor 83 = .ok (.iload_n 2, 1) := by decide +kernel
theorem dX8_fillDoor_84 : decode cX8_fillDoor 84 = .ok (.invokevirtual 316, 3) := by decide +kernel
theorem dX8_fillDoor_87 : decode cX8_fillDoor 87 = .ok (.iconst 1, 1) := by decide +kernel
theorem dX8_fillDoor_88 : decode cX8_fillDoor 88 = .ok (.ireturn, 1) := by decide +kernel
theorem dX8_doorsOf_0 : decode cX8_doorsOf 0 = .ok (.iconst 0, 1) := by decide +kernel
theorem dX8_doorsOf_1 : decode cX8_doorsOf 1 = .ok (.istore_n 2, 1) := by decide +kernel
theorem dX8_doorsOf_2 : decode cX8_doorsOf 2 = .ok (.iconst 0, 1) := by decide +kernel
theorem dX8_doorsOf_3 : decode cX8_doorsOf 3 = .ok (.istore_n 3, 1) := by decide +kernel
theorem dX8_doorsOf_4 : decode cX8_doorsOf 4 = .ok (.iload_n 3, 1) := by decide +kernel
theorem dX8_doorsOf_5 : decode cX8_doorsOf 5 = .ok (.aload_n 0, 1) := by decide +kernel
theorem dX8_doorsOf_6 : decode cX8_doorsOf 6 = .ok (.getfield 69, 3) := by decide +kernel
theorem dX8_doorsOf_9 : decode cX8_doorsOf 9 = .ok (.if_icmp .ge 25, 3) := by decide +kernel
theorem dX8_doorsOf_12 : decode cX8_doorsOf 12 = .ok (.aload_n 0, 1) := by decide +kernel
theorem dX8_doorsOf_13 : decode cX8_doorsOf 13 = .ok (.getfield 17, 3) := by decide +kernel
theorem dX8_doorsOf_16 : decode cX8_doorsOf 16 = .ok (.iload_n 3, 1) := by decide +kernel
theorem dX8_doorsOf_17 : decode cX8_doorsOf 17 = .ok (.aaload, 1) := by decide +kernel
theorem dX8_doorsOf_18 : decode cX8_doorsOf 18 = .ok (.getfield 143, 3) := by decide +kernel
theorem dX8_doorsOf_21 : decode cX8_doorsOf 21 = .ok (.iload_n 1, 1) := by decide +kernel
theorem dX8_doorsOf_22 : decode cX8_doorsOf 22 = .ok (.if_icmp .ne 6, 3) := by decide +kernel
theorem dX8_doorsOf_25 : decode cX8_doorsOf 25 = .ok (.iinc 2 1, 3) := by decide +kernel
theorem dX8_doorsOf_28 : decode cX8_doorsOf 28 = .ok (.iinc 3 1, 3) := by decide +kernel
theorem dX8_doorsOf_31 : decode cX8_doorsOf 31 = .ok (.goto (-27), 3) := by decide +kernel
theorem dX8_doorsOf_34 : decode cX8_doorsOf 34 = .ok (.iload_n 2, 1) := by decide +kernel
theorem dX8_doorsOf_35 : decode cX8_doorsOf 35 = .ok (.ireturn, 1) := by decide +kernel
theorem dX8_keepSecond_0 : decode cX8_keepSecond 0 = .ok (.iconst 0, 1) := by decide +kernel
theorem dX8_keepSecond_1 : decode cX8_keepSecond 1 = .ok (.istore_n 3, 1) := by decide +kernel
theorem dX8_keepSecond_2 : decode cX8_keepSecond 2 = .ok (.iconst 0, 1) := by decide +kernel
theorem dX8_keepSecond_3 : decode cX8_keepSecond 3 = .ok (.istore 4, 2) := by decide +kernel
theorem dX8_keepSecond_5 : decode cX8_keepSecond 5 = .ok (.iconst 0, 1) := by decide +kernel
theorem dX8_keepSecond_6 : decode cX8_keepSecond 6 = .ok (.istore 5, 2) := by decide +kernel
theorem dX8_keepSecond_8 : decode cX8_keepSecond 8 = .ok (.iload 5, 2) := by decide +kernel
theorem dX8_keepSecond_10 : decode cX8_keepSecond 10 = .ok (.aload_n 0, 1) := by decide +kernel
theorem dX8_keepSecond_11 : decode cX8_keepSecond 11 = .ok (.getfield 69, 3) := by decide +kernel
theorem dX8_keepSecond_14 : decode cX8_keepSecond 14 = .ok (.if_icmp .ge 64, 3) := by decide +kernel
theorem dX8_keepSecond_17 : decode cX8_keepSecond 17 = .ok (.aload_n 0, 1) := by decide +kernel
theorem dX8_keepSecond_18 : decode cX8_keepSecond 18 = .ok (.getfield 17, 3) := by decide +kernel
theorem dX8_keepSecond_21 : decode cX8_keepSecond 21 = .ok (.iload 5, 2) := by decide +kernel
theorem dX8_keepSecond_23 : decode cX8_keepSecond 23 = .ok (.aaload, 1) := by decide +kernel
theorem dX8_keepSecond_24 : decode cX8_keepSecond 24 = .ok (.getfield 143, 3) := by decide +kernel
theorem dX8_keepSecond_27 : decode cX8_keepSecond 27 = .ok (.iload_n 1, 1) := by decide +kernel
theorem dX8_keepSecond_28 : decode cX8_keepSecond 28 = .ok (.if_icmp .ne 44, 3) := by decide +kernel
theorem dX8_keepSecond_31 : decode cX8_keepSecond 31 = .ok (.aload_n 2, 1) := by decide +kernel
theorem dX8_keepSecond_32 : decode cX8_keepSecond 32 = .ok (.iload 4, 2) := by decide +kernel
theorem dX8_keepSecond_34 : decode cX8_keepSecond 34 = .ok (.invokevirtual 91, 3) := by decide +kernel
theorem dX8_keepSecond_37 : decode cX8_keepSecond 37 = .ok (.ifCond .eq 35, 3) := by decide +kernel
theorem dX8_keepSecond_40 : decode cX8_keepSecond 40 = .ok (.aload_n 0, 1) := by decide +kernel
theorem dX8_keepSecond_41 : decode cX8_keepSecond 41 = .ok (.getfield 17, 3) := by decide +kernel
theorem dX8_keepSecond_44 : decode cX8_keepSecond 44 = .ok (.iload 5, 2) := by decide +kernel
theorem dX8_keepSecond_46 : decode cX8_keepSecond 46 = .ok (.aaload, 1) := by decide +kernel
theorem dX8_keepSecond_47 : decode cX8_keepSecond 47 = .ok (.aload_n 2, 1) := by decide +kernel
theorem dX8_keepSecond_48 : decode cX8_keepSecond 48 = .ok (.iload 4, 2) := by decide +kernel
theorem dX8_keepSecond_50 : decode cX8_keepSecond 50 = .ok (.invokevirtual 237, 3) := by decide +kernel
theorem dX8_keepSecond_53 : decode cX8_keepSecond 53 = .ok (.putfield 244, 3) := by decide +kernel
theorem dX8_keepSecond_56 : decode cX8_keepSecond 56 = .ok (.iload_n 3, 1) := by decide +kernel
theorem dX8_keepSecond_57 : decode cX8_keepSecond 57 = .ok (.aload_n 0, 1) := by decide +kernel
theorem dX8_keepSecond_58 : decode cX8_keepSecond 58 = .ok (.getfield 17, 3) := by decide +kernel
theorem dX8_keepSecond_61 : decode cX8_keepSecond 61 = .ok (.iload 5, 2) := by decide +kernel
theorem dX8_keepSecond_63 : decode cX8_keepSecond 63 = .ok (.aaload, 1) := by decide +kernel
theorem dX8_keepSecond_64 : decode cX8_keepSecond 64 = .ok (.getfield 244, 3) := by decide +kernel
theorem dX8_keepSecond_67 : decode cX8_keepSecond 67 = .ok (.iadd, 1) := by decide +kernel
theorem dX8_keepSecond_68 : decode cX8_keepSecond 68 = .ok (.istore_n 3, 1) := by decide +kernel
theorem dX8_keepSecond_69 : decode cX8_keepSecond 69 = .ok (.iinc 4 1, 3) := by decide +kernel
theorem dX8_keepSecond_72 : decode cX8_keepSecond 72 = .ok (.iinc 5 1, 3) := by decide +kernel
theorem dX8_keepSecond_75 : decode cX8_keepSecond 75 = .ok (.goto (-67), 3) := by decide +kernel
theorem dX8_keepSecond_78 : decode cX8_keepSecond 78 = .ok (.aload_n 0, 1) := by decide +kernel
theorem dX8_keepSecond_79 : decode cX8_keepSecond 79 = .ok (.dup, 1) := by decide +kernel
theorem dX8_keepSecond_80 : decode cX8_keepSecond 80 = .ok (.getfield 302, 3) := by decide +kernel
theorem dX8_keepSecond_83 : decode cX8_keepSecond 83 = .ok (.iconst 1, 1) := by decide +kernel
theorem dX8_keepSecond_84 : decode cX8_keepSecond 84 = .ok (.iload_n 1, 1) := by decide +kernel
theorem dX8_keepSecond_85 : decode cX8_keepSecond 85 = .ok (.ishl, 1) := by decide +kernel
theorem dX8_keepSecond_86 : decode cX8_keepSecond 86 = .ok (.ior, 1) := by decide +kernel
theorem dX8_keepSecond_87 : decode cX8_keepSecond 87 = .ok (.putfield 302, 3) := by decide +kernel
theorem dX8_keepSecond_90 : decode cX8_keepSecond 90 = .ok (.iload_n 3, 1) := by decide +kernel
theorem dX8_keepSecond_91 : decode cX8_keepSecond 91 = .ok (.ireturn, 1) := by decide +kernel
theorem dX8_doorsWith_0 : decode cX8_doorsWith 0 = .ok (.iconst 0, 1) := by decide +kernel
theorem dX8_doorsWith_1 : decode cX8_doorsWith 1 = .ok (.istore_n 2, 1) := by decide +kernel
theorem dX8_doorsWith_2 : decode cX8_doorsWith 2 = .ok (.iconst 0, 1) := by decide +kernel
theorem dX8_doorsWith_3 : decode cX8_doorsWith 3 = .ok (.istore_n 3, 1) := by decide +kernel
theorem dX8_doorsWith_4 : decode cX8_doorsWith 4 = .ok (.iload_n 3, 1) := by decide +kernel
theorem dX8_doorsWith_5 : decode cX8_doorsWith 5 = .ok (.aload_n 0, 1) := by decide +kernel
theorem dX8_doorsWith_6 : decode cX8_doorsWith 6 = .ok (.getfield 69, 3) := by decide +kernel
theorem dX8_doorsWith_9 : decode cX8_doorsWith 9 = .ok (.if_icmp .ge 25, 3) := by decide +kernel
theorem dX8_doorsWith_12 : decode cX8_doorsWith 12 = .ok (.aload_n 0, 1) := by decide +kernel
theorem dX8_doorsWith_13 : decode cX8_doorsWith 13 = .ok (.getfield 17, 3) := by decide +kernel
theorem dX8_doorsWith_16 : decode cX8_doorsWith 16 = .ok (.iload_n 3, 1) := by decide +kernel
theorem dX8_doorsWith_17 : decode cX8_doorsWith 17 = .ok (.aaload, 1) := by decide +kernel
theorem dX8_doorsWith_18 : decode cX8_doorsWith 18 = .ok (.getfield 185, 3) := by decide +kernel
theorem dX8_doorsWith_21 : decode cX8_doorsWith 21 = .ok (.iload_n 1, 1) := by decide +kernel
theorem dX8_doorsWith_22 : decode cX8_doorsWith 22 = .ok (.if_icmp .ne 6, 3) := by decide +kernel
theorem dX8_doorsWith_25 : decode cX8_doorsWith 25 = .ok (.iinc 2 1, 3) := by decide +kernel
theorem dX8_doorsWith_28 : decode cX8_doorsWith 28 = .ok (.iinc 3 1, 3) := by decide +kernel
theorem dX8_doorsWith_31 : decode cX8_doorsWith 31 = .ok (.goto (-27), 3) := by decide +kernel
theorem dX8_doorsWith_34 : decode cX8_doorsWith 34 = .ok (.iload_n 2, 1) := by decide +kernel
theorem dX8_doorsWith_35 : decode cX8_doorsWith 35 = .ok (.ireturn, 1) := by decide +kernel
theorem dX8_doorsToBeAsked_0 : decode cX8_doorsToBeAsked 0 = .ok (.iconst 0, 1) := by decide +kernel
theorem dX8_doorsToBeAsked_1 : decode cX8_doorsToBeAsked 1 = .ok (.istore_n 1, 1) := by decide +kernel
theorem dX8_doorsToBeAsked_2 : decode cX8_doorsToBeAsked 2 = .ok (.iconst 0, 1) := by decide +kernel
theorem dX8_doorsToBeAsked_3 : decode cX8_doorsToBeAsked 3 = .ok (.istore_n 2, 1) := by decide +kernel
theorem dX8_doorsToBeAsked_4 : decode cX8_doorsToBeAsked 4 = .ok (.iload_n 2, 1) := by decide +kernel
theorem dX8_doorsToBeAsked_5 : decode cX8_doorsToBeAsked 5 = .ok (.aload_n 0, 1) := by decide +kernel
theorem dX8_doorsToBeAsked_6 : decode cX8_doorsToBeAsked 6 = .ok (.getfield 69, 3) := by decide +kernel
theorem dX8_doorsToBeAsked_9 : decode cX8_doorsToBeAsked 9 = .ok (.if_icmp .ge 24, 3) := by decide +kernel
theorem dX8_doorsToBeAsked_12 : decode cX8_doorsToBeAsked 12 = .ok (.aload_n 0, 1) := by decide +kernel
theorem dX8_doorsToBeAsked_13 : decode cX8_doorsToBeAsked 13 = .ok (.getfield 17, 3) := by decide +kernel
theorem dX8_doorsToBeAsked_16 : decode cX8_doorsToBeAsked 16 = .ok (.iload_n 2, 1) := by decide +kernel
theorem dX8_doorsToBeAsked_17 : decode cX8_doorsToBeAsked 17 = .ok (.aaload, 1) := by decide +kernel
theorem dX8_doorsToBeAsked_18 : decode cX8_doorsToBeAsked 18 = .ok (.invokevirtual 160, 3) := by decide +kernel
theorem dX8_doorsToBeAsked_21 : decode cX8_doorsToBeAsked 21 = .ok (.ifCond .eq 6, 3) := by decide +kernel
theorem dX8_doorsToBeAsked_24 : decode cX8_doorsToBeAsked 24 = .ok (.iinc 1 1, 3) := by decide +kernel
theorem dX8_doorsToBeAsked_27 : decode cX8_doorsToBeAsked 27 = .ok (.iinc 2 1, 3) := by decide +kernel
theorem dX8_doorsToBeAsked_30 : decode cX8_doorsToBeAsked 30 = .ok (.goto (-26), 3) := by decide +kernel
theorem dX8_doorsToBeAsked_33 : decode cX8_doorsToBeAsked 33 = .ok (.iload_n 1, 1) := by decide +kernel
theorem dX8_doorsToBeAsked_34 : decode cX8_doorsToBeAsked 34 = .ok (.ireturn, 1) := by decide +kernel
theorem dX8_countedHeads_0 : decode cX8_countedHeads 0 = .ok (.iconst 0, 1) := by decide +kernel
theorem dX8_countedHeads_1 : decode cX8_countedHeads 1 = .ok (.istore_n 1, 1) := by decide +kernel
theorem dX8_countedHeads_2 : decode cX8_countedHeads 2 = .ok (.iconst 0, 1) := by decide +kernel
theorem dX8_countedHeads_3 : decode cX8_countedHeads 3 = .ok (.istore_n 2, 1) := by decide +kernel
theorem dX8_countedHeads_4 : decode cX8_countedHeads 4 = .ok (.iload_n 2, 1) := by decide +kernel
theorem dX8_countedHeads_5 : decode cX8_countedHeads 5 = .ok (.aload_n 0, 1) := by decide +kernel
theorem dX8_countedHeads_6 : decode cX8_countedHeads 6 = .ok (.getfield 69, 3) := by decide +kernel
theorem dX8_countedHeads_9 : decode cX8_countedHeads 9 = .ok (.if_icmp .ge 21, 3) := by decide +kernel
theorem dX8_countedHeads_12 : decode cX8_countedHeads 12 = .ok (.iload_n 1, 1) := by decide +kernel
theorem dX8_countedHeads_13 : decode cX8_countedHeads 13 = .ok (.aload_n 0, 1) := by decide +kernel
theorem dX8_countedHeads_14 : decode cX8_countedHeads 14 = .ok (.getfield 17, 3) := by decide +kernel
theorem dX8_countedHeads_17 : decode cX8_countedHeads 17 = .ok (.iload_n 2, 1) := by decide +kernel
theorem dX8_countedHeads_18 : decode cX8_countedHeads 18 = .ok (.aaload, 1) := by decide +kernel
theorem dX8_countedHeads_19 : decode cX8_countedHeads 19 = .ok (.invokevirtual 247, 3) := by decide +kernel
theorem dX8_countedHeads_22 : decode cX8_countedHeads 22 = .ok (.iadd, 1) := by decide +kernel
theorem dX8_countedHeads_23 : decode cX8_countedHeads 23 = .ok (.istore_n 1, 1) := by decide +kernel
theorem dX8_countedHeads_24 : decode cX8_countedHeads 24 = .ok (.iinc 2 1, 3) := by decide +kernel
theorem dX8_countedHeads_27 : decode cX8_countedHeads 27 = .ok (.goto (-23), 3) := by decide +kernel
theorem dX8_countedHeads_30 : decode cX8_countedHeads 30 = .ok (.iload_n 1, 1) := by decide +kernel
theorem dX8_countedHeads_31 : decode cX8_countedHeads 31 = .ok (.ireturn, 1) := by decide +kernel
theorem dX8_struckHeads_0 : decode cX8_struckHeads 0 = .ok (.iconst 0, 1) := by decide +kernel
theorem dX8_struckHeads_1 : decode cX8_struckHeads 1 = .ok (.istore_n 1, 1) := by decide +kernel
theorem dX8_struckHeads_2 : decode cX8_struckHeads 2 = .ok (.iconst 0, 1) := by decide +kernel
theorem dX8_struckHeads_3 : decode cX8_struckHeads 3 = .ok (.istore_n 2, 1) := by decide +kernel
theorem dX8_struckHeads_4 : decode cX8_struckHeads 4 = .ok (.iload_n 2, 1) := by decide +kernel
theorem dX8_struckHeads_5 : decode cX8_struckHeads 5 = .ok (.aload_n 0, 1) := by decide +kernel
theorem dX8_struckHeads_6 : decode cX8_struckHeads 6 = .ok (.getfield 69, 3) := by decide +kernel
theorem dX8_struckHeads_9 : decode cX8_struckHeads 9 = .ok (.if_icmp .ge 24, 3) := by decide +kernel
theorem dX8_struckHeads_12 : decode cX8_struckHeads 12 = .ok (.iload_n 1, 1) := by decide +kernel
theorem dX8_struckHeads_13 : decode cX8_struckHeads 13 = .ok (.aload_n 0, 1) := by decide +kernel
theorem dX8_struckHeads_14 : decode cX8_struckHeads 14 = .ok (.getfield 17, 3) := by decide +kernel
theorem dX8_struckHeads_17 : decode cX8_struckHeads 17 = .ok (.iload_n 2, 1) := by decide +kernel
theorem dX8_struckHeads_18 : decode cX8_struckHeads 18 = .ok (.aaload, 1) := by decide +kernel
theorem dX8_struckHeads_19 : decode cX8_struckHeads 19 = .ok (.getfield 320, 3) := by decide +kernel
theorem dX8_struckHeads_22 : decode cX8_struckHeads 22 = .ok (.invokestatic 305, 3) := by decide +kernel
theorem dX8_struckHeads_25 : decode cX8_struckHeads 25 = .ok (.iadd, 1) := by decide +kernel
theorem dX8_struckHeads_26 : decode cX8_struckHeads 26 = .ok (.istore_n 1, 1) := by decide +kernel
theorem dX8_struckHeads_27 : decode cX8_struckHeads 27 = .ok (.iinc 2 1, 3) := by decide +kernel
theorem dX8_struckHeads_30 : decode cX8_struckHeads 30 = .ok (.goto (-26), 3) := by decide +kernel
theorem dX8_struckHeads_33 : decode cX8_struckHeads 33 = .ok (.iload_n 1, 1) := by decide +kernel
theorem dX8_struckHeads_34 : decode cX8_struckHeads 34 = .ok (.ireturn, 1) := by decide +kernel
theorem dX8_commonDivisor_0 : decode cX8_commonDivisor 0 = .ok (.lload_n 0, 1) := by decide +kernel
theorem dX8_commonDivisor_1 : decode cX8_commonDivisor 1 = .ok (.lstore 4, 2) := by decide +kernel
theorem dX8_commonDivisor_3 : decode cX8_commonDivisor 3 = .ok (.lload_n 2, 1) := by decide +kernel
theorem dX8_commonDivisor_4 : decode cX8_commonDivisor 4 = .ok (.lstore 6, 2) := by decide +kernel
theorem dX8_commonDivisor_6 : decode cX8_commonDivisor 6 = .ok (.iconst 0, 1) := by decide +kernel
theorem dX8_commonDivisor_7 : decode cX8_commonDivisor 7 = .ok (.istore 8, 2) := by decide +kernel
theorem dX8_commonDivisor_9 : decode cX8_commonDivisor 9 = .ok (.iload 8, 2) := by decide +kernel
theorem dX8_commonDivisor_11 : decode cX8_commonDivisor 11 = .ok (.sipush 200, 3) := by decide +kernel
theorem dX8_commonDivisor_14 : decode cX8_commonDivisor 14 = .ok (.if_icmp .ge 31, 3) := by decide +kernel
theorem dX8_commonDivisor_17 : decode cX8_commonDivisor 17 = .ok (.lload 6, 2) := by decide +kernel
theorem dX8_commonDivisor_19 : decode cX8_commonDivisor 19 = .ok (.lconst 0, 1) := by decide +kernel
theorem dX8_commonDivisor_20 : decode cX8_commonDivisor 20 = .ok (.lcmp, 1) := by decide +kernel
theorem dX8_commonDivisor_21 : decode cX8_commonDivisor 21 = .ok (.ifCond .eq 24, 3) := by decide +kernel
theorem dX8_commonDivisor_24 : decode cX8_commonDivisor 24 = .ok (.lload 4, 2) := by decide +kernel
theorem dX8_commonDivisor_26 : decode cX8_commonDivisor 26 = .ok (.lload 6, 2) := by decide +kernel
theorem dX8_commonDivisor_28 : decode cX8_commonDivisor 28 = .ok (.lrem, 1) := by decide +kernel
theorem dX8_commonDivisor_29 : decode cX8_commonDivisor 29 = .ok (.lstore 9, 2) := by decide +kernel
theorem dX8_commonDivisor_31 : decode cX8_commonDivisor 31 = .ok (.lload 6, 2) := by decide +kernel
theorem dX8_commonDivisor_33 : decode cX8_commonDivisor 33 = .ok (.lstore 4, 2) := by decide +kernel
theorem dX8_commonDivisor_35 : decode cX8_commonDivisor 35 = .ok (.lload 9, 2) := by decide +kernel
theorem dX8_commonDivisor_37 : decode cX8_commonDivisor 37 = .ok (.lstore 6, 2) := by decide +kernel
theorem dX8_commonDivisor_39 : decode cX8_commonDivisor 39 = .ok (.iinc 8 1, 3) := by decide +kernel
theorem dX8_commonDivisor_42 : decode cX8_commonDivisor 42 = .ok (.goto (-33), 3) := by decide +kernel
theorem dX8_commonDivisor_45 : decode cX8_commonDivisor 45 = .ok (.lload 4, 2) := by decide +kernel
theorem dX8_commonDivisor_47 : decode cX8_commonDivisor 47 = .ok (.lreturn, 1) := by decide +kernel
end
section
theorem dX9_init_0 : decode cX9_init 0 = .ok (.aload_n 0, 1) := by decide +kernel
theorem dX9_init_1 : decode cX9_init 1 = .ok (.invokespecial 1, 3) := by decide +kernel
theorem dX9_init_4 : decode cX9_init 4 = .ok (.aload_n 0, 1) := by decide +kernel
theorem dX9_init_5 : decode cX9_init 5 = .ok (.bipush 24, 2) := by decide +kernel
theorem dX9_init_7 : decode cX9_init 7 = .ok (.newarray .int, 2) := by decide +kernel
theorem dX9_init_9 : decode cX9_init 9 = .ok (.putfield 7, 3) := by decide +kernel
theorem dX9_init_12 : decode cX9_init 12 = .ok (.aload_n 0, 1) := by decide +kernel
theorem dX9_init_13 : decode cX9_init 13 = .ok (.bipush 24, 2) := by decide +kernel
theorem dX9_init_15 : decode cX9_init 15 = .ok (.newarray .int, 2) := by decide +kernel
theorem dX9_init_17 : decode cX9_init 17 = .ok (.putfield 13, 3) := by decide +kernel
theorem dX9_init_20 : decode cX9_init 20 = .ok (.aload_n 0, 1) := by decide +kernel
theorem dX9_init_21 : decode cX9_init 21 = .ok (.bipush 24, 2) := by decide +kernel
theorem dX9_init_23 : decode cX9_init 23 = .ok (.newarray .int, 2) := by decide +kernel
theorem dX9_init_25 : decode cX9_init 25 = .ok (.putfield 16, 3) := by decide +kernel
theorem dX9_init_28 : decode cX9_init 28 = .ok (.aload_n 0, 1) := by decide +kernel
theorem dX9_init_29 : decode cX9_init 29 = .ok (.bipush 24, 2) := by decide +kernel
theorem dX9_init_31 : decode cX9_init 31 = .ok (.newarray .int, 2) := by decide +kernel
theorem dX9_init_33 : decode cX9_init 33 = .ok (.putfield 19, 3) := by decide +kernel
theorem dX9_init_36 : decode cX9_init 36 = .ok (.aload_n 0, 1) := by decide +kernel
theorem dX9_init_37 : decode cX9_init 37 = .ok (.sipush 288, 3) := by decide +kernel
theorem dX9_init_40 : decode cX9_init 40 = .ok (.newarray .int, 2) := by decide +kernel
theorem dX9_init_42 : decode cX9_init 42 = .ok (.putfield 22, 3) := by decide +kernel
theorem dX9_init_45 : decode cX9_init 45 = .ok (.aload_n 0, 1) := by decide +kernel
theorem dX9_init_46 : decode cX9_init 46 = .ok (.bipush 24, 2) := by decide +kernel
theorem dX9_init_48 : decode cX9_init 48 = .ok (.newarray .int, 2) := by decide +kernel
theorem dX9_init_50 : decode cX9_init 50 = .ok (.putfield 25, 3) := by decide +kernel
theorem dX9_init_53 : decode cX9_init 53 = .ok (.aload_n 0, 1) := by decide +kernel
theorem dX9_init_54 : decode cX9_init 54 = .ok (.bipush 24, 2) := by decide +kernel
theorem dX9_init_56 : decode cX9_init 56 = .ok (.newarray .int, 2) := by decide +kernel
theorem dX9_init_58 : decode cX9_init 58 = .ok (.putfield 28, 3) := by decide +kernel
theorem dX9_init_61 : decode cX9_init 61 = .ok (.aload_n 0, 1) := by decide +kernel
theorem dX9_init_62 : decode cX9_init 62 = .ok (.sipush 288, 3) := by decide +kernel
theorem dX9_init_65 : decode cX9_init 65 = .ok (.newarray .int, 2) := by decide +kernel
theorem dX9_init_67 : decode cX9_init 67 = .ok (.putfield 31, 3) := by decide +kernel
theorem dX9_init_70 : decode cX9_init 70 = .ok (.aload_n 0, 1) := by decide +kernel
theorem dX9_init_71 : decode cX9_init 71 = .ok (.bipush 24, 2) := by decide +kernel
theorem dX9_init_73 : decode cX9_init 73 = .ok (.newarray .int, 2) := by decide +kernel
theorem dX9_init_75 : decode cX9_init 75 = .ok (.putfield 34, 3) := by decide +kernel
theorem dX9_init_78 : decode cX9_init 78 = .ok (.aload_n 0, 1) := by decide +kernel
theorem dX9_init_79 : decode cX9_init 79 = .ok (.bipush 24, 2) := by decide +kernel
theorem dX9_init_81 : decode cX9_init 81 = .ok (.newarray .int, 2) := by decide +kernel
theorem dX9_init_83 : decode cX9_init 83 = .ok (.putfield 37, 3) := by decide +kernel
theorem dX9_init_86 : decode cX9_init 86 = .ok (.aload_n 0, 1) := by decide +kernel
theorem dX9_init_87 : decode cX9_init 87 = .ok (.bipush 24, 2) := by decide +kernel
theorem dX9_init_89 : decode cX9_init 89 = .ok (.newarray .int, 2) := by decide +kernel
theorem dX9_init_91 : decode cX9_init 91 = .ok (.putfield 40, 3) := by decide +kernel
theorem dX9_init_94 : decode cX9_init 94 = .ok (.aload_n 0, 1) := by decide +kernel
theorem dX9_init_95 : decode cX9_init 95 = .ok (.bipush 24, 2) := by decide +kernel
theorem dX9_init_97 : decode cX9_init 97 = .ok (.newarray .int, 2) := by decide +kernel
theorem dX9_init_99 : decode cX9_init 99 = .ok (.putfield 43, 3) := by decide +kernel
theorem dX9_init_102 : decode cX9_init 102 = .ok (.aload_n 0, 1) := by decide +kernel
theorem dX9_init_103 : decode cX9_init 103 = .ok (.bipush 24, 2) := by decide +kernel
theorem dX9_init_105 : decode cX9_init 105 = .ok (.newarray .boolean, 2) := by decide +kernel
theorem dX9_init_107 : decode cX9_init 107 = .ok (.putfield 46, 3) := by decide +kernel
theorem dX9_init_110 : decode cX9_init 110 = .ok (.aload_n 0, 1) := by decide +kernel
theorem dX9_init_111 : decode cX9_init 111 = .ok (.sipush 288, 3) := by decide +kernel
theorem dX9_init_114 : decode cX9_init 114 = .ok (.newarray .boolean, 2) := by decide +kernel
theorem dX9_init_116 : decode cX9_init 116 = .ok (.putfield 50, 3) := by decide +kernel
theorem dX9_init_119 : decode cX9_init 119 = .ok (.aload_n 0, 1) := by decide +kernel
theorem dX9_init_120 : decode cX9_init 120 = .ok (.bipush 36, 2) := by decide +kernel
theorem dX9_init_122 : decode cX9_init 122 = .ok (.newarray .boolean, 2) := by decide +kernel
theorem dX9_init_124 : decode cX9_init 124 = .ok (.putfield 53, 3) := by decide +kernel
theorem dX9_init_127 : decode cX9_init 127 = .ok (.aload_n 0, 1) := by decide +kernel
theorem dX9_init_128 : decode cX9_init 128 = .ok (.bipush 6, 2) := by decide +kernel
theorem dX9_init_130 : decode cX9_init 130 = .ok (.newarray .boolean, 2) := by decide +kernel
theorem dX9_init_132 : decode cX9_init 132 = .ok (.putfield 56, 3) := by decide +kernel
theorem dX9_init_135 : decode cX9_init 135 = .ok (.aload_n 0, 1) := by decide +kernel
theorem dX9_init_136 : decode cX9_init 136 = .ok (.bipush 24, 2) := by decide +kernel
theorem dX9_init_138 : decode cX9_init 138 = .ok (.newarray .boolean, 2) := by decide +kernel
theorem dX9_init_140 : decode cX9_init 140 = .ok (.putfield 59, 3) := by decide +kernel
theorem dX9_init_143 : decode cX9_init 143 = .ok (.aload_n 0, 1) := by decide +kernel
theorem dX9_init_144 : decode cX9_init 144 = .ok (.iconst 3, 1) := by decide +kernel
theorem dX9_init_145 : decode cX9_init 145 = .ok (.putfield 62, 3) := by decide +kernel
theorem dX9_init_148 : decode cX9_init 148 = .ok (.aload_n 0, 1) := by decide +kernel
theorem dX9_init_149 : decode cX9_init 149 = .ok (.iconst 2, 1) := by decide +kernel
theorem dX9_init_150 : decode cX9_init 150 = .ok (.putfield 66, 3) := by decide +kernel
theorem dX9_init_153 : decode cX9_init 153 = .ok (.aload_n 0, 1) := by decide +kernel
theorem dX9_init_154 : decode cX9_init 154 = .ok (.iconst 3, 1) := by decide +kernel
theorem dX9_init_155 : decode cX9_init 155 = .ok (.putfield 69, 3) := by decide +kernel
theorem dX9_init_158 : decode cX9_init 158 = .ok (.aload_n 0, 1) := by decide +kernel
theorem dX9_init_159 : decode cX9_init 159 = .ok (.iconst (-1), 1) := by decide +kernel
theorem dX9_init_160 : decode cX9_init 160 = .ok (.putfield 72, 3) := by decide +kernel
theorem dX9_init_163 : decode cX9_init 163 = .ok (.aload_n 0, 1) := by decide +kernel
theorem dX9_init_164 : decode cX9_init 164 = .ok (.bipush 40, 2) := by decide +kernel
theorem dX9_init_166 : decode cX9_init 166 = .ok (.newarray .int, 2) := by decide +kernel
theorem dX9_init_168 : decode cX9_init 168 = .ok (.putfield 75, 3) := by decide +kernel
theorem dX9_init_171 : decode cX9_init 171 = .ok (.aload_n 0, 1) := by decide +kernel
theorem dX9_init_172 : decode cX9_init 172 = .ok (.bipush 40, 2) := by decide +kernel
theorem dX9_init_174 : decode cX9_init 174 = .ok (.newarray .int, 2) := by decide +kernel
theorem dX9_init_176 : decode cX9_init 176 = .ok (.putfield 78, 3) := by decide +kernel
theorem dX9_init_179 : decode cX9_init 179 = .ok (.aload_n 0, 1) := by decide +kernel
theorem dX9_init_180 : decode cX9_init 180 = .ok (.bipush 8, 2) := by decide +kernel
theorem dX9_init_182 : decode cX9_init 182 = .ok (.newarray .int, 2) := by decide +kernel
theorem dX9_init_184 : decode cX9_init 184 = .ok (.putfield 81, 3) := by decide +kernel
theorem dX9_init_187 : decode cX9_init 187 = .ok (.aload_n 0, 1) := by decide +kernel
theorem dX9_init_188 : decode cX9_init 188 = .ok (.bipush 8, 2) := by decide +kernel
theorem dX9_init_190 : decode cX9_init 190 = .ok (.newarray .int, 2) := by decide +kernel
theorem dX9_init_192 : decode cX9_init 192 = .ok (.putfield 84, 3) := by decide +kernel
theorem dX9_init_195 : decode cX9_init 195 = .ok (.aload_n 0, 1) := by decide +kernel
theorem dX9_init_196 : decode cX9_init 196 = .ok (.bipush 8, 2) := by decide +kernel
theorem dX9_init_198 : decode cX9_init 198 = .ok (.newarray .int, 2) := by decide +kernel
theorem dX9_init_200 : decode cX9_init 200 = .ok (.putfield 87, 3) := by decide +kernel
theorem dX9_init_203 : decode cX9_init 203 = .ok (.aload_n 0, 1) := by decide +kernel
theorem dX9_init_204 : decode cX9_init 204 = .ok (.bipush 8, 2) := by decide +kernel
theorem dX9_init_206 : decode cX9_init 206 = .ok (.newarray .int, 2) := by decide +kernel
theorem dX9_init_208 : decode cX9_init 208 = .ok (.putfield 90, 3) := by decide +kernel
theorem dX9_init_211 : decode cX9_init 211 = .ok (.aload_n 0, 1) := by decide +kernel
theorem dX9_init_212 : decode cX9_init 212 = .ok (.sipush 240, 3) := by decide +kernel
theorem dX9_init_215 : decode cX9_init 215 = .ok (.newarray .long, 2) := by decide +kernel
theorem dX9_init_217 : decode cX9_init 217 = .ok (.putfield 93, 3) := by decide +kernel
theorem dX9_init_220 : decode cX9_init 220 = .ok (.aload_n 0, 1) := by decide +kernel
theorem dX9_init_221 : decode cX9_init 221 = .ok (.bipush 30, 2) := by decide +kernel
theorem dX9_init_223 : decode cX9_init 223 = .ok (.newarray .long, 2) := by decide +kernel
theorem dX9_init_225 : decode cX9_init 225 = .ok (.putfield 97, 3) := by decide +kernel
theorem dX9_init_228 : decode cX9_init 228 = .ok (.aload_n 0, 1) := by decide +kernel
theorem dX9_init_229 : decode cX9_init 229 = .ok (.bipush 6, 2) := by decide +kernel
theorem dX9_init_231 : decode cX9_init 231 = .ok (.newarray .int, 2) := by decide +kernel
theorem dX9_init_233 : decode cX9_init 233 = .ok (.putfield 100, 3) := by decide +kernel
theorem dX9_init_236 : decode cX9_init 236 = .ok (.aload_n 0, 1) := by decide +kernel
theorem dX9_init_237 : decode cX9_init 237 = .ok (.bipush 6, 2) := by decide +kernel
theorem dX9_init_239 : decode cX9_init 239 = .ok (.newarray .int, 2) := by decide +kernel
theorem dX9_init_241 : decode cX9_init 241 = .ok (.putfield 103, 3) := by decide +kernel
theorem dX9_init_244 : decode cX9_init 244 = .ok (.aload_n 0, 1) := by decide +kernel
theorem dX9_init_245 : decode cX9_init 245 = .ok (.bipush 6, 2) := by decide +kernel
theorem dX9_init_247 : decode cX9_init 247 = .ok (.newarray .int, 2) := by decide +kernel
theorem dX9_init_249 : decode cX9_init 249 = .ok (.putfield 106, 3) := by decide +kernel
theorem dX9_init_252 : decode cX9_init 252 = .ok (.aload_n 0, 1) := by decide +kernel
theorem dX9_init_253 : decode cX9_init 253 = .ok (.bipush 6, 2) := by decide +kernel
theorem dX9_init_255 : decode cX9_init 255 = .ok (.newarray .int, 2) := by decide +kernel
theorem dX9_init_257 : decode cX9_init 257 = .ok (.putfield 109, 3) := by decide +kernel
theorem dX9_init_260 : decode cX9_init 260 = .ok (.aload_n 0, 1) := by decide +kernel
theorem dX9_init_261 : decode cX9_init 261 = .ok (.bipush 6, 2) := by decide +kernel
theorem dX9_init_263 : decode cX9_init 263 = .ok (.newarray .int, 2) := by decide +kernel
theorem dX9_init_265 : decode cX9_init 265 = .ok (.putfield 112, 3) := by decide +kernel
theorem dX9_init_268 : decode cX9_init 268 = .ok (.aload_n 0, 1) := by decide +kernel
theorem dX9_init_269 : decode cX9_init 269 = .ok (.bipush 24, 2) := by decide +kernel
theorem dX9_init_271 : decode cX9_init 271 = .ok (.newarray .int, 2) := by decide +kernel
theorem dX9_init_273 : decode cX9_init 273 = .ok (.putfield 115, 3) := by decide +kernel
theorem dX9_init_276 : decode cX9_init 276 = .ok (.aload_n 0, 1) := by decide +kernel
theorem dX9_init_277 : decode cX9_init 277 = .ok (.bipush 24, 2) := by decide +kernel
theorem dX9_init_279 : decode cX9_init 279 = .ok (.newarray .int, 2) := by decide +kernel
theorem dX9_init_281 : decode cX9_init 281 = .ok (.putfield 118, 3) := by decide +kernel
theorem dX9_init_284 : decode cX9_init 284 = .ok (.aload_n 0, 1) := by decide +kernel
theorem dX9_init_285 : decode cX9_init 285 = .ok (.bipush 24, 2) := by decide +kernel
theorem dX9_init_287 : decode cX9_init 287 = .ok (.newarray .int, 2) := by decide +kernel
theorem dX9_init_289 : decode cX9_init 289 = .ok (.putfield 121, 3) := by decide +kernel
theorem dX9_init_292 : decode cX9_init 292 = .ok (.aload_n 0, 1) := by decide +kernel
theorem dX9_init_293 : decode cX9_init 293 = .ok (.bipush 24, 2) := by decide +kernel
theorem dX9_init_295 : decode cX9_init 295 = .ok (.newarray .boolean, 2) := by decide +kernel
theorem dX9_init_297 : decode cX9_init 297 = .ok (.putfield 124, 3) := by decide +kernel
theorem dX9_init_300 : decode cX9_init 300 = .ok (.aload_n 0, 1) := by decide +kernel
theorem dX9_init_301 : decode cX9_init 301 = .ok (.bipush 24, 2) := by decide +kernel
theorem dX9_init_303 : decode cX9_init 303 = .ok (.newarray .boolean, 2) := by decide +kernel
theorem dX9_init_305 : decode cX9_init 305 = .ok (.putfield 127, 3) := by decide +kernel
theorem dX9_init_308 : decode cX9_init 308 = .ok (.aload_n 0, 1) := by decide +kernel
theorem dX9_init_309 : decode cX9_init 309 = .ok (.bipush 10, 2) := by decide +kernel
theorem dX9_init_311 : decode cX9_init 311 = .ok (.newarray .int, 2) := by decide +kernel
theorem dX9_init_313 : decode cX9_init 313 = .ok (.putfield 130, 3) := by decide +kernel
theorem dX9_init_316 : decode cX9_init 316 = .ok (.aload_n 0, 1) := by decide +kernel
theorem dX9_init_317 : decode cX9_init 317 = .ok (.bipush 10, 2) := by decide +kernel
theorem dX9_init_319 : decode cX9_init 319 = .ok (.newarray .int, 2) := by decide +kernel
theorem dX9_init_321 : decode cX9_init 321 = .ok (.putfield 133, 3) := by decide +kernel
theorem dX9_init_324 : decode cX9_init 324 = .ok (.aload_n 0, 1) := by decide +kernel
theorem dX9_init_325 : decode cX9_init 325 = .ok (.iconst 4, 1) := by decide +kernel
theorem dX9_init_326 : decode cX9_init 326 = .ok (.newarray .int, 2) := by decide +kernel
theorem dX9_init_328 : decode cX9_init 328 = .ok (.putfield 136, 3) := by decide +kernel
theorem dX9_init_331 : decode cX9_init 331 = .ok (.iconst 0, 1) := by decide +kernel
theorem dX9_init_332 : decode cX9_init 332 = .ok (.istore_n 1, 1) := by decide +kernel
theorem dX9_init_333 : decode cX9_init 333 = .ok (.iload_n 1, 1) := by decide +kernel
theorem dX9_init_334 : decode cX9_init 334 = .ok (.bipush 6, 2) := by decide +kernel
theorem dX9_init_336 : decode cX9_init 336 = .ok (.if_icmp .ge 16, 3) := by decide +kernel
theorem dX9_init_339 : decode cX9_init 339 = .ok (.aload_n 0, 1) := by decide +kernel
theorem dX9_init_340 : decode cX9_init 340 = .ok (.getfield 109, 3) := by decide +kernel
theorem dX9_init_343 : decode cX9_init 343 = .ok (.iload_n 1, 1) := by decide +kernel
theorem dX9_init_344 : decode cX9_init 344 = .ok (.iconst (-1), 1) := by decide +kernel
theorem dX9_init_345 : decode cX9_init 345 = .ok (.iastore, 1) := by decide +kernel
theorem dX9_init_346 : decode cX9_init 346 = .ok (.iinc 1 1, 3) := by decide +kernel
theorem dX9_init_349 : decode cX9_init 349 = .ok (.goto (-16), 3) := by decide +kernel
theorem dX9_init_352 : decode cX9_init 352 = .ok (.return_, 1) := by decide +kernel
theorem dX9_isIn_0 : decode cX9_isIn 0 = .ok (.lload_n 0, 1) := by decide +kernel
theorem dX9_isIn_1 : decode cX9_isIn 1 = .ok (.lload_n 2, 1) := by decide +kernel
theorem dX9_isIn_2 : decode cX9_isIn 2 = .ok (.lcmp, 1) := by decide +kernel
theorem dX9_isIn_3 : decode cX9_isIn 3 = .ok (.ifCond .lt 14, 3) := by decide +kernel
theorem dX9_isIn_6 : decode cX9_isIn 6 = .ok (.lload_n 0, 1) := by decide +kernel
theorem dX9_isIn_7 : decode cX9_isIn 7 = .ok (.lload 4, 2) := by decide +kernel
theorem dX9_isIn_9 : decode cX9_isIn 9 = .ok (.lcmp, 1) := by decide +kernel
theorem dX9_isIn_10 : decode cX9_isIn 10 = .ok (.ifCond .gt 7, 3) := by decide +kernel
theorem dX9_isIn_13 : decode cX9_isIn 13 = .ok (.iconst 1, 1) := by decide +kernel
theorem dX9_isIn_14 : decode cX9_isIn 14 = .ok (.goto 4, 3) := by decide +kernel
theorem dX9_isIn_17 : decode cX9_isIn 17 = .ok (.iconst 0, 1) := by decide +kernel
theorem dX9_isIn_18 : decode cX9_isIn 18 = .ok (.ireturn, 1) := by decide +kernel
theorem dX9_no_0 : decode cX9_no 0 = .ok (.aload_n 0, 1) := by decide +kernel
theorem dX9_no_1 : decode cX9_no 1 = .ok (.getfield 81, 3) := by decide +kernel
theorem dX9_no_4 : decode cX9_no 4 = .ok (.iload_n 1, 1) := by decide +kernel
theorem dX9_no_5 : decode cX9_no 5 = .ok (.ineg, 1) := by decide +kernel
theorem dX9_no_6 : decode cX9_no 6 = .ok (.dup2, 1) := by decide +kernel
theorem dX9_no_7 : decode cX9_no 7 = .ok (.iaload, 1) := by decide +kernel
theorem dX9_no_8 : decode cX9_no 8 = .ok (.iconst 1, 1) := by decide +kernel
theorem dX9_no_9 : decode cX9_no 9 = .ok (.iadd, 1) := by decide +kernel
theorem dX9_no_10 : decode cX9_no 10 = .ok (.iastore, 1) := by decide +kernel
theorem dX9_no_11 : decode cX9_no 11 = .ok (.iload_n 1, 1) := by decide +kernel
theorem dX9_no_12 : decode cX9_no 12 = .ok (.ireturn, 1) := by decide +kernel
theorem dX9_isBlock_0 : decode cX9_isBlock 0 = .ok (.iload_n 0, 1) := by decide +kernel
theorem dX9_isBlock_1 : decode cX9_isBlock 1 = .ok (.ifCond .lt 13, 3) := by decide +kernel
theorem dX9_isBlock_4 : decode cX9_isBlock 4 = .ok (.iload_n 0, 1) := by decide +kernel
theorem dX9_isBlock_5 : decode cX9_isBlock 5 = .ok (.bipush 6, 2) := by decide +kernel
theorem dX9_isBlock_7 : decode cX9_isBlock 7 = .ok (.if_icmp .ge 7, 3) := by decide +kernel
theorem dX9_isBlock_10 : decode cX9_isBlock 10 = .ok (.iconst 1, 1) := by decide +kernel
theorem dX9_isBlock_11 : decode cX9_isBlock 11 = .ok (.goto 4, 3) := by decide +kernel
theorem dX9_isBlock_14 : decode cX9_isBlock 14 = .ok (.iconst 0, 1) := by decide +kernel
theorem dX9_isBlock_15 : decode cX9_isBlock 15 = .ok (.ireturn, 1) := by decide +kernel
theorem dX9_isDoor_0 : decode cX9_isDoor 0 = .ok (.iload_n 1, 1) := by decide +kernel
theorem dX9_isDoor_1 : decode cX9_isDoor 1 = .ok (.ifCond .lt 15, 3) := by decide +kernel
theorem dX9_isDoor_4 : decode cX9_isDoor 4 = .ok (.iload_n 1, 1) := by decide +kernel
theorem dX9_isDoor_5 : decode cX9_isDoor 5 = .ok (.aload_n 0, 1) := by decide +kernel
theorem dX9_isDoor_6 : decode cX9_isDoor 6 = .ok (.getfield 139, 3) := by decide +kernel
theorem dX9_isDoor_9 : decode cX9_isDoor 9 = .ok (.if_icmp .ge 7, 3) := by decide +kernel
theorem dX9_isDoor_12 : decode cX9_isDoor 12 = .ok (.iconst 1, 1) := by decide +kernel
theorem dX9_isDoor_13 : decode cX9_isDoor 13 = .ok (.goto 4, 3) := by decide +kernel
theorem dX9_isDoor_16 : decode cX9_isDoor 16 = .ok (.iconst 0, 1) := by decide +kernel
theorem dX9_isDoor_17 : decode cX9_isDoor 17 = .ok (.ireturn, 1) := by decide +kernel
theorem dX9_isShelf_0 : decode cX9_isShelf 0 = .ok (.iload_n 0, 1) := by decide +kernel
theorem dX9_isShelf_1 : decode cX9_isShelf 1 = .ok (.ifCond .lt 13, 3) := by decide +kernel
theorem dX9_isShelf_4 : decode cX9_isShelf 4 = .ok (.iload_n 0, 1) := by decide +kernel
theorem dX9_isShelf_5 : decode cX9_isShelf 5 = .ok (.bipush 8, 2) := by decide +kernel
theorem dX9_isShelf_7 : decode cX9_isShelf 7 = .ok (.if_icmp .ge 7, 3) := by decide +kernel
theorem dX9_isShelf_10 : decode cX9_isShelf 10 = .ok (.iconst 1, 1) := by decide +kernel
theorem dX9_isShelf_11 : decode cX9_isShelf 11 = .ok (.goto 4, 3) := by decide +kernel
theorem dX9_isShelf_14 : decode cX9_isShelf 14 = .ok (.iconst 0, 1) := by decide +kernel
theorem dX9_isShelf_15 : decode cX9_isShelf 15 = .ok (.ireturn, 1) := by decide +kernel
theorem dX9_lesser_0 : decode cX9_lesser 0 = .ok (.iload_n 0, 1) := by decide +kernel
theorem dX9_lesser_1 : decode cX9_lesser 1 = .ok (.iload_n 1, 1) := by decide +kernel
theorem dX9_lesser_2 : decode cX9_lesser 2 = .ok (.if_icmp .ge 7, 3) := by decide +kernel
theorem dX9_lesser_5 : decode cX9_lesser 5 = .ok (.iload_n 0, 1) := by decide +kernel
theorem dX9_lesser_6 : decode cX9_lesser 6 = .ok (.goto 4, 3) := by decide +kernel
theorem dX9_lesser_9 : decode cX9_lesser 9 = .ok (.iload_n 1, 1) := by decide +kernel
theorem dX9_lesser_10 : decode cX9_lesser 10 = .ok (.ireturn, 1) := by decide +kernel
theorem dX9_door_0 : decode cX9_door 0 = .ok (.iload_n 1, 1) := by decide +kernel
theorem dX9_door_1 : decode cX9_door 1 = .ok (.invokestatic 142, 3) := by decide +kernel
theorem dX9_door_4 : decode cX9_door 4 = .ok (.ifCond .ne 9, 3) := by decide +kernel
theorem dX9_door_7 : decode cX9_door 7 = .ok (.aload_n 0, 1) := by decide +kernel
theorem dX9_door_8 : decode cX9_door 8 = .ok (.iconst (-1), 1) := by decide +kernel
theorem dX9_door_9 : decode cX9_door 9 = .ok (.invokevirtual 146, 3) := by decide +kernel
theorem dX9_door_12 : decode cX9_door 12 = .ok (.ireturn, 1) := by decide +kernel
theorem dX9_door_13 : decode cX9_door 13 = .ok (.iload_n 2, 1) := by decide +kernel
theorem dX9_door_14 : decode cX9_door 14 = .ok (.i2l, 1) := by decide +kernel
theorem dX9_door_15 : decode cX9_door 15 = .ok (.lconst 0, 1) := by decide +kernel
theorem dX9_door_16 : decode cX9_door 16 = .ok (.ldc2_w 150, 3) := by decide +kernel
theorem dX9_door_19 : decode cX9_door 19 = .ok (.invokestatic 152, 3) := by decide +kernel
theorem dX9_door_22 : decode cX9_door 22 = .ok (.ifCond .eq 22, 3) := by decide +kernel
theorem dX9_door_25 : decode cX9_door 25 = .ok (.iload_n 3, 1) := by decide +kernel
theorem dX9_door_26 : decode cX9_door 26 = .ok (.i2l, 1) := by decide +kernel
theorem dX9_door_27 : decode cX9_door 27 = .ok (.lconst 0, 1) := by decide +kernel
theorem dX9_door_28 : decode cX9_door 28 = .ok (.ldc2_w 156, 3) := by decide +kernel
theorem dX9_door_31 : decode cX9_door 31 = .ok (.invokestatic 152, 3) := by decide +kernel
theorem dX9_door_34 : decode cX9_door 34 = .ok (.ifCond .eq 10, 3) := by decide +kernel
theorem dX9_door_37 : decode cX9_door 37 = .ok (.aload_n 0, 1) := by decide +kernel
theorem dX9_door_38 : decode cX9_door 38 = .ok (.getfield 158, 3) := by decide +kernel
theorem dX9_door_41 : decode cX9_door 41 = .ok (.ifCond .eq 10, 3) := by decide +kernel
theorem dX9_door_44 : decode cX9_door 44 = .ok (.aload_n 0, 1) := by decide +kernel
theorem dX9_door_45 : decode cX9_door 45 = .ok (.bipush (-6), 2) := by decide +kernel
theorem dX9_door_47 : decode cX9_door 47 = .ok (.invokevirtual 146, 3) := by decide +kernel
theorem dX9_door_50 : decode cX9_door 50 = .ok (.ireturn, 1) := by decide +kernel
theorem dX9_door_51 : decode cX9_door 51 = .ok (.aload_n 0, 1) := by decide +kernel
theorem dX9_door_52 : decode cX9_door 52 = .ok (.getfield 139, 3) := by decide +kernel
theorem dX9_door_55 : decode cX9_door 55 = .ok (.bipush 24, 2) := by decide +kernel
theorem dX9_door_57 : decode cX9_door 57 = .ok (.if_icmp .ne 10, 3) := by decide +kernel
theorem dX9_door_60 : decode cX9_door 60 = .ok (.aload_n 0, 1) := by decide +kernel
theorem dX9_door_61 : decode cX9_door 61 = .ok (.bipush (-7), 2) := by decide +kernel
theorem dX9_door_63 : decode cX9_door 63 = .ok (.invokevirtual 146, 3) := by decide +kernel
theorem dX9_door_66 : decode cX9_door 66 = .ok (.ireturn, 1) := by decide +kernel
theorem dX9_door_67 : decode cX9_door 67 = .ok (.aload_n 0, 1) := by decide +kernel
theorem dX9_door_68 : decode cX9_door 68 = .ok (.getfield 7, 3) := by decide +kernel
theorem dX9_door_71 : decode cX9_door 71 = .ok (.aload_n 0, 1) := by decide +kernel
theorem dX9_door_72 : decode cX9_door 72 = .ok (.getfield 139, 3) := by decide +kernel
theorem dX9_door_75 : decode cX9_door 75 = .ok (.iload_n 1, 1) := by decide +kernel
theorem dX9_door_76 : decode cX9_door 76 = .ok (.iastore, 1) := by decide +kernel
theorem dX9_door_77 : decode cX9_door 77 = .ok (.aload_n 0, 1) := by decide +kernel
theorem dX9_door_78 : decode cX9_door 78 = .ok (.getfield 13, 3) := by decide +kernel
theorem dX9_door_81 : decode cX9_door 81 = .ok (.aload_n 0, 1) := by decide +kernel
theorem dX9_door_82 : decode cX9_door 82 = .ok (.getfield 139, 3) := by decide +kernel
theorem dX9_door_85 : decode cX9_door 85 = .ok (.iload_n 2, 1) := by decide +kernel
theorem dX9_door_86 : decode cX9_door 86 = .ok (.iastore, 1) := by decide +kernel
theorem dX9_door_87 : decode cX9_door 87 = .ok (.aload_n 0, 1) := by decide +kernel
theorem dX9_door_88 : decode cX9_door 88 = .ok (.getfield 16, 3) := by decide +kernel
theorem dX9_door_91 : decode cX9_door 91 = .ok (.aload_n 0, 1) := by decide +kernel
theorem dX9_door_92 : decode cX9_door 92 = .ok (.getfield 139, 3) := by decide +kernel
theorem dX9_door_95 : decode cX9_door 95 = .ok (.iload_n 3, 1) := by decide +kernel
theorem dX9_door_96 : decode cX9_door 96 = .ok (.iastore, 1) := by decide +kernel
theorem dX9_door_97 : decode cX9_door 97 = .ok (.aload_n 0, 1) := by decide +kernel
theorem dX9_door_98 : decode cX9_door 98 = .ok (.getfield 40, 3) := by decide +kernel
theorem dX9_door_101 : decode cX9_door 101 = .ok (.aload_n 0, 1) := by decide +kernel
theorem dX9_door_102 : decode cX9_door 102 = .ok (.getfield 139, 3) := by decide +kernel
theorem dX9_door_105 : decode cX9_door 105 = .ok (.iconst (-1), 1) := by decide +kernel
theorem dX9_door_106 : decode cX9_door 106 = .ok (.iastore, 1) := by decide +kernel
theorem dX9_door_107 : decode cX9_door 107 = .ok (.aload_n 0, 1) := by decide +kernel
theorem dX9_door_108 : decode cX9_door 108 = .ok (.dup, 1) := by decide +kernel
theorem dX9_door_109 : decode cX9_door 109 = .ok (.getfield 139, 3) := by decide +kernel
theorem dX9_door_112 : decode cX9_door 112 = .ok (.iconst 1, 1) := by decide +kernel
theorem dX9_door_113 : decode cX9_door 113 = .ok (.iadd, 1) := by decide +kernel
theorem dX9_door_114 : decode cX9_door 114 = .ok (.putfield 139, 3) := by decide +kernel
theorem dX9_door_117 : decode cX9_door 117 = .ok (.aload_n 0, 1) := by decide +kernel
theorem dX9_door_118 : decode cX9_door 118 = .ok (.getfield 139, 3) := by decide +kernel
theorem dX9_door_121 : decode cX9_door 121 = .ok (.iconst 1, 1) := by decide +kernel
theorem dX9_door_122 : decode cX9_door 122 = .ok (.isub, 1) := by decide +kernel
theorem dX9_door_123 : decode cX9_door 123 = .ok (.ireturn, 1) := by decide +kernel
theorem dX9_near_0 : decode cX9_near 0 = .ok (.iload_n 1, 1) := by decide +kernel
theorem dX9_near_1 : decode cX9_near 1 = .ok (.invokestatic 142, 3) := by decide +kernel
theorem dX9_near_4 : decode cX9_near 4 = .ok (.ifCond .eq 10, 3) := by decide +kernel
theorem dX9_near_7 : decode cX9_near 7 = .ok (.iload_n 2, 1) := by decide +kernel
theorem dX9_near_8 : decode cX9_near 8 = .ok (.invokestatic 142, 3) := by decide +kernel
theorem dX9_near_11 : decode cX9_near 11 = .ok (.ifCond .ne 9, 3) := by decide +kernel
theorem dX9_near_14 : decode cX9_near 14 = .ok (.aload_n 0, 1) := by decide +kernel
theorem dX9_near_15 : decode cX9_near 15 = .ok (.iconst (-1), 1) := by decide +kernel
theorem dX9_near_16 : decode cX9_near 16 = .ok (.invokevirtual 146, 3) := by decide +kernel
theorem dX9_near_19 : decode cX9_near 19 = .ok (.ireturn, 1) := by decide +kernel
theorem dX9_near_20 : decode cX9_near 20 = .ok (.iload_n 1, 1) := by decide +kernel
theorem dX9_near_21 : decode cX9_near 21 = .ok (.iload_n 2, 1) := by decide +kernel
theorem dX9_near_22 : decode cX9_near 22 = .ok (.if_icmp .ne 10, 3) := by decide +kernel
theorem dX9_near_25 : decode cX9_near 25 = .ok (.aload_n 0, 1) := by decide +kernel
theorem dX9_near_26 : decode cX9_near 26 = .ok (.bipush (-6), 2) := by decide +kernel
theorem dX9_near_28 : decode cX9_near 28 = .ok (.invokevirtual 146, 3) := by decide +kernel
theorem dX9_near_31 : decode cX9_near 31 = .ok (.ireturn, 1) := by decide +kernel
theorem dX9_near_32 : decode cX9_near 32 = .ok (.aload_n 0, 1) := by decide +kernel
theorem dX9_near_33 : decode cX9_near 33 = .ok (.getfield 53, 3) := by decide +kernel
theorem dX9_near_36 : decode cX9_near 36 = .ok (.bipush 6, 2) := by decide +kernel
theorem dX9_near_38 : decode cX9_near 38 = .ok (.iload_n 1, 1) := by decide +kernel
theorem dX9_near_39 : decode cX9_near 39 = .ok (.imul, 1) := by decide +kernel
theorem dX9_near_40 : decode cX9_near 40 = .ok (.iload_n 2, 1) := by decide +kernel
theorem dX9_near_41 : decode cX9_near 41 = .ok (.iadd, 1) := by decide +kernel
theorem dX9_near_42 : decode cX9_near 42 = .ok (.baload, 1) := by decide +kernel
theorem dX9_near_43 : decode cX9_near 43 = .ok (.ifCond .eq 7, 3) := by decide +kernel
theorem dX9_near_46 : decode cX9_near 46 = .ok (.iconst 0, 1) := by decide +kernel
theorem dX9_near_47 : decode cX9_near 47 = .ok (.goto 4, 3) := by decide +kernel
theorem dX9_near_50 : decode cX9_near 50 = .ok (.iconst 1, 1) := by decide +kernel
theorem dX9_near_51 : decode cX9_near 51 = .ok (.istore_n 3, 1) := by decide +kernel
theorem dX9_near_52 : decode cX9_near 52 = .ok (.aload_n 0, 1) := by decide +kernel
theorem dX9_near_53 : decode cX9_near 53 = .ok (.getfield 53, 3) := by decide +kernel
theorem dX9_near_56 : decode cX9_near 56 = .ok (.bipush 6, 2) := by decide +kernel
theorem dX9_near_58 : decode cX9_near 58 = .ok (.iload_n 1, 1) := by decide +kernel
theorem dX9_near_59 : decode cX9_near 59 = .ok (.imul, 1) := by decide +kernel
theorem dX9_near_60 : decode cX9_near 60 = .ok (.iload_n 2, 1) := by decide +kernel
theorem dX9_near_61 : decode cX9_near 61 = .ok (.iadd, 1) := by decide +kernel
theorem dX9_near_62 : decode cX9_near 62 = .ok (.iconst 1, 1) := by decide +kernel
theorem dX9_near_63 : decode cX9_near 63 = .ok (.bastore, 1) := by decide +kernel
theorem dX9_near_64 : decode cX9_near 64 = .ok (.aload_n 0, 1) := by decide +kernel
theorem dX9_near_65 : decode cX9_near 65 = .ok (.getfield 53, 3) := by decide +kernel
theorem dX9_near_68 : decode cX9_near 68 = .ok (.bipush 6, 2) := by decide +kernel
theorem dX9_near_70 : decode cX9_near 70 = .ok (.iload_n 2, 1) := by decide +kernel
theorem dX9_near_71 : decode cX9_near 71 = .ok (.imul, 1) := by decide +kernel
theorem dX9_near_72 : decode cX9_near 72 = .ok (.iload_n 1, 1) := by decide +kernel
theorem dX9_near_73 : decode cX9_near 73 = .ok (.iadd, 1) := by decide +kernel
theorem dX9_near_74 : decode cX9_near 74 = .ok (.iconst 1, 1) := by decide +kernel
theorem dX9_near_75 : decode cX9_near 75 = .ok (.bastore, 1) := by decide +kernel
theorem dX9_near_76 : decode cX9_near 76 = .ok (.iload_n 3, 1) := by decide +kernel
theorem dX9_near_77 : decode cX9_near 77 = .ok (.ireturn, 1) := by decide +kernel
theorem dX9_fit_0 : decode cX9_fit 0 = .ok (.iload_n 0, 1) := by decide +kernel
theorem dX9_fit_1 : decode cX9_fit 1 = .ok (.ifCond .ne 10, 3) := by decide +kernel
theorem dX9_fit_4 : decode cX9_fit 4 = .ok (.lload_n 1, 1) := by decide +kernel
theorem dX9_fit_5 : decode cX9_fit 5 = .ok (.l2i, 1) := by decide +kernel
theorem dX9_fit_6 : decode cX9_fit 6 = .ok (.i2b, 1) := by decide +kernel
theorem dX9_fit_7 : decode cX9_fit 7 = .ok (.i2l, 1) := by decide +kernel
theorem dX9_fit_8 : decode cX9_fit 8 = .ok (.goto 27, 3) := by decide +kernel
theorem dX9_fit_11 : decode cX9_fit 11 = .ok (.iload_n 0, 1) := by decide +kernel
theorem dX9_fit_12 : decode cX9_fit 12 = .ok (.iconst 1, 1) := by decide +kernel
theorem dX9_fit_13 : decode cX9_fit 13 = .ok (.if_icmp .ne 10, 3) := by decide +kernel
theorem dX9_fit_16 : decode cX9_fit 16 = .ok (.lload_n 1, 1) := by decide +kernel
theorem dX9_fit_17 : decode cX9_fit 17 = .ok (.l2i, 1) := by decide +kernel
theorem dX9_fit_18 : decode cX9_fit 18 = .ok (.i2s, 1) := by decide +kernel
theorem dX9_fit_19 : decode cX9_fit 19 = .ok (.i2l, 1) := by decide +kernel
theorem dX9_fit_20 : decode cX9_fit 20 = .ok (.goto 15, 3) := by decide +kernel
theorem dX9_fit_23 : decode cX9_fit 23 = .ok (.iload_n 0, 1) := by decide +kernel
theorem dX9_fit_24 : decode cX9_fit 24 = .ok (.iconst 2, 1) := by decide +kernel
theorem dX9_fit_25 : decode cX9_fit 25 = .ok (.if_icmp .ne 9, 3) := by decide +kernel
theorem dX9_fit_28 : decode cX9_fit 28 = .ok (.lload_n 1, 1) := by decide +kernel
theorem dX9_fit_29 : decode cX9_fit 29 = .ok (.l2i, 1) := by decide +kernel
theorem dX9_fit_30 : decode cX9_fit 30 = .ok (.i2l, 1) := by decide +kernel
theorem dX9_fit_31 : decode cX9_fit 31 = .ok (.goto 4, 3) := by decide +kernel
theorem dX9_fit_34 : decode cX9_fit 34 = .ok (.lload_n 1, 1) := by decide +kernel
theorem dX9_fit_35 : decode cX9_fit 35 = .ok (.lreturn, 1) := by decide +kernel
theorem dX9_row_0 : decode cX9_row 0 = .ok (.iload_n 1, 1) := by decide +kernel
theorem dX9_row_1 : decode cX9_row 1 = .ok (.invokestatic 162, 3) := by decide +kernel
theorem dX9_row_4 : decode cX9_row 4 = .ok (.ifCond .ne 9, 3) := by decide +kernel
theorem dX9_row_7 : decode cX9_row 7 = .ok (.aload_n 0, 1) := by decide +kernel
theorem dX9_row_8 : decode cX9_row 8 = .ok (.iconst (-1), 1) := by decide +kernel
theorem dX9_row_9 : decode cX9_row 9 = .ok (.invokevirtual 146, 3) := by decide +kernel
theorem dX9_row_12 : decode cX9_row 12 = .ok (.ireturn, 1) := by decide +kernel
theorem dX9_row_13 : decode cX9_row 13 = .ok (.iload_n 3, 1) := by decide +kernel
theorem dX9_row_14 : decode cX9_row 14 = .ok (.ifCond .ge 10, 3) := by decide +kernel
theorem dX9_row_17 : decode cX9_row 17 = .ok (.aload_n 0, 1) := by decide +kernel
theorem dX9_row_18 : decode cX9_row 18 = .ok (.bipush (-4), 2) := by decide +kernel
theorem dX9_row_20 : decode cX9_row 20 = .ok (.invokevirtual 146, 3) := by decide +kernel
theorem dX9_row_23 : decode cX9_row 23 = .ok (.ireturn, 1) := by decide +kernel
theorem dX9_row_24 : decode cX9_row 24 = .ok (.iload_n 2, 1) := by decide +kernel
theorem dX9_row_25 : decode cX9_row 25 = .ok (.i2l, 1) := by decide +kernel
theorem dX9_row_26 : decode cX9_row 26 = .ok (.lconst 0, 1) := by decide +kernel
theorem dX9_row_27 : decode cX9_row 27 = .ok (.ldc2_w 150, 3) := by decide +kernel
theorem dX9_row_30 : decode cX9_row 30 = .ok (.invokestatic 152, 3) := by decide +kernel
theorem dX9_row_33 : decode cX9_row 33 = .ok (.ifCond .ne 10, 3) := by decide +kernel
theorem dX9_row_36 : decode cX9_row 36 = .ok (.aload_n 0, 1) := by decide +kernel
theorem dX9_row_37 : decode cX9_row 37 = .ok (.bipush (-6), 2) := by decide +kernel
theorem dX9_row_39 : decode cX9_row 39 = .ok (.invokevirtual 146, 3) := by decide +kernel
theorem dX9_row_42 : decode cX9_row 42 = .ok (.ireturn, 1) := by decide +kernel
theorem dX9_row_43 : decode cX9_row 43 = .ok (.iload_n 3, 1) := by decide +kernel
theorem dX9_row_44 : decode cX9_row 44 = .ok (.bipush 30, 2) := by decide +kernel
theorem dX9_row_46 : decode cX9_row 46 = .ok (.if_icmp .le 10, 3) := by decide +kernel
theorem dX9_row_49 : decode cX9_row 49 = .ok (.aload_n 0, 1) := by decide +kernel
theorem dX9_row_50 : decode cX9_row 50 = .ok (.bipush (-7), 2) := by decide +kernel
theorem dX9_row_52 : decode cX9_row 52 = .ok (.invokevirtual 146, 3) := by decide +kernel
theorem dX9_row_55 : decode cX9_row 55 = .ok (.ireturn, 1) := by decide +kernel
theorem dX9_row_56 : decode cX9_row 56 = .ok (.aload_n 0, 1) := by decide +kernel
theorem dX9_row_57 : decode cX9_row 57 = .ok (.getfield 84, 3) := by decide +kernel
theorem dX9_row_60 : decode cX9_row 60 = .ok (.iload_n 1, 1) := by decide +kernel
theorem dX9_row_61 : decode cX9_row 61 = .ok (.iconst 1, 1) := by decide +kernel
theorem dX9_row_62 : decode cX9_row 62 = .ok (.iastore, 1) := by decide +kernel
theorem dX9_row_63 : decode cX9_row 63 = .ok (.aload_n 0, 1) := by decide +kernel
theorem dX9_row_64 : decode cX9_row 64 = .ok (.getfield 87, 3) := by decide +kernel
theorem dX9_row_67 : decode cX9_row 67 = .ok (.iload_n 1, 1) := by decide +kernel
theorem dX9_row_68 : decode cX9_row 68 = .ok (.iload_n 2, 1) := by decide +kernel
theorem dX9_row_69 : decode cX9_row 69 = .ok (.iastore, 1) := by decide +kernel
theorem dX9_row_70 : decode cX9_row 70 = .ok (.aload_n 0, 1) := by decide +kernel
theorem dX9_row_71 : decode cX9_row 71 = .ok (.getfield 90, 3) := by decide +kernel
theorem dX9_row_74 : decode cX9_row 74 = .ok (.iload_n 1, 1) := by decide +kernel
theorem dX9_row_75 : decode cX9_row 75 = .ok (.iload_n 3, 1) := by decide +kernel
theorem dX9_row_76 : decode cX9_row 76 = .ok (.iastore, 1) := by decide +kernel
theorem dX9_row_77 : decode cX9_row 77 = .ok (.iconst 0, 1) := by decide +kernel
theorem dX9_row_78 : decode cX9_row 78 = .ok (.istore 4, 2) := by decide +kernel
theorem dX9_row_80 : decode cX9_row 80 = .ok (.iload 4, 2) := by decide +kernel
theorem dX9_row_82 : decode cX9_row 82 = .ok (.bipush 30, 2) := by decide +kernel
theorem dX9_row_84 : decode cX9_row 84 = .ok (.if_icmp .ge 22, 3) := by decide +kernel
theorem dX9_row_87 : decode cX9_row 87 = .ok (.aload_n 0, 1) := by decide +kernel
theorem dX9_row_88 : decode cX9_row 88 = .ok (.getfield 93, 3) := by decide +kernel
theorem dX9_row_91 : decode cX9_row 91 = .ok (.bipush 30, 2) := by decide +kernel
theorem dX9_row_93 : decode cX9_row 93 = .ok (.iload_n 1, 1) := by decide +kernel
theorem dX9_row_94 : decode cX9_row 94 = .ok (.imul, 1) := by decide +kernel
theorem dX9_row_95 : decode cX9_row 95 = .ok (.iload 4, 2) := by decide +kernel
theorem dX9_row_97 : decode cX9_row 97 = .ok (.iadd, 1) := by decide +kernel
theorem dX9_row_98 : decode cX9_row 98 = .ok (.lconst 0, 1) := by decide +kernel
theorem dX9_row_99 : decode cX9_row 99 = .ok (.lastore, 1) := by decide +kernel
theorem dX9_row_100 : decode cX9_row 100 = .ok (.iinc 4 1, 3) := by decide +kernel
theorem dX9_row_103 : decode cX9_row 103 = .ok (.goto (-23), 3) := by decide +kernel
theorem dX9_row_106 : decode cX9_row 106 = .ok (.iconst 1, 1) := by decide +kernel
theorem dX9_row_107 : decode cX9_row 107 = .ok (.ireturn, 1) := by decide +kernel
theorem dX9_notRow_0 : decode cX9_notRow 0 = .ok (.iload_n 1, 1) := by decide +kernel
theorem dX9_notRow_1 : decode cX9_notRow 1 = .ok (.invokestatic 162, 3) := by decide +kernel
theorem dX9_notRow_4 : decode cX9_notRow 4 = .ok (.ifCond .ne 7, 3) := by decide +kernel
theorem dX9_notRow_7 : decode cX9_notRow 7 = .ok (.iconst (-1), 1) := by decide +kernel
theorem dX9_notRow_8 : decode cX9_notRow 8 = .ok (.goto 33, 3) := by decide +kernel
theorem dX9_notRow_11 : decode cX9_notRow 11 = .ok (.aload_n 0, 1) := by decide +kernel
theorem dX9_notRow_12 : decode cX9_notRow 12 = .ok (.getfield 84, 3) := by decide +kernel
theorem dX9_notRow_15 : decode cX9_notRow 15 = .ok (.iload_n 1, 1) := by decide +kernel
theorem dX9_notRow_16 : decode cX9_notRow 16 = .ok (.iaload, 1) := by decide +kernel
theorem dX9_notRow_17 : decode cX9_notRow 17 = .ok (.iconst 2, 1) := by decide +kernel
theorem dX9_notRow_18 : decode cX9_notRow 18 = .ok (.if_icmp .ne 8, 3) := by decide +kernel
theorem dX9_notRow_21 : decode cX9_notRow 21 = .ok (.bipush (-2), 2) := by decide +kernel
theorem dX9_notRow_23 : decode cX9_notRow 23 = .ok (.goto 18, 3) := by decide +kernel
theorem dX9_notRow_26 : decode cX9_notRow 26 = .ok (.aload_n 0, 1) := by decide +kernel
theorem dX9_notRow_27 : decode cX9_notRow 27 = .ok (.getfield 84, 3) := by decide +kernel
theorem dX9_notRow_30 : decode cX9_notRow 30 = .ok (.iload_n 1, 1) := by decide +kernel
theorem dX9_notRow_31 : decode cX9_notRow 31 = .ok (.iaload, 1) := by decide +kernel
theorem dX9_notRow_32 : decode cX9_notRow 32 = .ok (.ifCond .ne 8, 3) := by decide +kernel
theorem dX9_notRow_35 : decode cX9_notRow 35 = .ok (.bipush (-3), 2) := by decide +kernel
theorem dX9_notRow_37 : decode cX9_notRow 37 = .ok (.goto 4, 3) := by decide +kernel
theorem dX9_notRow_40 : decode cX9_notRow 40 = .ok (.iconst 0, 1) := by decide +kernel
theorem dX9_notRow_41 : decode cX9_notRow 41 = .ok (.ireturn, 1) := by decide +kernel
theorem dX9_set_0 : decode cX9_set 0 = .ok (.aload_n 0, 1) := by decide +kernel
theorem dX9_set_1 : decode cX9_set 1 = .ok (.iload_n 1, 1) := by decide +kernel
theorem dX9_set_2 : decode cX9_set 2 = .ok (.invokevirtual 165, 3) := by decide +kernel
theorem dX9_set_5 : decode cX9_set 5 = .ok (.istore 5, 2) := by decide +kernel
theorem dX9_set_7 : decode cX9_set 7 = .ok (.iload 5, 2) := by decide +kernel
theorem dX9_set_9 : decode cX9_set 9 = .ok (.ifCond .ne 25, 3) := by decide +kernel
theorem dX9_set_12 : decode cX9_set 12 = .ok (.iload_n 2, 1) := by decide +kernel
theorem dX9_set_13 : decode cX9_set 13 = .ok (.i2l, 1) := by decide +kernel
theorem dX9_set_14 : decode cX9_set 14 = .ok (.lconst 0, 1) := by decide +kernel
theorem dX9_set_15 : decode cX9_set 15 = .ok (.aload_n 0, 1) := by decide +kernel
theorem dX9_set_16 : decode cX9_set 16 = .ok (.getfield 90, 3) := by decide +kernel
theorem dX9_set_19 : decode cX9_set 19 = .ok (.iload_n 1, 1) := by decide +kernel
theorem dX9_set_20 : decode cX9_set 20 = .ok (.iaload, 1) := by decide +kernel
theorem dX9_set_21 : decode cX9_set 21 = .ok (.iconst 1, 1) := by decide +kernel
theorem dX9_set_22 : decode cX9_set 22 = .ok (.isub, 1) := by decide +kernel
theorem dX9_set_23 : decode cX9_set 23 = .ok (.i2l, 1) := by decide +kernel
theorem dX9_set_24 : decode cX9_set 24 = .ok (.invokestatic 152, 3) := by decide +kernel
theorem dX9_set_27 : decode cX9_set 27 = .ok (.ifCond .ne 7, 3) := by decide +kernel
theorem dX9_set_30 : decode cX9_set 30 = .ok (.bipush (-5), 2) := by decide +kernel
theorem dX9_set_32 : decode cX9_set 32 = .ok (.istore 5, 2) := by decide +kernel
theorem dX9_set_34 : decode cX9_set 34 = .ok (.iload 5, 2) := by decide +kernel
theorem dX9_set_36 : decode cX9_set 36 = .ok (.ifCond .eq 10, 3) := by decide +kernel
theorem dX9_set_39 : decode cX9_set 39 = .ok (.aload_n 0, 1) := by decide +kernel
theorem dX9_set_40 : decode cX9_set 40 = .ok (.iload 5, 2) := by decide +kernel
theorem dX9_set_42 : decode cX9_set 42 = .ok (.invokevirtual 146, 3) := by decide +kernel
theorem dX9_set_45 : decode cX9_set 45 = .ok (.ireturn, 1) := by decide +kernel
theorem dX9_set_46 : decode cX9_set 46 = .ok (.aload_n 0, 1) := by decide +kernel
theorem dX9_set_47 : decode cX9_set 47 = .ok (.getfield 93, 3) := by decide +kernel
theorem dX9_set_50 : decode cX9_set 50 = .ok (.bipush 30, 2) := by decide +kernel
theorem dX9_set_52 : decode cX9_set 52 = .ok (.iload_n 1, 1) := by decide +kernel
theorem dX9_set_53 : decode cX9_set 53 = .ok (.imul, 1) := by decide +kernel
theorem dX9_set_54 : decode cX9_set 54 = .ok (.iload_n 2, 1) := by decide +kernel
theorem dX9_set_55 : decode cX9_set 55 = .ok (.iadd, 1) := by decide +kernel
theorem dX9_set_56 : decode cX9_set 56 = .ok (.aload_n 0, 1) := by decide +kernel
theorem dX9_set_57 : decode cX9_set 57 = .ok (.getfield 87, 3) := by decide +kernel
theorem dX9_set_60 : decode cX9_set 60 = .ok (.iload_n 1, 1) := by decide +kernel
theorem dX9_set_61 : decode cX9_set 61 = .ok (.iaload, 1) := by decide +kernel
theorem dX9_set_62 : decode cX9_set 62 = .ok (.lload_n 3, 1) := by decide +kernel
theorem dX9_set_63 : decode cX9_set 63 = .ok (.invokestatic 168, 3) := by decide +kernel
theorem dX9_set_66 : decode cX9_set 66 = .ok (.lastore, 1) := by decide +kernel
theorem dX9_set_67 : decode cX9_set 67 = .ok (.iconst 1, 1) := by decide +kernel
theorem dX9_set_68 : decode cX9_set 68 = .ok (.ireturn, 1) := by decide +kernel
theorem dX9_copy_0 : decode cX9_copy 0 = .ok (.iload_n 1, 1) := by decide +kernel
theorem dX9_copy_1 : decode cX9_copy 1 = .ok (.invokestatic 162, 3) := by decide +kernel
theorem dX9_copy_4 : decode cX9_copy 4 = .ok (.ifCond .eq 10, 3) := by decide +kernel
theorem dX9_copy_7 : decode cX9_copy 7 = .ok (.iload_n 2, 1) := by decide +kernel
theorem dX9_copy_8 : decode cX9_copy 8 = .ok (.invokestatic 162, 3) := by decide +kernel
theorem dX9_copy_11 : decode cX9_copy 11 = .ok (.ifCond .ne 9, 3) := by decide +kernel
theorem dX9_copy_14 : decode cX9_copy 14 = .ok (.aload_n 0, 1) := by decide +kernel
theorem dX9_copy_15 : decode cX9_copy 15 = .ok (.iconst (-1), 1) := by decide +kernel
theorem dX9_copy_16 : decode cX9_copy 16 = .ok (.invokevirtual 146, 3) := by decide +kernel
theorem dX9_copy_19 : decode cX9_copy 19 = .ok (.ireturn, 1) := by decide +kernel
theorem dX9_copy_20 : decode cX9_copy 20 = .ok (.aload_n 0, 1) := by decide +kernel
theorem dX9_copy_21 : decode cX9_copy 21 = .ok (.getfield 84, 3) := by decide +kernel
theorem dX9_copy_24 : decode cX9_copy 24 = .ok (.iload_n 1, 1) := by decide +kernel
theorem dX9_copy_25 : decode cX9_copy 25 = .ok (.iaload, 1) := by decide +kernel
theorem dX9_copy_26 : decode cX9_copy 26 = .ok (.iconst 2, 1) := by decide +kernel
theorem dX9_copy_27 : decode cX9_copy 27 = .ok (.if_icmp .eq 48, 3) := by decide +kernel
theorem dX9_copy_30 : decode cX9_copy 30 = .ok (.aload_n 0, 1) := by decide +kernel
theorem dX9_copy_31 : decode cX9_copy 31 = .ok (.getfield 84, 3) := by decide +kernel
theorem dX9_copy_34 : decode cX9_copy 34 = .ok (.iload_n 2, 1) := by decide +kernel
theorem dX9_copy_35 : decode cX9_copy 35 = .ok (.iaload, 1) := by decide +kernel
theorem dX9_copy_36 : decode cX9_copy 36 = .ok (.iconst 2, 1) := by decide +kernel
theorem dX9_copy_37 : decode cX9_copy 37 = .ok (.if_icmp .eq 38, 3) := by decide +kernel
theorem dX9_copy_40 : decode cX9_copy 40 = .ok (.aload_n 0, 1) := by decide +kernel
theorem dX9_copy_41 : decode cX9_copy 41 = .ok (.getfield 84, 3) := by decide +kernel
theorem dX9_copy_44 : decode cX9_copy 44 = .ok (.iload_n 1, 1) := by decide +kernel
theorem dX9_copy_45 : decode cX9_copy 45 = .ok (.iaload, 1) := by decide +kernel
theorem dX9_copy_46 : decode cX9_copy 46 = .ok (.iconst 1, 1) := by decide +kernel
theorem dX9_copy_47 : decode cX9_copy 47 = .ok (.if_icmp .ne 35, 3) := by decide +kernel
theorem dX9_copy_50 : decode cX9_copy 50 = .ok (.aload_n 0, 1) := by decide +kernel
theorem dX9_copy_51 : decode cX9_copy 51 = .ok (.getfield 84, 3) := by decide +kernel
theorem dX9_copy_54 : decode cX9_copy 54 = .ok (.iload_n 2, 1) := by decide +kernel
theorem dX9_copy_55 : decode cX9_copy 55 = .ok (.iaload, 1) := by decide +kernel
theorem dX9_copy_56 : decode cX9_copy 56 = .ok (.iconst 1, 1) := by decide +kernel
theorem dX9_copy_57 : decode cX9_copy 57 = .ok (.if_icmp .ne 25, 3) := by decide +kernel
theorem dX9_copy_60 : decode cX9_copy 60 = .ok (.aload_n 0, 1) := by decide +kernel
theorem dX9_copy_61 : decode cX9_copy 61 = .ok (.getfield 87, 3) := by decide +kernel
theorem dX9_copy_64 : decode cX9_copy 64 = .ok (.iload_n 1, 1) := by decide +kernel
theorem dX9_copy_65 : decode cX9_copy 65 = .ok (.iaload, 1) := by decide +kernel
theorem dX9_copy_66 : decode cX9_copy 66 = .ok (.aload_n 0, 1) := by decide +kernel
theorem dX9_copy_67 : decode cX9_copy 67 = .ok (.getfield 87, 3) := by decide +kernel
theorem dX9_copy_70 : decode cX9_copy 70 = .ok (.iload_n 2, 1) := by decide +kernel
theorem dX9_copy_71 : decode cX9_copy 71 = .ok (.iaload, 1) := by decide +kernel
theorem dX9_copy_72 : decode cX9_copy 72 = .ok (.if_icmp .eq 10, 3) := by decide +kernel
theorem dX9_copy_75 : decode cX9_copy 75 = .ok (.aload_n 0, 1) := by decide +kernel
theorem dX9_copy_76 : decode cX9_copy 76 = .ok (.bipush (-2), 2) := by decide +kernel
theorem dX9_copy_78 : decode cX9_copy 78 = .ok (.invokevirtual 146, 3) := by decide +kernel
theorem dX9_copy_81 : decode cX9_copy 81 = .ok (.ireturn, 1) := by decide +kernel
theorem dX9_copy_82 : decode cX9_copy 82 = .ok (.aload_n 0, 1) := by decide +kernel
theorem dX9_copy_83 : decode cX9_copy 83 = .ok (.getfield 84, 3) := by decide +kernel
theorem dX9_copy_86 : decode cX9_copy 86 = .ok (.iload_n 1, 1) := by decide +kernel
theorem dX9_copy_87 : decode cX9_copy 87 = .ok (.iaload, 1) := by decide +kernel
theorem dX9_copy_88 : decode cX9_copy 88 = .ok (.ifCond .eq 12, 3) := by decide +kernel
theorem dX9_copy_91 : decode cX9_copy 91 = .ok (.aload_n 0, 1) := by decide +kernel
theorem dX9_copy_92 : decode cX9_copy 92 = .ok (.getfield 84, 3) := by decide +kernel
theorem dX9_copy_95 : decode cX9_copy 95 = .ok (.iload_n 2, 1) := by decide +kernel
theorem dX9_copy_96 : decode cX9_copy 96 = .ok (.iaload, 1) := by decide +kernel
theorem dX9_copy_97 : decode cX9_copy 97 = .ok (.ifCond .ne 10, 3) := by decide +kernel
theorem dX9_copy_100 : decode cX9_copy 100 = .ok (.aload_n 0, 1) := by decide +kernel
theorem dX9_copy_101 : decode cX9_copy 101 = .ok (.bipush (-3), 2) := by decide +kernel
theorem dX9_copy_103 : decode cX9_copy 103 = .ok (.invokevirtual 146, 3) := by decide +kernel
theorem dX9_copy_106 : decode cX9_copy 106 = .ok (.ireturn, 1) := by decide +kernel
theorem dX9_copy_107 : decode cX9_copy 107 = .ok (.iload 5, 2) := by decide +kernel
theorem dX9_copy_109 : decode cX9_copy 109 = .ok (.ifCond .ge 10, 3) := by decide +kernel
theorem dX9_copy_112 : decode cX9_copy 112 = .ok (.aload_n 0, 1) := by decide +kernel
theorem dX9_copy_113 : decode cX9_copy 113 = .ok (.bipush (-4), 2) := by decide +kernel
theorem dX9_copy_115 : decode cX9_copy 115 = .ok (.invokevirtual 146, 3) := by decide +kernel
theorem dX9_copy_118 : decode cX9_copy 118 = .ok (.ireturn, 1) := by decide +kernel
theorem dX9_copy_119 : decode cX9_copy 119 = .ok (.iload_n 3, 1) := by decide +kernel
theorem dX9_copy_120 : decode cX9_copy 120 = .ok (.ifCond .lt 43, 3) := by decide +kernel
theorem dX9_copy_123 : decode cX9_copy 123 = .ok (.iload 4, 2) := by decide +kernel
theorem dX9_copy_125 : decode cX9_copy 125 = .ok (.ifCond .lt 38, 3) := by decide +kernel
theorem dX9_copy_128 : decode cX9_copy 128 = .ok (.iload_n 3, 1) := by decide +kernel
theorem dX9_copy_129 : decode cX9_copy 129 = .ok (.i2l, 1) := by decide +kernel
theorem dX9_copy_130 : decode cX9_copy 130 = .ok (.iload 5, 2) := by decide +kernel
theorem dX9_copy_132 : decode cX9_copy 132 = .ok (.i2l, 1) := by decide +kernel
theorem dX9_copy_133 : decode cX9_copy 133 = .ok (.ladd, 1) := by decide +kernel
theorem dX9_copy_134 : decode cX9_copy 134 = .ok (.aload_n 0, 1) := by decide +kernel
theorem dX9_copy_135 : decode cX9_copy 135 = .ok (.getfield 90, 3) := by decide +kernel
theorem dX9_copy_138 : decode cX9_copy 138 = .ok (.iload_n 1, 1) := by decide +kernel
theorem dX9_copy_139 : decode cX9_copy 139 = .ok (.iaload, 1) := by decide +kernel
theorem dX9_copy_140 : decode cX9_copy 140 = .ok (.i2l, 1) := by decide +kernel
theorem dX9_copy_141 : decode cX9_copy 141 = .ok (.lcmp, 1) := by decide +kernel
theorem dX9_copy_142 : decode cX9_copy 142 = .ok (.ifCond .gt 21, 3) := by decide +kernel
theorem dX9_copy_145 : decode cX9_copy 145 = .ok (.iload 4, 2) := by decide +kernel
theorem dX9_copy_147 : decode cX9_copy 147 = .ok (.i2l, 1) := by decide +kernel
theorem dX9_copy_148 : decode cX9_copy 148 = .ok (.iload 5, 2) := by decide +kernel
theorem dX9_copy_150 : decode cX9_copy 150 = .ok (.i2l, 1) := by decide +kernel
theorem dX9_copy_151 : decode cX9_copy 151 = .ok (.ladd, 1) := by decide +kernel
theorem dX9_copy_152 : decode cX9_copy 152 = .ok (.aload_n 0, 1) := by decide +kernel
theorem dX9_copy_153 : decode cX9_copy 153 = .ok (.getfield 90, 3) := by decide +kernel
theorem dX9_copy_156 : decode cX9_copy 156 = .ok (.iload_n 2, 1) := by decide +kernel
theorem dX9_copy_157 : decode cX9_copy 157 = .ok (.iaload, 1) := by decide +kernel
theorem dX9_copy_158 : decode cX9_copy 158 = .ok (.i2l, 1) := by decide +kernel
theorem dX9_copy_159 : decode cX9_copy 159 = .ok (.lcmp, 1) := by decide +kernel
theorem dX9_copy_160 : decode cX9_copy 160 = .ok (.ifCond .le 10, 3) := by decide +kernel
theorem dX9_copy_163 : decode cX9_copy 163 = .ok (.aload_n 0, 1) := by decide +kernel
theorem dX9_copy_164 : decode cX9_copy 164 = .ok (.bipush (-5), 2) := by decide +kernel
theorem dX9_copy_166 : decode cX9_copy 166 = .ok (.invokevirtual 146, 3) := by decide +kernel
theorem dX9_copy_169 : decode cX9_copy 169 = .ok (.ireturn, 1) := by decide +kernel
theorem dX9_copy_170 : decode cX9_copy 170 = .ok (.iconst 0, 1) := by decide +kernel
theorem dX9_copy_171 : decode cX9_copy 171 = .ok (.istore 6, 2) := by decide +kernel
theorem dX9_copy_173 : decode cX9_copy 173 = .ok (.iload 6, 2) := by decide +kernel
theorem dX9_copy_175 : decode cX9_copy 175 = .ok (.iload 5, 2) := by decide +kernel
theorem dX9_copy_177 : decode cX9_copy 177 = .ok (.if_icmp .ge 30, 3) := by decide +kernel
theorem dX9_copy_180 : decode cX9_copy 180 = .ok (.aload_n 0, 1) := by decide +kernel
theorem dX9_copy_181 : decode cX9_copy 181 = .ok (.getfield 97, 3) := by decide +kernel
theorem dX9_copy_184 : decode cX9_copy 184 = .ok (.iload 6, 2) := by decide +kernel
theorem dX9_copy_186 : decode cX9_copy 186 = .ok (.aload_n 0, 1) := by decide +kernel
theorem dX9_copy_187 : decode cX9_copy 187 = .ok (.getfield 93, 3) := by decide +kernel
theorem dX9_copy_190 : decode cX9_copy 190 = .ok (.bipush 30, 2) := by decide +kernel
theorem dX9_copy_192 : decode cX9_copy 192 = .ok (.iload_n 1, 1) := by decide +kernel
theorem dX9_copy_193 : decode cX9_copy 193 = .ok (.imul, 1) := by decide +kernel
theorem dX9_copy_194 : decode cX9_copy 194 = .ok (.iload_n 3, 1) := by decide +kernel
theorem dX9_copy_195 : decode cX9_copy 195 = .ok (.iadd, 1) := by decide +kernel
theorem dX9_copy_196 : decode cX9_copy 196 = .ok (.iload 6, 2) := by decide +kernel
theorem dX9_copy_198 : decode cX9_copy 198 = .ok (.iadd, 1) := by decide +kernel
theorem dX9_copy_199 : decode cX9_copy 199 = .ok (.laload, 1) := by decide +kernel
theorem dX9_copy_200 : decode cX9_copy 200 = .ok (.lastore, 1) := by decide +kernel
theorem dX9_copy_201 : decode cX9_copy 201 = .ok (.iinc 6 1, 3) := by decide +kernel
theorem dX9_copy_204 : decode cX9_copy 204 = .ok (.goto (-31), 3) := by decide +kernel
theorem dX9_copy_207 : decode cX9_copy 207 = .ok (.iconst 0, 1) := by decide +kernel
theorem dX9_copy_208 : decode cX9_copy 208 = .ok (.istore 6, 2) := by decide +kernel
theorem dX9_copy_210 : decode cX9_copy 210 = .ok (.iload 6, 2) := by decide +kernel
theorem dX9_copy_212 : decode cX9_copy 212 = .ok (.iload 5, 2) := by decide +kernel
theorem dX9_copy_214 : decode cX9_copy 214 = .ok (.if_icmp .ge 31, 3) := by decide +kernel
theorem dX9_copy_217 : decode cX9_copy 217 = .ok (.aload_n 0, 1) := by decide +kernel
theorem dX9_copy_218 : decode cX9_copy 218 = .ok (.getfield 93, 3) := by decide +kernel
theorem dX9_copy_221 : decode cX9_copy 221 = .ok (.bipush 30, 2) := by decide +kernel
theorem dX9_copy_223 : decode cX9_copy 223 = .ok (.iload_n 2, 1) := by decide +kernel
theorem dX9_copy_224 : decode cX9_copy 224 = .ok (.imul, 1) := by decide +kernel
theorem dX9_copy_225 : decode cX9_copy 225 = .ok (.iload 4, 2) := by decide +kernel
theorem dX9_copy_227 : decode cX9_copy 227 = .ok (.iadd, 1) := by decide +kernel
theorem dX9_copy_228 : decode cX9_copy 228 = .ok (.iload 6, 2) := by decide +kernel
theorem dX9_copy_230 : decode cX9_copy 230 = .ok (.iadd, 1) := by decide +kernel
theorem dX9_copy_231 : decode cX9_copy 231 = .ok (.aload_n 0, 1) := by decide +kernel
theorem dX9_copy_232 : decode cX9_copy 232 = .ok (.getfield 97, 3) := by decide +kernel
theorem dX9_copy_235 : decode cX9_copy 235 = .ok (.iload 6, 2) := by decide +kernel
theorem dX9_copy_237 : decode cX9_copy 237 = .ok (.laload, 1) := by decide +kernel
theorem dX9_copy_238 : decode cX9_copy 238 = .ok (.lastore, 1) := by decide +kernel
theorem dX9_copy_239 : decode cX9_copy 239 = .ok (.iinc 6 1, 3) := by decide +kernel
theorem dX9_copy_242 : decode cX9_copy 242 = .ok (.goto (-32), 3) := by decide +kernel
theorem dX9_copy_245 : decode cX9_copy 245 = .ok (.iconst 1, 1) := by decide +kernel
theorem dX9_copy_246 : decode cX9_copy 246 = .ok (.ireturn, 1) := by decide +kernel
theorem dX9_element_0 : decode cX9_element 0 = .ok (.iload_n 1, 1) := by decide +kernel
theorem dX9_element_1 : decode cX9_element 1 = .ok (.invokestatic 162, 3) := by decide +kernel
theorem dX9_element_4 : decode cX9_element 4 = .ok (.ifCond .eq 45, 3) := by decide +kernel
theorem dX9_element_7 : decode cX9_element 7 = .ok (.aload_n 0, 1) := by decide +kernel
theorem dX9_element_8 : decode cX9_element 8 = .ok (.getfield 84, 3) := by decide +kernel
theorem dX9_element_11 : decode cX9_element 11 = .ok (.iload_n 1, 1) := by decide +kernel
theorem dX9_element_12 : decode cX9_element 12 = .ok (.iaload, 1) := by decide +kernel
theorem dX9_element_13 : decode cX9_element 13 = .ok (.iconst 1, 1) := by decide +kernel
theorem dX9_element_14 : decode cX9_element 14 = .ok (.if_icmp .ne 35, 3) := by decide +kernel
theorem dX9_element_17 : decode cX9_element 17 = .ok (.iload_n 2, 1) := by decide +kernel
theorem dX9_element_18 : decode cX9_element 18 = .ok (.i2l, 1) := by decide +kernel
theorem dX9_element_19 : decode cX9_element 19 = .ok (.lconst 0, 1) := by decide +kernel
theorem dX9_element_20 : decode cX9_element 20 = .ok (.aload_n 0, 1) := by decide +kernel
theorem dX9_element_21 : decode cX9_element 21 = .ok (.getfield 90, 3) := by decide +kernel
theorem dX9_element_24 : decode cX9_element 24 = .ok (.iload_n 1, 1) := by decide +kernel
theorem dX9_element_25 : decode cX9_element 25 = .ok (.iaload, 1) := by decide +kernel
theorem dX9_element_26 : decode cX9_element 26 = .ok (.iconst 1, 1) := by decide +kernel
theorem dX9_element_27 : decode cX9_element 27 = .ok (.isub, 1) := by decide +kernel
theorem dX9_element_28 : decode cX9_element 28 = .ok (.i2l, 1) := by decide +kernel
theorem dX9_element_29 : decode cX9_element 29 = .ok (.invokestatic 152, 3) := by decide +kernel
theorem dX9_element_32 : decode cX9_element 32 = .ok (.ifCond .eq 17, 3) := by decide +kernel
theorem dX9_element_35 : decode cX9_element 35 = .ok (.aload_n 0, 1) := by decide +kernel
theorem dX9_element_36 : decode cX9_element 36 = .ok (.getfield 93, 3) := by decide +kernel
theorem dX9_element_39 : decode cX9_element 39 = .ok (.bipush 30, 2) := by decide +kernel
theorem dX9_element_41 : decode cX9_element 41 = .ok (.iload_n 1, 1) := by decide +kernel
theorem dX9_element_42 : decode cX9_element 42 = .ok (.imul, 1) := by decide +kernel
theorem dX9_element_43 : decode cX9_element 43 = .ok (.iload_n 2, 1) := by decide +kernel
theorem dX9_element_44 : decode cX9_element 44 = .ok (.iadd, 1) := by decide +kernel
theorem dX9_element_45 : decode cX9_element 45 = .ok (.laload, 1) := by decide +kernel
theorem dX9_element_46 : decode cX9_element 46 = .ok (.goto 4, 3) := by decide +kernel
theorem dX9_element_49 : decode cX9_element 49 = .ok (.lconst 0, 1) := by decide +kernel
theorem dX9_element_50 : decode cX9_element 50 = .ok (.lreturn, 1) := by decide +kernel
theorem dX9_show_0 : decode cX9_show 0 = .ok (.iload_n 1, 1) := by decide +kernel
theorem dX9_show_1 : decode cX9_show 1 = .ok (.invokestatic 162, 3) := by decide +kernel
theorem dX9_show_4 : decode cX9_show 4 = .ok (.ifCond .eq 16, 3) := by decide +kernel
theorem dX9_show_7 : decode cX9_show 7 = .ok (.iload_n 2, 1) := by decide +kernel
theorem dX9_show_8 : decode cX9_show 8 = .ok (.iconst (-1), 1) := by decide +kernel
theorem dX9_show_9 : decode cX9_show 9 = .ok (.if_icmp .eq 17, 3) := by decide +kernel
theorem dX9_show_12 : decode cX9_show 12 = .ok (.aload_n 0, 1) := by decide +kernel
theorem dX9_show_13 : decode cX9_show 13 = .ok (.iload_n 2, 1) := by decide +kernel
theorem dX9_show_14 : decode cX9_show 14 = .ok (.invokevirtual 172, 3) := by decide +kernel
theorem dX9_show_17 : decode cX9_show 17 = .ok (.ifCond .ne 9, 3) := by decide +kernel
theorem dX9_show_20 : decode cX9_show 20 = .ok (.aload_n 0, 1) := by decide +kernel
theorem dX9_show_21 : decode cX9_show 21 = .ok (.iconst (-1), 1) := by decide +kernel
theorem dX9_show_22 : decode cX9_show 22 = .ok (.invokevirtual 146, 3) := by decide +kernel
theorem dX9_show_25 : decode cX9_show 25 = .ok (.ireturn, 1) := by decide +kernel
theorem dX9_show_26 : decode cX9_show 26 = .ok (.aload_n 0, 1) := by decide +kernel
theorem dX9_show_27 : decode cX9_show 27 = .ok (.getfield 84, 3) := by decide +kernel
theorem dX9_show_30 : decode cX9_show 30 = .ok (.iload_n 1, 1) := by decide +kernel
theorem dX9_show_31 : decode cX9_show 31 = .ok (.iload_n 2, 1) := by decide +kernel
theorem dX9_show_32 : decode cX9_show 32 = .ok (.iconst (-1), 1) := by decide +kernel
theorem dX9_show_33 : decode cX9_show 33 = .ok (.if_icmp .ne 7, 3) := by decide +kernel
theorem dX9_show_36 : decode cX9_show 36 = .ok (.iconst 0, 1) := by decide +kernel
theorem dX9_show_37 : decode cX9_show 37 = .ok (.goto 4, 3) := by decide +kernel
theorem dX9_show_40 : decode cX9_show 40 = .ok (.iconst 2, 1) := by decide +kernel
theorem dX9_show_41 : decode cX9_show 41 = .ok (.iastore, 1) := by decide +kernel
theorem dX9_show_42 : decode cX9_show 42 = .ok (.aload_n 0, 1) := by decide +kernel
theorem dX9_show_43 : decode cX9_show 43 = .ok (.getfield 87, 3) := by decide +kernel
theorem dX9_show_46 : decode cX9_show 46 = .ok (.iload_n 1, 1) := by decide +kernel
theorem dX9_show_47 : decode cX9_show 47 = .ok (.iload_n 2, 1) := by decide +kernel
theorem dX9_show_48 : decode cX9_show 48 = .ok (.iastore, 1) := by decide +kernel
theorem dX9_show_49 : decode cX9_show 49 = .ok (.iload_n 2, 1) := by decide +kernel
theorem dX9_show_50 : decode cX9_show 50 = .ok (.iconst (-1), 1) := by decide +kernel
theorem dX9_show_51 : decode cX9_show 51 = .ok (.if_icmp .ne 7, 3) := by decide +kernel
theorem dX9_show_54 : decode cX9_show 54 = .ok (.iconst 0, 1) := by decide +kernel
theorem dX9_show_55 : decode cX9_show 55 = .ok (.goto 4, 3) := by decide +kernel
theorem dX9_show_58 : decode cX9_show 58 = .ok (.iconst 1, 1) := by decide +kernel
theorem dX9_show_59 : decode cX9_show 59 = .ok (.ireturn, 1) := by decide +kernel
theorem dX9_holds_0 : decode cX9_holds 0 = .ok (.iload_n 1, 1) := by decide +kernel
theorem dX9_holds_1 : decode cX9_holds 1 = .ok (.invokestatic 162, 3) := by decide +kernel
theorem dX9_holds_4 : decode cX9_holds 4 = .ok (.ifCond .eq 12, 3) := by decide +kernel
theorem dX9_holds_7 : decode cX9_holds 7 = .ok (.aload_n 0, 1) := by decide +kernel
theorem dX9_holds_8 : decode cX9_holds 8 = .ok (.getfield 84, 3) := by decide +kernel
theorem dX9_holds_11 : decode cX9_holds 11 = .ok (.iload_n 1, 1) := by decide +kernel
theorem dX9_holds_12 : decode cX9_holds 12 = .ok (.iaload, 1) := by decide +kernel
theorem dX9_holds_13 : decode cX9_holds 13 = .ok (.ifCond .ne 7, 3) := by decide +kernel
theorem dX9_holds_16 : decode cX9_holds 16 = .ok (.iconst (-1), 1) := by decide +kernel
theorem dX9_holds_17 : decode cX9_holds 17 = .ok (.goto 31, 3) := by decide +kernel
theorem dX9_holds_20 : decode cX9_holds 20 = .ok (.aload_n 0, 1) := by decide +kernel
theorem dX9_holds_21 : decode cX9_holds 21 = .ok (.getfield 84, 3) := by decide +kernel
theorem dX9_holds_24 : decode cX9_holds 24 = .ok (.iload_n 1, 1) := by decide +kernel
theorem dX9_holds_25 : decode cX9_holds 25 = .ok (.iaload, 1) := by decide +kernel
theorem dX9_holds_26 : decode cX9_holds 26 = .ok (.iconst 2, 1) := by decide +kernel
theorem dX9_holds_27 : decode cX9_holds 27 = .ok (.if_icmp .ne 12, 3) := by decide +kernel
theorem dX9_holds_30 : decode cX9_holds 30 = .ok (.aload_n 0, 1) := by decide +kernel
theorem dX9_holds_31 : decode cX9_holds 31 = .ok (.getfield 87, 3) := by decide +kernel
theorem dX9_holds_34 : decode cX9_holds 34 = .ok (.iload_n 1, 1) := by decide +kernel
theorem dX9_holds_35 : decode cX9_holds 35 = .ok (.iaload, 1) := by decide +kernel
theorem dX9_holds_36 : decode cX9_holds 36 = .ok (.goto 12, 3) := by decide +kernel
theorem dX9_holds_39 : decode cX9_holds 39 = .ok (.bipush 100, 2) := by decide +kernel
theorem dX9_holds_41 : decode cX9_holds 41 = .ok (.aload_n 0, 1) := by decide +kernel
theorem dX9_holds_42 : decode cX9_holds 42 = .ok (.getfield 87, 3) := by decide +kernel
theorem dX9_holds_45 : decode cX9_holds 45 = .ok (.iload_n 1, 1) := by decide +kernel
theorem dX9_holds_46 : decode cX9_holds 46 = .ok (.iaload, 1) := by decide +kernel
theorem dX9_holds_47 : decode cX9_holds 47 = .ok (.iadd, 1) := by decide +kernel
theorem dX9_holds_48 : decode cX9_holds 48 = .ok (.ireturn, 1) := by decide +kernel
theorem dX9_blockIn_0 : decode cX9_blockIn 0 = .ok (.iload_n 1, 1) := by decide +kernel
theorem dX9_blockIn_1 : decode cX9_blockIn 1 = .ok (.invokestatic 162, 3) := by decide +kernel
theorem dX9_blockIn_4 : decode cX9_blockIn 4 = .ok (.ifCond .ne 9, 3) := by decide +kernel
theorem dX9_blockIn_7 : decode cX9_blockIn 7 = .ok (.aload_n 0, 1) := by decide +kernel
theorem dX9_blockIn_8 : decode cX9_blockIn 8 = .ok (.iconst (-1), 1) := by decide +kernel
theorem dX9_blockIn_9 : decode cX9_blockIn 9 = .ok (.invokevirtual 146, 3) := by decide +kernel
theorem dX9_blockIn_12 : decode cX9_blockIn 12 = .ok (.ireturn, 1) := by decide +kernel
theorem dX9_blockIn_13 : decode cX9_blockIn 13 = .ok (.aload_n 0, 1) := by decide +kernel
theorem dX9_blockIn_14 : decode cX9_blockIn 14 = .ok (.getfield 84, 3) := by decide +kernel
theorem dX9_blockIn_17 : decode cX9_blockIn 17 = .ok (.iload_n 1, 1) := by decide +kernel
theorem dX9_blockIn_18 : decode cX9_blockIn 18 = .ok (.iaload, 1) := by decide +kernel
theorem dX9_blockIn_19 : decode cX9_blockIn 19 = .ok (.iconst 2, 1) := by decide +kernel
theorem dX9_blockIn_20 : decode cX9_blockIn 20 = .ok (.if_icmp .eq 25, 3) := by decide +kernel
theorem dX9_blockIn_23 : decode cX9_blockIn 23 = .ok (.aload_n 0, 1) := by decide +kernel
theorem dX9_blockIn_24 : decode cX9_blockIn 24 = .ok (.aload_n 0, 1) := by decide +kernel
theorem dX9_blockIn_25 : decode cX9_blockIn 25 = .ok (.getfield 84, 3) := by decide +kernel
theorem dX9_blockIn_28 : decode cX9_blockIn 28 = .ok (.iload_n 1, 1) := by decide +kernel
theorem dX9_blockIn_29 : decode cX9_blockIn 29 = .ok (.iaload, 1) := by decide +kernel
theorem dX9_blockIn_30 : decode cX9_blockIn 30 = .ok (.iconst 1, 1) := by decide +kernel
theorem dX9_blockIn_31 : decode cX9_blockIn 31 = .ok (.if_icmp .ne 8, 3) := by decide +kernel
theorem dX9_blockIn_34 : decode cX9_blockIn 34 = .ok (.bipush (-2), 2) := by decide +kernel
theorem dX9_blockIn_36 : decode cX9_blockIn 36 = .ok (.goto 5, 3) := by decide +kernel
theorem dX9_blockIn_39 : decode cX9_blockIn 39 = .ok (.bipush (-3), 2) := by decide +kernel
theorem dX9_blockIn_41 : decode cX9_blockIn 41 = .ok (.invokevirtual 146, 3) := by decide +kernel
theorem dX9_blockIn_44 : decode cX9_blockIn 44 = .ok (.ireturn, 1) := by decide +kernel
theorem dX9_blockIn_45 : decode cX9_blockIn 45 = .ok (.aload_n 0, 1) := by decide +kernel
theorem dX9_blockIn_46 : decode cX9_blockIn 46 = .ok (.getfield 7, 3) := by decide +kernel
theorem dX9_blockIn_49 : decode cX9_blockIn 49 = .ok (.aload_n 0, 1) := by decide +kernel
theorem dX9_blockIn_50 : decode cX9_blockIn 50 = .ok (.getfield 87, 3) := by decide +kernel
theorem dX9_blockIn_53 : decode cX9_blockIn 53 = .ok (.iload_n 1, 1) := by decide +kernel
theorem dX9_blockIn_54 : decode cX9_blockIn 54 = .ok (.iaload, 1) := by decide +kernel
theorem dX9_blockIn_55 : decode cX9_blockIn 55 = .ok (.iaload, 1) := by decide +kernel
theorem dX9_blockIn_56 : decode cX9_blockIn 56 = .ok (.ireturn, 1) := by decide +kernel
theorem dX9_letter_0 : decode cX9_letter 0 = .ok (.iload_n 2, 1) := by decide +kernel
theorem dX9_letter_1 : decode cX9_letter 1 = .ok (.aload_n 0, 1) := by decide +kernel
theorem dX9_letter_2 : decode cX9_letter 2 = .ok (.getfield 90, 3) := by decide +kernel
theorem dX9_letter_5 : decode cX9_letter 5 = .ok (.iload_n 1, 1) := by decide +kernel
theorem dX9_letter_6 : decode cX9_letter 6 = .ok (.iaload, 1) := by decide +kernel
theorem dX9_letter_7 : decode cX9_letter 7 = .ok (.if_icmp .ge 18, 3) := by decide +kernel
theorem dX9_letter_10 : decode cX9_letter 10 = .ok (.aload_n 0, 1) := by decide +kernel
theorem dX9_letter_11 : decode cX9_letter 11 = .ok (.getfield 93, 3) := by decide +kernel
theorem dX9_letter_14 : decode cX9_letter 14 = .ok (.bipush 30, 2) := by decide +kernel
theorem dX9_letter_16 : decode cX9_letter 16 = .ok (.iload_n 1, 1) := by decide +kernel
theorem dX9_letter_17 : decode cX9_letter 17 = .ok (.imul, 1) := by decide +kernel
theorem dX9_letter_18 : decode cX9_letter 18 = .ok (.iload_n 2, 1) := by decide +kernel
theorem dX9_letter_19 : decode cX9_letter 19 = .ok (.iadd, 1) := by decide +kernel
theorem dX9_letter_20 : decode cX9_letter 20 = .ok (.laload, 1) := by decide +kernel
theorem dX9_letter_21 : decode cX9_letter 21 = .ok (.l2i, 1) := by decide +kernel
theorem dX9_letter_22 : decode cX9_letter 22 = .ok (.goto 4, 3) := by decide +kernel
theorem dX9_letter_25 : decode cX9_letter 25 = .ok (.iconst (-1), 1) := by decide +kernel
theorem dX9_letter_26 : decode cX9_letter 26 = .ok (.ireturn, 1) := by decide +kernel
theorem dX9_broken_0 : decode cX9_broken 0 = .ok (.iconst 0, 1) := by decide +kernel
theorem dX9_broken_1 : decode cX9_broken 1 = .ok (.istore_n 2, 1) := by decide +kernel
theorem dX9_broken_2 : decode cX9_broken 2 = .ok (.iload_n 2, 1) := by decide +kernel
theorem dX9_broken_3 : decode cX9_broken 3 = .ok (.bipush 6, 2) := by decide +kernel
theorem dX9_broken_5 : decode cX9_broken 5 = .ok (.if_icmp .ge 103, 3) := by decide +kernel
theorem dX9_broken_8 : decode cX9_broken 8 = .ok (.aload_n 0, 1) := by decide +kernel
theorem dX9_broken_9 : decode cX9_broken 9 = .ok (.iload_n 1, 1) := by decide +kernel
theorem dX9_broken_10 : decode cX9_broken 10 = .ok (.iload_n 2, 1) := by decide +kernel
theorem dX9_broken_11 : decode cX9_broken 11 = .ok (.invokevirtual 175, 3) := by decide +kernel
theorem dX9_broken_14 : decode cX9_broken 14 = .ok (.istore_n 3, 1) := by decide +kernel
theorem dX9_broken_15 : decode cX9_broken 15 = .ok (.iload_n 2, 1) := by decide +kernel
theorem dX9_broken_16 : decode cX9_broken 16 = .ok (.ifCond .ne 17, 3) := by decide +kernel
theorem dX9_broken_19 : decode cX9_broken 19 = .ok (.iload_n 3, 1) := by decide +kernel
theorem dX9_broken_20 : decode cX9_broken 20 = .ok (.bipush 107, 2) := by decide +kernel
theorem dX9_broken_22 : decode cX9_broken 22 = .ok (.if_icmp .ne 7, 3) := by decide +kernel
theorem dX9_broken_25 : decode cX9_broken 25 = .ok (.iconst 1, 1) := by decide +kernel
theorem dX9_broken_26 : decode cX9_broken 26 = .ok (.goto 67, 3) := by decide +kernel
theorem dX9_broken_29 : decode cX9_broken 29 = .ok (.iconst 0, 1) := by decide +kernel
theorem dX9_broken_30 : decode cX9_broken 30 = .ok (.goto 63, 3) := by decide +kernel
theorem dX9_broken_33 : decode cX9_broken 33 = .ok (.iload_n 2, 1) := by decide +kernel
theorem dX9_broken_34 : decode cX9_broken 34 = .ok (.iconst 2, 1) := by decide +kernel
theorem dX9_broken_35 : decode cX9_broken 35 = .ok (.if_icmp .ne 17, 3) := by decide +kernel
theorem dX9_broken_38 : decode cX9_broken 38 = .ok (.iload_n 3, 1) := by decide +kernel
theorem dX9_broken_39 : decode cX9_broken 39 = .ok (.bipush 112, 2) := by decide +kernel
theorem dX9_broken_41 : decode cX9_broken 41 = .ok (.if_icmp .ne 7, 3) := by decide +kernel
theorem dX9_broken_44 : decode cX9_broken 44 = .ok (.iconst 1, 1) := by decide +kernel
theorem dX9_broken_45 : decode cX9_broken 45 = .ok (.goto 48, 3) := by decide +kernel
theorem dX9_broken_48 : decode cX9_broken 48 = .ok (.iconst 0, 1) := by decide +kernel
theorem dX9_broken_49 : decode cX9_broken 49 = .ok (.goto 44, 3) := by decide +kernel
theorem dX9_broken_52 : decode cX9_broken 52 = .ok (.iload_n 2, 1) := by decide +kernel
theorem dX9_broken_53 : decode cX9_broken 53 = .ok (.iconst 4, 1) := by decide +kernel
theorem dX9_broken_54 : decode cX9_broken 54 = .ok (.if_icmp .ne 17, 3) := by decide +kernel
theorem dX9_broken_57 : decode cX9_broken 57 = .ok (.iload_n 3, 1) := by decide +kernel
theorem dX9_broken_58 : decode cX9_broken 58 = .ok (.bipush 99, 2) := by decide +kernel
theorem dX9_broken_60 : decode cX9_broken 60 = .ok (.if_icmp .ne 7, 3) := by decide +kernel
theorem dX9_broken_63 : decode cX9_broken 63 = .ok (.iconst 1, 1) := by decide +kernel
theorem dX9_broken_64 : decode cX9_broken 64 = .ok (.goto 29, 3) := by decide +kernel
theorem dX9_broken_67 : decode cX9_broken 67 = .ok (.iconst 0, 1) := by decide +kernel
theorem dX9_broken_68 : decode cX9_broken 68 = .ok (.goto 25, 3) := by decide +kernel
theorem dX9_broken_71 : decode cX9_broken 71 = .ok (.iload_n 3, 1) := by decide +kernel
theorem dX9_broken_72 : decode cX9_broken 72 = .ok (.i2l, 1) := by decide +kernel
theorem dX9_broken_73 : decode cX9_broken 73 = .ok (.iload_n 2, 1) := by decide +kernel
theorem dX9_broken_74 : decode cX9_broken 74 = .ok (.iconst 5, 1) := by decide +kernel
theorem dX9_broken_75 : decode cX9_broken 75 = .ok (.if_icmp .ne 9, 3) := by decide +kernel
theorem dX9_broken_78 : decode cX9_broken 78 = .ok (.ldc2_w 179, 3) := by decide +kernel
theorem dX9_broken_81 : decode cX9_broken 81 = .ok (.goto 6, 3) := by decide +kernel
theorem dX9_broken_84 : decode cX9_broken 84 = .ok (.ldc2_w 181, 3) := by decide +kernel
theorem dX9_broken_87 : decode cX9_broken 87 = .ok (.ldc2_w 183, 3) := by decide +kernel
theorem dX9_broken_90 : decode cX9_broken 90 = .ok (.invokestatic 152, 3) := by decide +kernel
theorem dX9_broken_93 : decode cX9_broken 93 = .ok (.istore 4, 2) := by decide +kernel
theorem dX9_broken_95 : decode cX9_broken 95 = .ok (.iload 4, 2) := by decide +kernel
theorem dX9_broken_97 : decode cX9_broken 97 = .ok (.ifCond .ne 5, 3) := by decide +kernel
theorem dX9_broken_100 : decode cX9_broken 100 = .ok (.iload_n 2, 1) := by decide +kernel
theorem dX9_broken_101 : decode cX9_broken 101 = .ok (.ireturn, 1) := by decide +kernel
theorem dX9_broken_102 : decode cX9_broken 102 = .ok (.iinc 2 1, 3) := by decide +kernel
theorem dX9_broken_105 : decode cX9_broken 105 = .ok (.goto (-103), 3) := by decide +kernel
theorem dX9_broken_108 : decode cX9_broken 108 = .ok (.aload_n 0, 1) := by decide +kernel
theorem dX9_broken_109 : decode cX9_broken 109 = .ok (.getfield 90, 3) := by decide +kernel
theorem dX9_broken_112 : decode cX9_broken 112 = .ok (.iload_n 1, 1) := by decide +kernel
theorem dX9_broken_113 : decode cX9_broken 113 = .ok (.iaload, 1) := by decide +kernel
theorem dX9_broken_114 : decode cX9_broken 114 = .ok (.bipush 6, 2) := by decide +kernel
theorem dX9_broken_116 : decode cX9_broken 116 = .ok (.if_icmp .le 8, 3) := by decide +kernel
theorem dX9_broken_119 : decode cX9_broken 119 = .ok (.bipush 6, 2) := by decide +kernel
theorem dX9_broken_121 : decode cX9_broken 121 = .ok (.goto 4, 3) := by decide +kernel
theorem dX9_broken_124 : decode cX9_broken 124 = .ok (.iconst (-1), 1) := by decide +kernel
theorem dX9_broken_125 : decode cX9_broken 125 = .ok (.ireturn, 1) := by decide +kernel
theorem dX9_law_0 : decode cX9_law 0 = .ok (.aload_n 0, 1) := by decide +kernel
theorem dX9_law_1 : decode cX9_law 1 = .ok (.iload_n 1, 1) := by decide +kernel
theorem dX9_law_2 : decode cX9_law 2 = .ok (.invokevirtual 165, 3) := by decide +kernel
theorem dX9_law_5 : decode cX9_law 5 = .ok (.istore_n 2, 1) := by decide +kernel
theorem dX9_law_6 : decode cX9_law 6 = .ok (.iload_n 2, 1) := by decide +kernel
theorem dX9_law_7 : decode cX9_law 7 = .ok (.ifCond .eq 9, 3) := by decide +kernel
theorem dX9_law_10 : decode cX9_law 10 = .ok (.aload_n 0, 1) := by decide +kernel
theorem dX9_law_11 : decode cX9_law 11 = .ok (.iload_n 2, 1) := by decide +kernel
theorem dX9_law_12 : decode cX9_law 12 = .ok (.invokevirtual 146, 3) := by decide +kernel
theorem dX9_law_15 : decode cX9_law 15 = .ok (.ireturn, 1) := by decide +kernel
theorem dX9_law_16 : decode cX9_law 16 = .ok (.aload_n 0, 1) := by decide +kernel
theorem dX9_law_17 : decode cX9_law 17 = .ok (.aload_n 0, 1) := by decide +kernel
theorem dX9_law_18 : decode cX9_law 18 = .ok (.iload_n 1, 1) := by decide +kernel
theorem dX9_law_19 : decode cX9_law 19 = .ok (.invokevirtual 185, 3) := by decide +kernel
theorem dX9_law_22 : decode cX9_law 22 = .ok (.putfield 72, 3) := by decide +kernel
theorem dX9_law_25 : decode cX9_law 25 = .ok (.aload_n 0, 1) := by decide +kernel
theorem dX9_law_26 : decode cX9_law 26 = .ok (.getfield 72, 3) := by decide +kernel
theorem dX9_law_29 : decode cX9_law 29 = .ok (.ifCond .lt 10, 3) := by decide +kernel
theorem dX9_law_32 : decode cX9_law 32 = .ok (.aload_n 0, 1) := by decide +kernel
theorem dX9_law_33 : decode cX9_law 33 = .ok (.bipush (-6), 2) := by decide +kernel
theorem dX9_law_35 : decode cX9_law 35 = .ok (.invokevirtual 146, 3) := by decide +kernel
theorem dX9_law_38 : decode cX9_law 38 = .ok (.ireturn, 1) := by decide +kernel
theorem dX9_law_39 : decode cX9_law 39 = .ok (.aload_n 0, 1) := by decide +kernel
theorem dX9_law_40 : decode cX9_law 40 = .ok (.aload_n 0, 1) := by decide +kernel
theorem dX9_law_41 : decode cX9_law 41 = .ok (.iload_n 1, 1) := by decide +kernel
theorem dX9_law_42 : decode cX9_law 42 = .ok (.iconst 1, 1) := by decide +kernel
theorem dX9_law_43 : decode cX9_law 43 = .ok (.invokevirtual 175, 3) := by decide +kernel
theorem dX9_law_46 : decode cX9_law 46 = .ok (.bipush 48, 2) := by decide +kernel
theorem dX9_law_48 : decode cX9_law 48 = .ok (.isub, 1) := by decide +kernel
theorem dX9_law_49 : decode cX9_law 49 = .ok (.putfield 62, 3) := by decide +kernel
theorem dX9_law_52 : decode cX9_law 52 = .ok (.aload_n 0, 1) := by decide +kernel
theorem dX9_law_53 : decode cX9_law 53 = .ok (.aload_n 0, 1) := by decide +kernel
theorem dX9_law_54 : decode cX9_law 54 = .ok (.iload_n 1, 1) := by decide +kernel
theorem dX9_law_55 : decode cX9_law 55 = .ok (.iconst 3, 1) := by decide +kernel
theorem dX9_law_56 : decode cX9_law 56 = .ok (.invokevirtual 175, 3) := by decide +kernel
theorem dX9_law_59 : decode cX9_law 59 = .ok (.bipush 48, 2) := by decide +kernel
theorem dX9_law_61 : decode cX9_law 61 = .ok (.isub, 1) := by decide +kernel
theorem dX9_law_62 : decode cX9_law 62 = .ok (.putfield 66, 3) := by decide +kernel
theorem dX9_law_65 : decode cX9_law 65 = .ok (.aload_n 0, 1) := by decide +kernel
theorem dX9_law_66 : decode cX9_law 66 = .ok (.aload_n 0, 1) := by decide +kernel
theorem dX9_law_67 : decode cX9_law 67 = .ok (.iload_n 1, 1) := by decide +kernel
theorem dX9_law_68 : decode cX9_law 68 = .ok (.iconst 5, 1) := by decide +kernel
theorem dX9_law_69 : decode cX9_law 69 = .ok (.invokevirtual 175, 3) := by decide +kernel
theorem dX9_law_72 : decode cX9_law 72 = .ok (.bipush 48, 2) := by decide +kernel
theorem dX9_law_74 : decode cX9_law 74 = .ok (.isub, 1) := by decide +kernel
theorem dX9_law_75 : decode cX9_law 75 = .ok (.putfield 69, 3) := by decide +kernel
theorem dX9_law_78 : decode cX9_law 78 = .ok (.iconst 1, 1) := by decide +kernel
theorem dX9_law_79 : decode cX9_law 79 = .ok (.ireturn, 1) := by decide +kernel
theorem dX9_fault_0 : decode cX9_fault 0 = .ok (.aload_n 0, 1) := by decide +kernel
theorem dX9_fault_1 : decode cX9_fault 1 = .ok (.getfield 72, 3) := by decide +kernel
theorem dX9_fault_4 : decode cX9_fault 4 = .ok (.ireturn, 1) := by decide +kernel
theorem dX9_isLeast_0 : decode cX9_isLeast 0 = .ok (.iload_n 0, 1) := by decide +kernel
theorem dX9_isLeast_1 : decode cX9_isLeast 1 = .ok (.iconst 3, 1) := by decide +kernel
theorem dX9_isLeast_2 : decode cX9_isLeast 2 = .ok (.if_icmp .ne 15, 3) := by decide +kernel
theorem dX9_isLeast_5 : decode cX9_isLeast 5 = .ok (.lload_n 1, 1) := by decide +kernel
theorem dX9_isLeast_6 : decode cX9_isLeast 6 = .ok (.ldc2_w 188, 3) := by decide +kernel
theorem dX9_isLeast_9 : decode cX9_isLeast 9 = .ok (.lcmp, 1) := by decide +kernel
theorem dX9_isLeast_10 : decode cX9_isLeast 10 = .ok (.ifCond .ne 7, 3) := by decide +kernel
theorem dX9_isLeast_13 : decode cX9_isLeast 13 = .ok (.iconst 1, 1) := by decide +kernel
theorem dX9_isLeast_14 : decode cX9_isLeast 14 = .ok (.goto 4, 3) := by decide +kernel
theorem dX9_isLeast_17 : decode cX9_isLeast 17 = .ok (.iconst 0, 1) := by decide +kernel
theorem dX9_isLeast_18 : decode cX9_isLeast 18 = .ok (.ireturn, 1) := by decide +kernel
theorem dX9_truth_0 : decode cX9_truth 0 = .ok (.aload_n 0, 1) := by decide +kernel
theorem dX9_truth_1 : decode cX9_truth 1 = .ok (.iload_n 1, 1) := by decide +kernel
theorem dX9_truth_2 : decode cX9_truth 2 = .ok (.invokevirtual 172, 3) := by decide +kernel
theorem dX9_truth_5 : decode cX9_truth 5 = .ok (.ifCond .ne 9, 3) := by decide +kernel
theorem dX9_truth_8 : decode cX9_truth 8 = .ok (.aload_n 0, 1) := by decide +kernel
theorem dX9_truth_9 : decode cX9_truth 9 = .ok (.iconst (-1), 1) := by decide +kernel
theorem dX9_truth_10 : decode cX9_truth 10 = .ok (.invokevirtual 146, 3) := by decide +kernel
theorem dX9_truth_13 : decode cX9_truth 13 = .ok (.ireturn, 1) := by decide +kernel
theorem dX9_truth_14 : decode cX9_truth 14 = .ok (.aload_n 0, 1) := by decide +kernel
theorem dX9_truth_15 : decode cX9_truth 15 = .ok (.iload_n 2, 1) := by decide +kernel
theorem dX9_truth_16 : decode cX9_truth 16 = .ok (.invokevirtual 165, 3) := by decide +kernel
theorem dX9_truth_19 : decode cX9_truth 19 = .ok (.istore_n 3, 1) := by decide +kernel
theorem dX9_truth_20 : decode cX9_truth 20 = .ok (.iload_n 3, 1) := by decide +kernel
theorem dX9_truth_21 : decode cX9_truth 21 = .ok (.ifCond .ne 13, 3) := by decide +kernel
theorem dX9_truth_24 : decode cX9_truth 24 = .ok (.aload_n 0, 1) := by decide +kernel
theorem dX9_truth_25 : decode cX9_truth 25 = .ok (.getfield 158, 3) := by decide +kernel
theorem dX9_truth_28 : decode cX9_truth 28 = .ok (.ifCond .eq 6, 3) := by decide +kernel
theorem dX9_truth_31 : decode cX9_truth 31 = .ok (.bipush (-6), 2) := by decide +kernel
theorem dX9_truth_33 : decode cX9_truth 33 = .ok (.istore_n 3, 1) := by decide +kernel
theorem dX9_truth_34 : decode cX9_truth 34 = .ok (.iload_n 3, 1) := by decide +kernel
theorem dX9_truth_35 : decode cX9_truth 35 = .ok (.ifCond .ne 17, 3) := by decide +kernel
theorem dX9_truth_38 : decode cX9_truth 38 = .ok (.aload_n 0, 1) := by decide +kernel
theorem dX9_truth_39 : decode cX9_truth 39 = .ok (.getfield 90, 3) := by decide +kernel
theorem dX9_truth_42 : decode cX9_truth 42 = .ok (.iload_n 2, 1) := by decide +kernel
theorem dX9_truth_43 : decode cX9_truth 43 = .ok (.iaload, 1) := by decide +kernel
theorem dX9_truth_44 : decode cX9_truth 44 = .ok (.bipush 12, 2) := by decide +kernel
theorem dX9_truth_46 : decode cX9_truth 46 = .ok (.if_icmp .le 6, 3) := by decide +kernel
theorem dX9_truth_49 : decode cX9_truth 49 = .ok (.bipush (-7), 2) := by decide +kernel
theorem dX9_truth_51 : decode cX9_truth 51 = .ok (.istore_n 3, 1) := by decide +kernel
theorem dX9_truth_52 : decode cX9_truth 52 = .ok (.iload_n 3, 1) := by decide +kernel
theorem dX9_truth_53 : decode cX9_truth 53 = .ok (.ifCond .eq 9, 3) := by decide +kernel
theorem dX9_truth_56 : decode cX9_truth 56 = .ok (.aload_n 0, 1) := by decide +kernel
theorem dX9_truth_57 : decode cX9_truth 57 = .ok (.iload_n 3, 1) := by decide +kernel
theorem dX9_truth_58 : decode cX9_truth 58 = .ok (.invokevirtual 146, 3) := by decide +kernel
theorem dX9_truth_61 : decode cX9_truth 61 = .ok (.ireturn, 1) := by decide +kernel
theorem dX9_truth_62 : decode cX9_truth 62 = .ok (.aload_n 0, 1) := by decide +kernel
theorem dX9_truth_63 : decode cX9_truth 63 = .ok (.getfield 19, 3) := by decide +kernel
theorem dX9_truth_66 : decode cX9_truth 66 = .ok (.iload_n 1, 1) := by decide +kernel
theorem dX9_truth_67 : decode cX9_truth 67 = .ok (.aload_n 0, 1) := by decide +kernel
theorem dX9_truth_68 : decode cX9_truth 68 = .ok (.getfield 90, 3) := by decide +kernel
theorem dX9_truth_71 : decode cX9_truth 71 = .ok (.iload_n 2, 1) := by decide +kernel
theorem dX9_truth_72 : decode cX9_truth 72 = .ok (.iaload, 1) := by decide +kernel
theorem dX9_truth_73 : decode cX9_truth 73 = .ok (.iastore, 1) := by decide +kernel
theorem dX9_truth_74 : decode cX9_truth 74 = .ok (.iconst 0, 1) := by decide +kernel
theorem dX9_truth_75 : decode cX9_truth 75 = .ok (.istore 4, 2) := by decide +kernel
theorem dX9_truth_77 : decode cX9_truth 77 = .ok (.iload 4, 2) := by decide +kernel
theorem dX9_truth_79 : decode cX9_truth 79 = .ok (.aload_n 0, 1) := by decide +kernel
theorem dX9_truth_80 : decode cX9_truth 80 = .ok (.getfield 90, 3) := by decide +kernel
theorem dX9_truth_83 : decode cX9_truth 83 = .ok (.iload_n 2, 1) := by decide +kernel
theorem dX9_truth_84 : decode cX9_truth 84 = .ok (.iaload, 1) := by decide +kernel
theorem dX9_truth_85 : decode cX9_truth 85 = .ok (.if_icmp .ge 74, 3) := by decide +kernel
theorem dX9_truth_88 : decode cX9_truth 88 = .ok (.aload_n 0, 1) := by decide +kernel
theorem dX9_truth_89 : decode cX9_truth 89 = .ok (.getfield 93, 3) := by decide +kernel
theorem dX9_truth_92 : decode cX9_truth 92 = .ok (.bipush 30, 2) := by decide +kernel
theorem dX9_truth_94 : decode cX9_truth 94 = .ok (.iload_n 2, 1) := by decide +kernel
theorem dX9_truth_95 : decode cX9_truth 95 = .ok (.imul, 1) := by decide +kernel
theorem dX9_truth_96 : decode cX9_truth 96 = .ok (.iload 4, 2) := by decide +kernel
theorem dX9_truth_98 : decode cX9_truth 98 = .ok (.iadd, 1) := by decide +kernel
theorem dX9_truth_99 : decode cX9_truth 99 = .ok (.laload, 1) := by decide +kernel
theorem dX9_truth_100 : decode cX9_truth 100 = .ok (.lstore 5, 2) := by decide +kernel
theorem dX9_truth_102 : decode cX9_truth 102 = .ok (.lload 5, 2) := by decide +kernel
theorem dX9_truth_104 : decode cX9_truth 104 = .ok (.l2i, 1) := by decide +kernel
theorem dX9_truth_105 : decode cX9_truth 105 = .ok (.istore 7, 2) := by decide +kernel
theorem dX9_truth_107 : decode cX9_truth 107 = .ok (.aload_n 0, 1) := by decide +kernel
theorem dX9_truth_108 : decode cX9_truth 108 = .ok (.getfield 22, 3) := by decide +kernel
theorem dX9_truth_111 : decode cX9_truth 111 = .ok (.bipush 12, 2) := by decide +kernel
theorem dX9_truth_113 : decode cX9_truth 113 = .ok (.iload_n 1, 1) := by decide +kernel
theorem dX9_truth_114 : decode cX9_truth 114 = .ok (.imul, 1) := by decide +kernel
theorem dX9_truth_115 : decode cX9_truth 115 = .ok (.iload 4, 2) := by decide +kernel
theorem dX9_truth_117 : decode cX9_truth 117 = .ok (.iadd, 1) := by decide +kernel
theorem dX9_truth_118 : decode cX9_truth 118 = .ok (.aload_n 0, 1) := by decide +kernel
theorem dX9_truth_119 : decode cX9_truth 119 = .ok (.getfield 87, 3) := by decide +kernel
theorem dX9_truth_122 : decode cX9_truth 122 = .ok (.iload_n 2, 1) := by decide +kernel
theorem dX9_truth_123 : decode cX9_truth 123 = .ok (.iaload, 1) := by decide +kernel
theorem dX9_truth_124 : decode cX9_truth 124 = .ok (.lload 5, 2) := by decide +kernel
theorem dX9_truth_126 : decode cX9_truth 126 = .ok (.invokestatic 190, 3) := by decide +kernel
theorem dX9_truth_129 : decode cX9_truth 129 = .ok (.ifCond .ne 21, 3) := by decide +kernel
theorem dX9_truth_132 : decode cX9_truth 132 = .ok (.iload 7, 2) := by decide +kernel
theorem dX9_truth_134 : decode cX9_truth 134 = .ok (.i2l, 1) := by decide +kernel
theorem dX9_truth_135 : decode cX9_truth 135 = .ok (.lconst 0, 1) := by decide +kernel
theorem dX9_truth_136 : decode cX9_truth 136 = .ok (.ldc2_w 194, 3) := by decide +kernel
theorem dX9_truth_139 : decode cX9_truth 139 = .ok (.invokestatic 152, 3) := by decide +kernel
theorem dX9_truth_142 : decode cX9_truth 142 = .ok (.ifCond .eq 8, 3) := by decide +kernel
theorem dX9_truth_145 : decode cX9_truth 145 = .ok (.iload 7, 2) := by decide +kernel
theorem dX9_truth_147 : decode cX9_truth 147 = .ok (.goto 5, 3) := by decide +kernel
theorem dX9_truth_150 : decode cX9_truth 150 = .ok (.bipush (-2), 2) := by decide +kernel
theorem dX9_truth_152 : decode cX9_truth 152 = .ok (.iastore, 1) := by decide +kernel
theorem dX9_truth_153 : decode cX9_truth 153 = .ok (.iinc 4 1, 3) := by decide +kernel
theorem dX9_truth_156 : decode cX9_truth 156 = .ok (.goto (-79), 3) := by decide +kernel
theorem dX9_truth_159 : decode cX9_truth 159 = .ok (.aload_n 0, 1) := by decide +kernel
theorem dX9_truth_160 : decode cX9_truth 160 = .ok (.getfield 90, 3) := by decide +kernel
theorem dX9_truth_163 : decode cX9_truth 163 = .ok (.iload_n 2, 1) := by decide +kernel
theorem dX9_truth_164 : decode cX9_truth 164 = .ok (.iaload, 1) := by decide +kernel
theorem dX9_truth_165 : decode cX9_truth 165 = .ok (.ireturn, 1) := by decide +kernel
theorem dX9_isToBeAsked_0 : decode cX9_isToBeAsked 0 = .ok (.aload_n 0, 1) := by decide +kernel
theorem dX9_isToBeAsked_1 : decode cX9_isToBeAsked 1 = .ok (.getfield 25, 3) := by decide +kernel
theorem dX9_isToBeAsked_4 : decode cX9_isToBeAsked 4 = .ok (.iload_n 1, 1) := by decide +kernel
theorem dX9_isToBeAsked_5 : decode cX9_isToBeAsked 5 = .ok (.iaload, 1) := by decide +kernel
theorem dX9_isToBeAsked_6 : decode cX9_isToBeAsked 6 = .ok (.ifCond .eq 32, 3) := by decide +kernel
theorem dX9_isToBeAsked_9 : decode cX9_isToBeAsked 9 = .ok (.aload_n 0, 1) := by decide +kernel
theorem dX9_isToBeAsked_10 : decode cX9_isToBeAsked 10 = .ok (.getfield 25, 3) := by decide +kernel
theorem dX9_isToBeAsked_13 : decode cX9_isToBeAsked 13 = .ok (.iload_n 1, 1) := by decide +kernel
theorem dX9_isToBeAsked_14 : decode cX9_isToBeAsked 14 = .ok (.iaload, 1) := by decide +kernel
theorem dX9_isToBeAsked_15 : decode cX9_isToBeAsked 15 = .ok (.iconst 3, 1) := by decide +kernel
theorem dX9_isToBeAsked_16 : decode cX9_isToBeAsked 16 = .ok (.if_icmp .eq 22, 3) := by decide +kernel
theorem dX9_isToBeAsked_19 : decode cX9_isToBeAsked 19 = .ok (.aload_n 0, 1) := by decide +kernel
theorem dX9_isToBeAsked_20 : decode cX9_isToBeAsked 20 = .ok (.getfield 25, 3) := by decide +kernel
theorem dX9_isToBeAsked_23 : decode cX9_isToBeAsked 23 = .ok (.iload_n 1, 1) := by decide +kernel
theorem dX9_isToBeAsked_24 : decode cX9_isToBeAsked 24 = .ok (.iaload, 1) := by decide +kernel
theorem dX9_isToBeAsked_25 : decode cX9_isToBeAsked 25 = .ok (.iconst 1, 1) := by decide +kernel
theorem dX9_isToBeAsked_26 : decode cX9_isToBeAsked 26 = .ok (.if_icmp .ne 16, 3) := by decide +kernel
theorem dX9_isToBeAsked_29 : decode cX9_isToBeAsked 29 = .ok (.aload_n 0, 1) := by decide +kernel
theorem dX9_isToBeAsked_30 : decode cX9_isToBeAsked 30 = .ok (.getfield 46, 3) := by decide +kernel
theorem dX9_isToBeAsked_33 : decode cX9_isToBeAsked 33 = .ok (.iload_n 1, 1) := by decide +kernel
theorem dX9_isToBeAsked_34 : decode cX9_isToBeAsked 34 = .ok (.baload, 1) := by decide +kernel
theorem dX9_isToBeAsked_35 : decode cX9_isToBeAsked 35 = .ok (.ifCond .eq 7, 3) := by decide +kernel
theorem dX9_isToBeAsked_38 : decode cX9_isToBeAsked 38 = .ok (.iconst 1, 1) := by decide +kernel
theorem dX9_isToBeAsked_39 : decode cX9_isToBeAsked 39 = .ok (.goto 4, 3) := by decide +kernel
theorem dX9_isToBeAsked_42 : decode cX9_isToBeAsked 42 = .ok (.iconst 0, 1) := by decide +kernel
theorem dX9_isToBeAsked_43 : decode cX9_isToBeAsked 43 = .ok (.ireturn, 1) := by decide +kernel
theorem dX9_returns_0 : decode cX9_returns 0 = .ok (.aload_n 0, 1) := by decide +kernel
theorem dX9_returns_1 : decode cX9_returns 1 = .ok (.getfield 25, 3) := by decide +kernel
theorem dX9_returns_4 : decode cX9_returns 4 = .ok (.iload_n 1, 1) := by decide +kernel
theorem dX9_returns_5 : decode cX9_returns 5 = .ok (.iload_n 2, 1) := by decide +kernel
theorem dX9_returns_6 : decode cX9_returns 6 = .ok (.iastore, 1) := by decide +kernel
theorem dX9_returns_7 : decode cX9_returns 7 = .ok (.aload_n 0, 1) := by decide +kernel
theorem dX9_returns_8 : decode cX9_returns 8 = .ok (.getfield 28, 3) := by decide +kernel
theorem dX9_returns_11 : decode cX9_returns 11 = .ok (.iload_n 1, 1) := by decide +kernel
theorem dX9_returns_12 : decode cX9_returns 12 = .ok (.iload_n 3, 1) := by decide +kernel
theorem dX9_returns_13 : decode cX9_returns 13 = .ok (.iastore, 1) := by decide +kernel
theorem dX9_returns_14 : decode cX9_returns 14 = .ok (.aload_n 0, 1) := by decide +kernel
theorem dX9_returns_15 : decode cX9_returns 15 = .ok (.getfield 46, 3) := by decide +kernel
theorem dX9_returns_18 : decode cX9_returns 18 = .ok (.iload_n 1, 1) := by decide +kernel
theorem dX9_returns_19 : decode cX9_returns 19 = .ok (.iconst 0, 1) := by decide +kernel
theorem dX9_returns_20 : decode cX9_returns 20 = .ok (.bastore, 1) := by decide +kernel
theorem dX9_returns_21 : decode cX9_returns 21 = .ok (.iconst 0, 1) := by decide +kernel
theorem dX9_returns_22 : decode cX9_returns 22 = .ok (.istore 4, 2) := by decide +kernel
theorem dX9_returns_24 : decode cX9_returns 24 = .ok (.iload 4, 2) := by decide +kernel
theorem dX9_returns_26 : decode cX9_returns 26 = .ok (.bipush 12, 2) := by decide +kernel
theorem dX9_returns_28 : decode cX9_returns 28 = .ok (.if_icmp .ge 36, 3) := by decide +kernel
theorem dX9_returns_31 : decode cX9_returns 31 = .ok (.aload_n 0, 1) := by decide +kernel
theorem dX9_returns_32 : decode cX9_returns 32 = .ok (.getfield 31, 3) := by decide +kernel
theorem dX9_returns_35 : decode cX9_returns 35 = .ok (.bipush 12, 2) := by decide +kernel
theorem dX9_returns_37 : decode cX9_returns 37 = .ok (.iload_n 1, 1) := by decide +kernel
theorem dX9_returns_38 : decode cX9_returns 38 = .ok (.imul, 1) := by decide +kernel
theorem dX9_returns_39 : decode cX9_returns 39 = .ok (.iload 4, 2) := by decide +kernel
theorem dX9_returns_41 : decode cX9_returns 41 = .ok (.iadd, 1) := by decide +kernel
theorem dX9_returns_42 : decode cX9_returns 42 = .ok (.bipush (-2), 2) := by decide +kernel
theorem dX9_returns_44 : decode cX9_returns 44 = .ok (.iastore, 1) := by decide +kernel
theorem dX9_returns_45 : decode cX9_returns 45 = .ok (.aload_n 0, 1) := by decide +kernel
theorem dX9_returns_46 : decode cX9_returns 46 = .ok (.getfield 50, 3) := by decide +kernel
theorem dX9_returns_49 : decode cX9_returns 49 = .ok (.bipush 12, 2) := by decide +kernel
theorem dX9_returns_51 : decode cX9_returns 51 = .ok (.iload_n 1, 1) := by decide +kernel
theorem dX9_returns_52 : decode cX9_returns 52 = .ok (.imul, 1) := by decide +kernel
theorem dX9_returns_53 : decode cX9_returns 53 = .ok (.iload 4, 2) := by decide +kernel
theorem dX9_returns_55 : decode cX9_returns 55 = .ok (.iadd, 1) := by decide +kernel
theorem dX9_returns_56 : decode cX9_returns 56 = .ok (.iconst 0, 1) := by decide +kernel
theorem dX9_returns_57 : decode cX9_returns 57 = .ok (.bastore, 1) := by decide +kernel
theorem dX9_returns_58 : decode cX9_returns 58 = .ok (.iinc 4 1, 3) := by decide +kernel
theorem dX9_returns_61 : decode cX9_returns 61 = .ok (.goto (-37), 3) := by decide +kernel
theorem dX9_returns_64 : decode cX9_returns 64 = .ok (.return_, 1) := by decide +kernel
theorem dX9_paper_0 : decode cX9_paper 0 = .ok (.aload_n 0, 1) := by decide +kernel
theorem dX9_paper_1 : decode cX9_paper 1 = .ok (.iload_n 1, 1) := by decide +kernel
theorem dX9_paper_2 : decode cX9_paper 2 = .ok (.invokevirtual 172, 3) := by decide +kernel
theorem dX9_paper_5 : decode cX9_paper 5 = .ok (.ifCond .ne 9, 3) := by decide +kernel
theorem dX9_paper_8 : decode cX9_paper 8 = .ok (.aload_n 0, 1) := by decide +kernel
theorem dX9_paper_9 : decode cX9_paper 9 = .ok (.iconst (-1), 1) := by decide +kernel
theorem dX9_paper_10 : decode cX9_paper 10 = .ok (.invokevirtual 146, 3) := by decide +kernel
theorem dX9_paper_13 : decode cX9_paper 13 = .ok (.ireturn, 1) := by decide +kernel
theorem dX9_paper_14 : decode cX9_paper 14 = .ok (.aload_n 0, 1) := by decide +kernel
theorem dX9_paper_15 : decode cX9_paper 15 = .ok (.getfield 158, 3) := by decide +kernel
theorem dX9_paper_18 : decode cX9_paper 18 = .ok (.ifCond .ne 21, 3) := by decide +kernel
theorem dX9_paper_21 : decode cX9_paper 21 = .ok (.aload_n 0, 1) := by decide +kernel
theorem dX9_paper_22 : decode cX9_paper 22 = .ok (.iload_n 1, 1) := by decide +kernel
theorem dX9_paper_23 : decode cX9_paper 23 = .ok (.invokevirtual 196, 3) := by decide +kernel
theorem dX9_paper_26 : decode cX9_paper 26 = .ok (.ifCond .eq 13, 3) := by decide +kernel
theorem dX9_paper_29 : decode cX9_paper 29 = .ok (.aload_n 0, 1) := by decide +kernel
theorem dX9_paper_30 : decode cX9_paper 30 = .ok (.getfield 25, 3) := by decide +kernel
theorem dX9_paper_33 : decode cX9_paper 33 = .ok (.iload_n 1, 1) := by decide +kernel
theorem dX9_paper_34 : decode cX9_paper 34 = .ok (.iaload, 1) := by decide +kernel
theorem dX9_paper_35 : decode cX9_paper 35 = .ok (.iconst 1, 1) := by decide +kernel
theorem dX9_paper_36 : decode cX9_paper 36 = .ok (.if_icmp .ne 10, 3) := by decide +kernel
theorem dX9_paper_39 : decode cX9_paper 39 = .ok (.aload_n 0, 1) := by decide +kernel
theorem dX9_paper_40 : decode cX9_paper 40 = .ok (.bipush (-6), 2) := by decide +kernel
theorem dX9_paper_42 : decode cX9_paper 42 = .ok (.invokevirtual 146, 3) := by decide +kernel
theorem dX9_paper_45 : decode cX9_paper 45 = .ok (.ireturn, 1) := by decide +kernel
theorem dX9_paper_46 : decode cX9_paper 46 = .ok (.iconst 0, 1) := by decide +kernel
theorem dX9_paper_47 : decode cX9_paper 47 = .ok (.istore_n 2, 1) := by decide +kernel
theorem dX9_paper_48 : decode cX9_paper 48 = .ok (.iload_n 2, 1) := by decide +kernel
theorem dX9_paper_49 : decode cX9_paper 49 = .ok (.aload_n 0, 1) := by decide +kernel
theorem dX9_paper_50 : decode cX9_paper 50 = .ok (.getfield 19, 3) := by decide +kernel
theorem dX9_paper_53 : decode cX9_paper 53 = .ok (.iload_n 1, 1) := by decide +kernel
theorem dX9_paper_54 : decode cX9_paper 54 = .ok (.iaload, 1) := by decide +kernel
theorem dX9_paper_55 : decode cX9_paper 55 = .ok (.if_icmp .ge 23, 3) := by decide +kernel
theorem dX9_paper_58 : decode cX9_paper 58 = .ok (.aload_n 0, 1) := by decide +kernel
theorem dX9_paper_59 : decode cX9_paper 59 = .ok (.getfield 22, 3) := by decide +kernel
theorem dX9_paper_62 : decode cX9_paper 62 = .ok (.bipush 12, 2) := by decide +kernel
theorem dX9_paper_64 : decode cX9_paper 64 = .ok (.iload_n 1, 1) := by decide +kernel
theorem dX9_paper_65 : decode cX9_paper 65 = .ok (.imul, 1) := by decide +kernel
theorem dX9_paper_66 : decode cX9_paper 66 = .ok (.iload_n 2, 1) := by decide +kernel
theorem dX9_paper_67 : decode cX9_paper 67 = .ok (.iadd, 1) := by decide +kernel
theorem dX9_paper_68 : decode cX9_paper 68 = .ok (.iaload, 1) := by decide +kernel
theorem dX9_paper_69 : decode cX9_paper 69 = .ok (.ifCond .lt 9, 3) := by decide +kernel
theorem dX9_paper_72 : decode cX9_paper 72 = .ok (.iinc 2 1, 3) := by decide +kernel
theorem dX9_paper_75 : decode cX9_paper 75 = .ok (.goto (-27), 3) := by decide +kernel
theorem dX9_paper_78 : decode cX9_paper 78 = .ok (.aload_n 0, 1) := by decide +kernel
theorem dX9_paper_79 : decode cX9_paper 79 = .ok (.iload_n 1, 1) := by decide +kernel
theorem dX9_paper_80 : decode cX9_paper 80 = .ok (.iconst 1, 1) := by decide +kernel
theorem dX9_paper_81 : decode cX9_paper 81 = .ok (.iload_n 2, 1) := by decide +kernel
theorem dX9_paper_82 : decode cX9_paper 82 = .ok (.invokevirtual 199, 3) := by decide +kernel
theorem dX9_paper_85 : decode cX9_paper 85 = .ok (.aload_n 0, 1) := by decide +kernel
theorem dX9_paper_86 : decode cX9_paper 86 = .ok (.getfield 46, 3) := by decide +kernel
theorem dX9_paper_89 : decode cX9_paper 89 = .ok (.iload_n 1, 1) := by decide +kernel
theorem dX9_paper_90 : decode cX9_paper 90 = .ok (.iload_n 2, 1) := by decide +kernel
theorem dX9_paper_91 : decode cX9_paper 91 = .ok (.aload_n 0, 1) := by decide +kernel
theorem dX9_paper_92 : decode cX9_paper 92 = .ok (.getfield 19, 3) := by decide +kernel
theorem dX9_paper_95 : decode cX9_paper 95 = .ok (.iload_n 1, 1) := by decide +kernel
theorem dX9_paper_96 : decode cX9_paper 96 = .ok (.iaload, 1) := by decide +kernel
theorem dX9_paper_97 : decode cX9_paper 97 = .ok (.if_icmp .ge 7, 3) := by decide +kernel
theorem dX9_paper_100 : decode cX9_paper 100 = .ok (.iconst 1, 1) := by decide +kernel
theorem dX9_paper_101 : decode cX9_paper 101 = .ok (.goto 4, 3) := by decide +kernel
end
section
theorem dX9_paper_104 : decode cX9_paper 104 = .ok (.iconst 0, 1) := by decide +kernel
theorem dX9_paper_105 : decode cX9_paper 105 = .ok (.bastore, 1) := by decide +kernel
theorem dX9_paper_106 : decode cX9_paper 106 = .ok (.iconst 0, 1) := by decide +kernel
theorem dX9_paper_107 : decode cX9_paper 107 = .ok (.istore_n 3, 1) := by decide +kernel
theorem dX9_paper_108 : decode cX9_paper 108 = .ok (.iload_n 3, 1) := by decide +kernel
theorem dX9_paper_109 : decode cX9_paper 109 = .ok (.iload_n 2, 1) := by decide +kernel
theorem dX9_paper_110 : decode cX9_paper 110 = .ok (.if_icmp .ge 31, 3) := by decide +kernel
theorem dX9_paper_113 : decode cX9_paper 113 = .ok (.aload_n 0, 1) := by decide +kernel
theorem dX9_paper_114 : decode cX9_paper 114 = .ok (.getfield 31, 3) := by decide +kernel
theorem dX9_paper_117 : decode cX9_paper 117 = .ok (.bipush 12, 2) := by decide +kernel
theorem dX9_paper_119 : decode cX9_paper 119 = .ok (.iload_n 1, 1) := by decide +kernel
theorem dX9_paper_120 : decode cX9_paper 120 = .ok (.imul, 1) := by decide +kernel
theorem dX9_paper_121 : decode cX9_paper 121 = .ok (.iload_n 3, 1) := by decide +kernel
theorem dX9_paper_122 : decode cX9_paper 122 = .ok (.iadd, 1) := by decide +kernel
theorem dX9_paper_123 : decode cX9_paper 123 = .ok (.aload_n 0, 1) := by decide +kernel
theorem dX9_paper_124 : decode cX9_paper 124 = .ok (.getfield 22, 3) := by decide +kernel
theorem dX9_paper_127 : decode cX9_paper 127 = .ok (.bipush 12, 2) := by decide +kernel
theorem dX9_paper_129 : decode cX9_paper 129 = .ok (.iload_n 1, 1) := by decide +kernel
theorem dX9_paper_130 : decode cX9_paper 130 = .ok (.imul, 1) := by decide +kernel
theorem dX9_paper_131 : decode cX9_paper 131 = .ok (.iload_n 3, 1) := by decide +kernel
theorem dX9_paper_132 : decode cX9_paper 132 = .ok (.iadd, 1) := by decide +kernel
theorem dX9_paper_133 : decode cX9_paper 133 = .ok (.iaload, 1) := by decide +kernel
theorem dX9_paper_134 : decode cX9_paper 134 = .ok (.iastore, 1) := by decide +kernel
theorem dX9_paper_135 : decode cX9_paper 135 = .ok (.iinc 3 1, 3) := by decide +kernel
theorem dX9_paper_138 : decode cX9_paper 138 = .ok (.goto (-30), 3) := by decide +kernel
theorem dX9_paper_141 : decode cX9_paper 141 = .ok (.iload_n 2, 1) := by decide +kernel
theorem dX9_paper_142 : decode cX9_paper 142 = .ok (.ireturn, 1) := by decide +kernel
theorem dX9_knock_0 : decode cX9_knock 0 = .ok (.aload_n 0, 1) := by decide +kernel
theorem dX9_knock_1 : decode cX9_knock 1 = .ok (.iload_n 1, 1) := by decide +kernel
theorem dX9_knock_2 : decode cX9_knock 2 = .ok (.invokevirtual 172, 3) := by decide +kernel
theorem dX9_knock_5 : decode cX9_knock 5 = .ok (.ifCond .ne 9, 3) := by decide +kernel
theorem dX9_knock_8 : decode cX9_knock 8 = .ok (.aload_n 0, 1) := by decide +kernel
theorem dX9_knock_9 : decode cX9_knock 9 = .ok (.iconst (-1), 1) := by decide +kernel
theorem dX9_knock_10 : decode cX9_knock 10 = .ok (.invokevirtual 146, 3) := by decide +kernel
theorem dX9_knock_13 : decode cX9_knock 13 = .ok (.ireturn, 1) := by decide +kernel
theorem dX9_knock_14 : decode cX9_knock 14 = .ok (.iload_n 2, 1) := by decide +kernel
theorem dX9_knock_15 : decode cX9_knock 15 = .ok (.i2l, 1) := by decide +kernel
theorem dX9_knock_16 : decode cX9_knock 16 = .ok (.lconst 0, 1) := by decide +kernel
theorem dX9_knock_17 : decode cX9_knock 17 = .ok (.ldc2_w 203, 3) := by decide +kernel
theorem dX9_knock_20 : decode cX9_knock 20 = .ok (.invokestatic 152, 3) := by decide +kernel
theorem dX9_knock_23 : decode cX9_knock 23 = .ok (.ifCond .eq 31, 3) := by decide +kernel
theorem dX9_knock_26 : decode cX9_knock 26 = .ok (.aload_n 0, 1) := by decide +kernel
theorem dX9_knock_27 : decode cX9_knock 27 = .ok (.getfield 158, 3) := by decide +kernel
theorem dX9_knock_30 : decode cX9_knock 30 = .ok (.ifCond .ne 24, 3) := by decide +kernel
theorem dX9_knock_33 : decode cX9_knock 33 = .ok (.aload_n 0, 1) := by decide +kernel
theorem dX9_knock_34 : decode cX9_knock 34 = .ok (.iload_n 1, 1) := by decide +kernel
theorem dX9_knock_35 : decode cX9_knock 35 = .ok (.invokevirtual 196, 3) := by decide +kernel
theorem dX9_knock_38 : decode cX9_knock 38 = .ok (.ifCond .eq 16, 3) := by decide +kernel
theorem dX9_knock_41 : decode cX9_knock 41 = .ok (.aload_n 0, 1) := by decide +kernel
theorem dX9_knock_42 : decode cX9_knock 42 = .ok (.getfield 34, 3) := by decide +kernel
theorem dX9_knock_45 : decode cX9_knock 45 = .ok (.iload_n 1, 1) := by decide +kernel
theorem dX9_knock_46 : decode cX9_knock 46 = .ok (.iaload, 1) := by decide +kernel
theorem dX9_knock_47 : decode cX9_knock 47 = .ok (.aload_n 0, 1) := by decide +kernel
theorem dX9_knock_48 : decode cX9_knock 48 = .ok (.getfield 62, 3) := by decide +kernel
theorem dX9_knock_51 : decode cX9_knock 51 = .ok (.if_icmp .lt 10, 3) := by decide +kernel
theorem dX9_knock_54 : decode cX9_knock 54 = .ok (.aload_n 0, 1) := by decide +kernel
theorem dX9_knock_55 : decode cX9_knock 55 = .ok (.bipush (-6), 2) := by decide +kernel
theorem dX9_knock_57 : decode cX9_knock 57 = .ok (.invokevirtual 146, 3) := by decide +kernel
theorem dX9_knock_60 : decode cX9_knock 60 = .ok (.ireturn, 1) := by decide +kernel
theorem dX9_knock_61 : decode cX9_knock 61 = .ok (.aload_n 0, 1) := by decide +kernel
theorem dX9_knock_62 : decode cX9_knock 62 = .ok (.getfield 34, 3) := by decide +kernel
theorem dX9_knock_65 : decode cX9_knock 65 = .ok (.iload_n 1, 1) := by decide +kernel
theorem dX9_knock_66 : decode cX9_knock 66 = .ok (.dup2, 1) := by decide +kernel
theorem dX9_knock_67 : decode cX9_knock 67 = .ok (.iaload, 1) := by decide +kernel
theorem dX9_knock_68 : decode cX9_knock 68 = .ok (.iconst 1, 1) := by decide +kernel
theorem dX9_knock_69 : decode cX9_knock 69 = .ok (.iadd, 1) := by decide +kernel
theorem dX9_knock_70 : decode cX9_knock 70 = .ok (.iastore, 1) := by decide +kernel
theorem dX9_knock_71 : decode cX9_knock 71 = .ok (.aload_n 0, 1) := by decide +kernel
theorem dX9_knock_72 : decode cX9_knock 72 = .ok (.getfield 75, 3) := by decide +kernel
theorem dX9_knock_75 : decode cX9_knock 75 = .ok (.bipush 10, 2) := by decide +kernel
theorem dX9_knock_77 : decode cX9_knock 77 = .ok (.aload_n 0, 1) := by decide +kernel
theorem dX9_knock_78 : decode cX9_knock 78 = .ok (.getfield 13, 3) := by decide +kernel
theorem dX9_knock_81 : decode cX9_knock 81 = .ok (.iload_n 1, 1) := by decide +kernel
theorem dX9_knock_82 : decode cX9_knock 82 = .ok (.iaload, 1) := by decide +kernel
theorem dX9_knock_83 : decode cX9_knock 83 = .ok (.imul, 1) := by decide +kernel
theorem dX9_knock_84 : decode cX9_knock 84 = .ok (.iload_n 2, 1) := by decide +kernel
theorem dX9_knock_85 : decode cX9_knock 85 = .ok (.iadd, 1) := by decide +kernel
theorem dX9_knock_86 : decode cX9_knock 86 = .ok (.dup2, 1) := by decide +kernel
theorem dX9_knock_87 : decode cX9_knock 87 = .ok (.iaload, 1) := by decide +kernel
theorem dX9_knock_88 : decode cX9_knock 88 = .ok (.iconst 1, 1) := by decide +kernel
theorem dX9_knock_89 : decode cX9_knock 89 = .ok (.iadd, 1) := by decide +kernel
theorem dX9_knock_90 : decode cX9_knock 90 = .ok (.iastore, 1) := by decide +kernel
theorem dX9_knock_91 : decode cX9_knock 91 = .ok (.aload_n 0, 1) := by decide +kernel
theorem dX9_knock_92 : decode cX9_knock 92 = .ok (.getfield 16, 3) := by decide +kernel
theorem dX9_knock_95 : decode cX9_knock 95 = .ok (.iload_n 1, 1) := by decide +kernel
theorem dX9_knock_96 : decode cX9_knock 96 = .ok (.iaload, 1) := by decide +kernel
theorem dX9_knock_97 : decode cX9_knock 97 = .ok (.iload_n 2, 1) := by decide +kernel
theorem dX9_knock_98 : decode cX9_knock 98 = .ok (.ishr, 1) := by decide +kernel
theorem dX9_knock_99 : decode cX9_knock 99 = .ok (.iconst 1, 1) := by decide +kernel
theorem dX9_knock_100 : decode cX9_knock 100 = .ok (.iand, 1) := by decide +kernel
theorem dX9_knock_101 : decode cX9_knock 101 = .ok (.ifCond .ne 5, 3) := by decide +kernel
theorem dX9_knock_104 : decode cX9_knock 104 = .ok (.iconst 0, 1) := by decide +kernel
theorem dX9_knock_105 : decode cX9_knock 105 = .ok (.ireturn, 1) := by decide +kernel
theorem dX9_knock_106 : decode cX9_knock 106 = .ok (.aload_n 0, 1) := by decide +kernel
theorem dX9_knock_107 : decode cX9_knock 107 = .ok (.getfield 78, 3) := by decide +kernel
theorem dX9_knock_110 : decode cX9_knock 110 = .ok (.bipush 10, 2) := by decide +kernel
theorem dX9_knock_112 : decode cX9_knock 112 = .ok (.aload_n 0, 1) := by decide +kernel
theorem dX9_knock_113 : decode cX9_knock 113 = .ok (.getfield 13, 3) := by decide +kernel
theorem dX9_knock_116 : decode cX9_knock 116 = .ok (.iload_n 1, 1) := by decide +kernel
theorem dX9_knock_117 : decode cX9_knock 117 = .ok (.iaload, 1) := by decide +kernel
theorem dX9_knock_118 : decode cX9_knock 118 = .ok (.imul, 1) := by decide +kernel
theorem dX9_knock_119 : decode cX9_knock 119 = .ok (.iload_n 2, 1) := by decide +kernel
theorem dX9_knock_120 : decode cX9_knock 120 = .ok (.iadd, 1) := by decide +kernel
theorem dX9_knock_121 : decode cX9_knock 121 = .ok (.dup2, 1) := by decide +kernel
theorem dX9_knock_122 : decode cX9_knock 122 = .ok (.iaload, 1) := by decide +kernel
theorem dX9_knock_123 : decode cX9_knock 123 = .ok (.iconst 1, 1) := by decide +kernel
theorem dX9_knock_124 : decode cX9_knock 124 = .ok (.iadd, 1) := by decide +kernel
theorem dX9_knock_125 : decode cX9_knock 125 = .ok (.iastore, 1) := by decide +kernel
theorem dX9_knock_126 : decode cX9_knock 126 = .ok (.aload_n 0, 1) := by decide +kernel
theorem dX9_knock_127 : decode cX9_knock 127 = .ok (.iload_n 1, 1) := by decide +kernel
theorem dX9_knock_128 : decode cX9_knock 128 = .ok (.iconst 2, 1) := by decide +kernel
theorem dX9_knock_129 : decode cX9_knock 129 = .ok (.aload_n 0, 1) := by decide +kernel
theorem dX9_knock_130 : decode cX9_knock 130 = .ok (.getfield 19, 3) := by decide +kernel
theorem dX9_knock_133 : decode cX9_knock 133 = .ok (.iload_n 1, 1) := by decide +kernel
theorem dX9_knock_134 : decode cX9_knock 134 = .ok (.iaload, 1) := by decide +kernel
theorem dX9_knock_135 : decode cX9_knock 135 = .ok (.invokevirtual 199, 3) := by decide +kernel
theorem dX9_knock_138 : decode cX9_knock 138 = .ok (.iconst 0, 1) := by decide +kernel
theorem dX9_knock_139 : decode cX9_knock 139 = .ok (.istore_n 3, 1) := by decide +kernel
theorem dX9_knock_140 : decode cX9_knock 140 = .ok (.iload_n 3, 1) := by decide +kernel
theorem dX9_knock_141 : decode cX9_knock 141 = .ok (.aload_n 0, 1) := by decide +kernel
theorem dX9_knock_142 : decode cX9_knock 142 = .ok (.getfield 19, 3) := by decide +kernel
theorem dX9_knock_145 : decode cX9_knock 145 = .ok (.iload_n 1, 1) := by decide +kernel
theorem dX9_knock_146 : decode cX9_knock 146 = .ok (.iaload, 1) := by decide +kernel
theorem dX9_knock_147 : decode cX9_knock 147 = .ok (.if_icmp .ge 31, 3) := by decide +kernel
theorem dX9_knock_150 : decode cX9_knock 150 = .ok (.aload_n 0, 1) := by decide +kernel
theorem dX9_knock_151 : decode cX9_knock 151 = .ok (.getfield 31, 3) := by decide +kernel
theorem dX9_knock_154 : decode cX9_knock 154 = .ok (.bipush 12, 2) := by decide +kernel
theorem dX9_knock_156 : decode cX9_knock 156 = .ok (.iload_n 1, 1) := by decide +kernel
theorem dX9_knock_157 : decode cX9_knock 157 = .ok (.imul, 1) := by decide +kernel
theorem dX9_knock_158 : decode cX9_knock 158 = .ok (.iload_n 3, 1) := by decide +kernel
theorem dX9_knock_159 : decode cX9_knock 159 = .ok (.iadd, 1) := by decide +kernel
theorem dX9_knock_160 : decode cX9_knock 160 = .ok (.aload_n 0, 1) := by decide +kernel
theorem dX9_knock_161 : decode cX9_knock 161 = .ok (.getfield 22, 3) := by decide +kernel
theorem dX9_knock_164 : decode cX9_knock 164 = .ok (.bipush 12, 2) := by decide +kernel
theorem dX9_knock_166 : decode cX9_knock 166 = .ok (.iload_n 1, 1) := by decide +kernel
theorem dX9_knock_167 : decode cX9_knock 167 = .ok (.imul, 1) := by decide +kernel
theorem dX9_knock_168 : decode cX9_knock 168 = .ok (.iload_n 3, 1) := by decide +kernel
theorem dX9_knock_169 : decode cX9_knock 169 = .ok (.iadd, 1) := by decide +kernel
theorem dX9_knock_170 : decode cX9_knock 170 = .ok (.iaload, 1) := by decide +kernel
theorem dX9_knock_171 : decode cX9_knock 171 = .ok (.iastore, 1) := by decide +kernel
theorem dX9_knock_172 : decode cX9_knock 172 = .ok (.iinc 3 1, 3) := by decide +kernel
theorem dX9_knock_175 : decode cX9_knock 175 = .ok (.goto (-35), 3) := by decide +kernel
theorem dX9_knock_178 : decode cX9_knock 178 = .ok (.iconst 1, 1) := by decide +kernel
theorem dX9_knock_179 : decode cX9_knock 179 = .ok (.ireturn, 1) := by decide +kernel
theorem dX9_proxy_0 : decode cX9_proxy 0 = .ok (.aload_n 0, 1) := by decide +kernel
theorem dX9_proxy_1 : decode cX9_proxy 1 = .ok (.iload_n 1, 1) := by decide +kernel
theorem dX9_proxy_2 : decode cX9_proxy 2 = .ok (.invokevirtual 172, 3) := by decide +kernel
theorem dX9_proxy_5 : decode cX9_proxy 5 = .ok (.ifCond .ne 9, 3) := by decide +kernel
theorem dX9_proxy_8 : decode cX9_proxy 8 = .ok (.aload_n 0, 1) := by decide +kernel
theorem dX9_proxy_9 : decode cX9_proxy 9 = .ok (.iconst (-1), 1) := by decide +kernel
theorem dX9_proxy_10 : decode cX9_proxy 10 = .ok (.invokevirtual 146, 3) := by decide +kernel
theorem dX9_proxy_13 : decode cX9_proxy 13 = .ok (.ireturn, 1) := by decide +kernel
theorem dX9_proxy_14 : decode cX9_proxy 14 = .ok (.iload_n 2, 1) := by decide +kernel
theorem dX9_proxy_15 : decode cX9_proxy 15 = .ok (.i2l, 1) := by decide +kernel
theorem dX9_proxy_16 : decode cX9_proxy 16 = .ok (.lconst 0, 1) := by decide +kernel
theorem dX9_proxy_17 : decode cX9_proxy 17 = .ok (.ldc2_w 205, 3) := by decide +kernel
theorem dX9_proxy_20 : decode cX9_proxy 20 = .ok (.invokestatic 152, 3) := by decide +kernel
theorem dX9_proxy_23 : decode cX9_proxy 23 = .ok (.ifCond .eq 41, 3) := by decide +kernel
theorem dX9_proxy_26 : decode cX9_proxy 26 = .ok (.aload_n 0, 1) := by decide +kernel
theorem dX9_proxy_27 : decode cX9_proxy 27 = .ok (.getfield 158, 3) := by decide +kernel
theorem dX9_proxy_30 : decode cX9_proxy 30 = .ok (.ifCond .ne 34, 3) := by decide +kernel
theorem dX9_proxy_33 : decode cX9_proxy 33 = .ok (.aload_n 0, 1) := by decide +kernel
theorem dX9_proxy_34 : decode cX9_proxy 34 = .ok (.iload_n 1, 1) := by decide +kernel
theorem dX9_proxy_35 : decode cX9_proxy 35 = .ok (.invokevirtual 196, 3) := by decide +kernel
theorem dX9_proxy_38 : decode cX9_proxy 38 = .ok (.ifCond .eq 26, 3) := by decide +kernel
theorem dX9_proxy_41 : decode cX9_proxy 41 = .ok (.aload_n 0, 1) := by decide +kernel
theorem dX9_proxy_42 : decode cX9_proxy 42 = .ok (.getfield 25, 3) := by decide +kernel
theorem dX9_proxy_45 : decode cX9_proxy 45 = .ok (.iload_n 1, 1) := by decide +kernel
theorem dX9_proxy_46 : decode cX9_proxy 46 = .ok (.iaload, 1) := by decide +kernel
theorem dX9_proxy_47 : decode cX9_proxy 47 = .ok (.iconst 3, 1) := by decide +kernel
theorem dX9_proxy_48 : decode cX9_proxy 48 = .ok (.if_icmp .eq 16, 3) := by decide +kernel
theorem dX9_proxy_51 : decode cX9_proxy 51 = .ok (.aload_n 0, 1) := by decide +kernel
theorem dX9_proxy_52 : decode cX9_proxy 52 = .ok (.getfield 34, 3) := by decide +kernel
theorem dX9_proxy_55 : decode cX9_proxy 55 = .ok (.iload_n 1, 1) := by decide +kernel
theorem dX9_proxy_56 : decode cX9_proxy 56 = .ok (.iaload, 1) := by decide +kernel
theorem dX9_proxy_57 : decode cX9_proxy 57 = .ok (.aload_n 0, 1) := by decide +kernel
theorem dX9_proxy_58 : decode cX9_proxy 58 = .ok (.getfield 66, 3) := by decide +kernel
theorem dX9_proxy_61 : decode cX9_proxy 61 = .ok (.if_icmp .ge 10, 3) := by decide +kernel
theorem dX9_proxy_64 : decode cX9_proxy 64 = .ok (.aload_n 0, 1) := by decide +kernel
theorem dX9_proxy_65 : decode cX9_proxy 65 = .ok (.bipush (-6), 2) := by decide +kernel
theorem dX9_proxy_67 : decode cX9_proxy 67 = .ok (.invokevirtual 146, 3) := by decide +kernel
theorem dX9_proxy_70 : decode cX9_proxy 70 = .ok (.ireturn, 1) := by decide +kernel
theorem dX9_proxy_71 : decode cX9_proxy 71 = .ok (.aload_n 0, 1) := by decide +kernel
theorem dX9_proxy_72 : decode cX9_proxy 72 = .ok (.iload_n 1, 1) := by decide +kernel
theorem dX9_proxy_73 : decode cX9_proxy 73 = .ok (.iconst 3, 1) := by decide +kernel
theorem dX9_proxy_74 : decode cX9_proxy 74 = .ok (.iload_n 2, 1) := by decide +kernel
theorem dX9_proxy_75 : decode cX9_proxy 75 = .ok (.invokevirtual 199, 3) := by decide +kernel
theorem dX9_proxy_78 : decode cX9_proxy 78 = .ok (.iload_n 2, 1) := by decide +kernel
theorem dX9_proxy_79 : decode cX9_proxy 79 = .ok (.ireturn, 1) := by decide +kernel
theorem dX9_isHead_0 : decode cX9_isHead 0 = .ok (.iload_n 2, 1) := by decide +kernel
theorem dX9_isHead_1 : decode cX9_isHead 1 = .ok (.ifCond .lt 17, 3) := by decide +kernel
theorem dX9_isHead_4 : decode cX9_isHead 4 = .ok (.iload_n 2, 1) := by decide +kernel
theorem dX9_isHead_5 : decode cX9_isHead 5 = .ok (.aload_n 0, 1) := by decide +kernel
theorem dX9_isHead_6 : decode cX9_isHead 6 = .ok (.getfield 28, 3) := by decide +kernel
theorem dX9_isHead_9 : decode cX9_isHead 9 = .ok (.iload_n 1, 1) := by decide +kernel
theorem dX9_isHead_10 : decode cX9_isHead 10 = .ok (.iaload, 1) := by decide +kernel
theorem dX9_isHead_11 : decode cX9_isHead 11 = .ok (.if_icmp .ge 7, 3) := by decide +kernel
theorem dX9_isHead_14 : decode cX9_isHead 14 = .ok (.iconst 1, 1) := by decide +kernel
theorem dX9_isHead_15 : decode cX9_isHead 15 = .ok (.goto 4, 3) := by decide +kernel
theorem dX9_isHead_18 : decode cX9_isHead 18 = .ok (.iconst 0, 1) := by decide +kernel
theorem dX9_isHead_19 : decode cX9_isHead 19 = .ok (.ireturn, 1) := by decide +kernel
theorem dX9_twice_0 : decode cX9_twice 0 = .ok (.aload_n 0, 1) := by decide +kernel
theorem dX9_twice_1 : decode cX9_twice 1 = .ok (.iload_n 1, 1) := by decide +kernel
theorem dX9_twice_2 : decode cX9_twice 2 = .ok (.invokevirtual 172, 3) := by decide +kernel
theorem dX9_twice_5 : decode cX9_twice 5 = .ok (.ifCond .eq 11, 3) := by decide +kernel
theorem dX9_twice_8 : decode cX9_twice 8 = .ok (.aload_n 0, 1) := by decide +kernel
theorem dX9_twice_9 : decode cX9_twice 9 = .ok (.iload_n 3, 1) := by decide +kernel
theorem dX9_twice_10 : decode cX9_twice 10 = .ok (.invokevirtual 172, 3) := by decide +kernel
theorem dX9_twice_13 : decode cX9_twice 13 = .ok (.ifCond .ne 9, 3) := by decide +kernel
theorem dX9_twice_16 : decode cX9_twice 16 = .ok (.aload_n 0, 1) := by decide +kernel
theorem dX9_twice_17 : decode cX9_twice 17 = .ok (.iconst (-1), 1) := by decide +kernel
theorem dX9_twice_18 : decode cX9_twice 18 = .ok (.invokevirtual 146, 3) := by decide +kernel
theorem dX9_twice_21 : decode cX9_twice 21 = .ok (.ireturn, 1) := by decide +kernel
theorem dX9_twice_22 : decode cX9_twice 22 = .ok (.aload_n 0, 1) := by decide +kernel
theorem dX9_twice_23 : decode cX9_twice 23 = .ok (.iload_n 1, 1) := by decide +kernel
theorem dX9_twice_24 : decode cX9_twice 24 = .ok (.iload_n 2, 1) := by decide +kernel
theorem dX9_twice_25 : decode cX9_twice 25 = .ok (.invokevirtual 207, 3) := by decide +kernel
theorem dX9_twice_28 : decode cX9_twice 28 = .ok (.ifCond .eq 13, 3) := by decide +kernel
theorem dX9_twice_31 : decode cX9_twice 31 = .ok (.aload_n 0, 1) := by decide +kernel
theorem dX9_twice_32 : decode cX9_twice 32 = .ok (.iload_n 3, 1) := by decide +kernel
theorem dX9_twice_33 : decode cX9_twice 33 = .ok (.iload 4, 2) := by decide +kernel
theorem dX9_twice_35 : decode cX9_twice 35 = .ok (.invokevirtual 207, 3) := by decide +kernel
theorem dX9_twice_38 : decode cX9_twice 38 = .ok (.ifCond .ne 10, 3) := by decide +kernel
theorem dX9_twice_41 : decode cX9_twice 41 = .ok (.aload_n 0, 1) := by decide +kernel
theorem dX9_twice_42 : decode cX9_twice 42 = .ok (.bipush (-5), 2) := by decide +kernel
theorem dX9_twice_44 : decode cX9_twice 44 = .ok (.invokevirtual 146, 3) := by decide +kernel
theorem dX9_twice_47 : decode cX9_twice 47 = .ok (.ireturn, 1) := by decide +kernel
theorem dX9_twice_48 : decode cX9_twice 48 = .ok (.iload_n 1, 1) := by decide +kernel
theorem dX9_twice_49 : decode cX9_twice 49 = .ok (.iload_n 3, 1) := by decide +kernel
theorem dX9_twice_50 : decode cX9_twice 50 = .ok (.if_icmp .eq 52, 3) := by decide +kernel
theorem dX9_twice_53 : decode cX9_twice 53 = .ok (.aload_n 0, 1) := by decide +kernel
theorem dX9_twice_54 : decode cX9_twice 54 = .ok (.getfield 50, 3) := by decide +kernel
theorem dX9_twice_57 : decode cX9_twice 57 = .ok (.bipush 12, 2) := by decide +kernel
theorem dX9_twice_59 : decode cX9_twice 59 = .ok (.iload_n 1, 1) := by decide +kernel
theorem dX9_twice_60 : decode cX9_twice 60 = .ok (.imul, 1) := by decide +kernel
theorem dX9_twice_61 : decode cX9_twice 61 = .ok (.iload_n 2, 1) := by decide +kernel
theorem dX9_twice_62 : decode cX9_twice 62 = .ok (.iadd, 1) := by decide +kernel
theorem dX9_twice_63 : decode cX9_twice 63 = .ok (.baload, 1) := by decide +kernel
theorem dX9_twice_64 : decode cX9_twice 64 = .ok (.ifCond .ne 38, 3) := by decide +kernel
theorem dX9_twice_67 : decode cX9_twice 67 = .ok (.aload_n 0, 1) := by decide +kernel
theorem dX9_twice_68 : decode cX9_twice 68 = .ok (.getfield 50, 3) := by decide +kernel
theorem dX9_twice_71 : decode cX9_twice 71 = .ok (.bipush 12, 2) := by decide +kernel
theorem dX9_twice_73 : decode cX9_twice 73 = .ok (.iload_n 3, 1) := by decide +kernel
theorem dX9_twice_74 : decode cX9_twice 74 = .ok (.imul, 1) := by decide +kernel
theorem dX9_twice_75 : decode cX9_twice 75 = .ok (.iload 4, 2) := by decide +kernel
theorem dX9_twice_77 : decode cX9_twice 77 = .ok (.iadd, 1) := by decide +kernel
theorem dX9_twice_78 : decode cX9_twice 78 = .ok (.baload, 1) := by decide +kernel
theorem dX9_twice_79 : decode cX9_twice 79 = .ok (.ifCond .ne 23, 3) := by decide +kernel
theorem dX9_twice_82 : decode cX9_twice 82 = .ok (.aload_n 0, 1) := by decide +kernel
theorem dX9_twice_83 : decode cX9_twice 83 = .ok (.getfield 25, 3) := by decide +kernel
theorem dX9_twice_86 : decode cX9_twice 86 = .ok (.iload_n 1, 1) := by decide +kernel
theorem dX9_twice_87 : decode cX9_twice 87 = .ok (.iaload, 1) := by decide +kernel
theorem dX9_twice_88 : decode cX9_twice 88 = .ok (.iconst 4, 1) := by decide +kernel
theorem dX9_twice_89 : decode cX9_twice 89 = .ok (.if_icmp .eq 13, 3) := by decide +kernel
theorem dX9_twice_92 : decode cX9_twice 92 = .ok (.aload_n 0, 1) := by decide +kernel
theorem dX9_twice_93 : decode cX9_twice 93 = .ok (.getfield 25, 3) := by decide +kernel
theorem dX9_twice_96 : decode cX9_twice 96 = .ok (.iload_n 3, 1) := by decide +kernel
theorem dX9_twice_97 : decode cX9_twice 97 = .ok (.iaload, 1) := by decide +kernel
theorem dX9_twice_98 : decode cX9_twice 98 = .ok (.iconst 4, 1) := by decide +kernel
theorem dX9_twice_99 : decode cX9_twice 99 = .ok (.if_icmp .ne 10, 3) := by decide +kernel
theorem dX9_twice_102 : decode cX9_twice 102 = .ok (.aload_n 0, 1) := by decide +kernel
theorem dX9_twice_103 : decode cX9_twice 103 = .ok (.bipush (-6), 2) := by decide +kernel
theorem dX9_twice_105 : decode cX9_twice 105 = .ok (.invokevirtual 146, 3) := by decide +kernel
theorem dX9_twice_108 : decode cX9_twice 108 = .ok (.ireturn, 1) := by decide +kernel
theorem dX9_twice_109 : decode cX9_twice 109 = .ok (.iload_n 1, 1) := by decide +kernel
theorem dX9_twice_110 : decode cX9_twice 110 = .ok (.iload_n 3, 1) := by decide +kernel
theorem dX9_twice_111 : decode cX9_twice 111 = .ok (.if_icmp .le 7, 3) := by decide +kernel
theorem dX9_twice_114 : decode cX9_twice 114 = .ok (.iload_n 1, 1) := by decide +kernel
theorem dX9_twice_115 : decode cX9_twice 115 = .ok (.goto 4, 3) := by decide +kernel
theorem dX9_twice_118 : decode cX9_twice 118 = .ok (.iload_n 3, 1) := by decide +kernel
theorem dX9_twice_119 : decode cX9_twice 119 = .ok (.istore 5, 2) := by decide +kernel
theorem dX9_twice_121 : decode cX9_twice 121 = .ok (.aload_n 0, 1) := by decide +kernel
theorem dX9_twice_122 : decode cX9_twice 122 = .ok (.getfield 50, 3) := by decide +kernel
theorem dX9_twice_125 : decode cX9_twice 125 = .ok (.bipush 12, 2) := by decide +kernel
theorem dX9_twice_127 : decode cX9_twice 127 = .ok (.iload 5, 2) := by decide +kernel
theorem dX9_twice_129 : decode cX9_twice 129 = .ok (.imul, 1) := by decide +kernel
theorem dX9_twice_130 : decode cX9_twice 130 = .ok (.iload 5, 2) := by decide +kernel
theorem dX9_twice_132 : decode cX9_twice 132 = .ok (.iload_n 1, 1) := by decide +kernel
theorem dX9_twice_133 : decode cX9_twice 133 = .ok (.if_icmp .ne 7, 3) := by decide +kernel
theorem dX9_twice_136 : decode cX9_twice 136 = .ok (.iload_n 2, 1) := by decide +kernel
theorem dX9_twice_137 : decode cX9_twice 137 = .ok (.goto 5, 3) := by decide +kernel
theorem dX9_twice_140 : decode cX9_twice 140 = .ok (.iload 4, 2) := by decide +kernel
theorem dX9_twice_142 : decode cX9_twice 142 = .ok (.iadd, 1) := by decide +kernel
theorem dX9_twice_143 : decode cX9_twice 143 = .ok (.iconst 1, 1) := by decide +kernel
theorem dX9_twice_144 : decode cX9_twice 144 = .ok (.bastore, 1) := by decide +kernel
theorem dX9_twice_145 : decode cX9_twice 145 = .ok (.iload 5, 2) := by decide +kernel
theorem dX9_twice_147 : decode cX9_twice 147 = .ok (.ireturn, 1) := by decide +kernel
theorem dX9_donor_0 : decode cX9_donor 0 = .ok (.iconst (-1), 1) := by decide +kernel
theorem dX9_donor_1 : decode cX9_donor 1 = .ok (.istore_n 2, 1) := by decide +kernel
theorem dX9_donor_2 : decode cX9_donor 2 = .ok (.bipush 100, 2) := by decide +kernel
theorem dX9_donor_4 : decode cX9_donor 4 = .ok (.istore_n 3, 1) := by decide +kernel
theorem dX9_donor_5 : decode cX9_donor 5 = .ok (.iconst 0, 1) := by decide +kernel
theorem dX9_donor_6 : decode cX9_donor 6 = .ok (.istore 4, 2) := by decide +kernel
theorem dX9_donor_8 : decode cX9_donor 8 = .ok (.iload 4, 2) := by decide +kernel
theorem dX9_donor_10 : decode cX9_donor 10 = .ok (.aload_n 0, 1) := by decide +kernel
theorem dX9_donor_11 : decode cX9_donor 11 = .ok (.getfield 139, 3) := by decide +kernel
theorem dX9_donor_14 : decode cX9_donor 14 = .ok (.if_icmp .ge 114, 3) := by decide +kernel
theorem dX9_donor_17 : decode cX9_donor 17 = .ok (.aload_n 0, 1) := by decide +kernel
theorem dX9_donor_18 : decode cX9_donor 18 = .ok (.getfield 13, 3) := by decide +kernel
theorem dX9_donor_21 : decode cX9_donor 21 = .ok (.iload 4, 2) := by decide +kernel
theorem dX9_donor_23 : decode cX9_donor 23 = .ok (.iaload, 1) := by decide +kernel
theorem dX9_donor_24 : decode cX9_donor 24 = .ok (.aload_n 0, 1) := by decide +kernel
theorem dX9_donor_25 : decode cX9_donor 25 = .ok (.getfield 13, 3) := by decide +kernel
theorem dX9_donor_28 : decode cX9_donor 28 = .ok (.iload_n 1, 1) := by decide +kernel
theorem dX9_donor_29 : decode cX9_donor 29 = .ok (.iaload, 1) := by decide +kernel
theorem dX9_donor_30 : decode cX9_donor 30 = .ok (.if_icmp .ne 50, 3) := by decide +kernel
theorem dX9_donor_33 : decode cX9_donor 33 = .ok (.aload_n 0, 1) := by decide +kernel
theorem dX9_donor_34 : decode cX9_donor 34 = .ok (.getfield 37, 3) := by decide +kernel
theorem dX9_donor_37 : decode cX9_donor 37 = .ok (.iload 4, 2) := by decide +kernel
theorem dX9_donor_39 : decode cX9_donor 39 = .ok (.iaload, 1) := by decide +kernel
theorem dX9_donor_40 : decode cX9_donor 40 = .ok (.iconst 2, 1) := by decide +kernel
theorem dX9_donor_41 : decode cX9_donor 41 = .ok (.if_icmp .ge 39, 3) := by decide +kernel
theorem dX9_donor_44 : decode cX9_donor 44 = .ok (.aload_n 0, 1) := by decide +kernel
theorem dX9_donor_45 : decode cX9_donor 45 = .ok (.getfield 25, 3) := by decide +kernel
theorem dX9_donor_48 : decode cX9_donor 48 = .ok (.iload 4, 2) := by decide +kernel
theorem dX9_donor_50 : decode cX9_donor 50 = .ok (.iaload, 1) := by decide +kernel
theorem dX9_donor_51 : decode cX9_donor 51 = .ok (.iconst 2, 1) := by decide +kernel
theorem dX9_donor_52 : decode cX9_donor 52 = .ok (.if_icmp .eq 24, 3) := by decide +kernel
theorem dX9_donor_55 : decode cX9_donor 55 = .ok (.aload_n 0, 1) := by decide +kernel
theorem dX9_donor_56 : decode cX9_donor 56 = .ok (.getfield 25, 3) := by decide +kernel
theorem dX9_donor_59 : decode cX9_donor 59 = .ok (.iload 4, 2) := by decide +kernel
theorem dX9_donor_61 : decode cX9_donor 61 = .ok (.iaload, 1) := by decide +kernel
theorem dX9_donor_62 : decode cX9_donor 62 = .ok (.iconst 1, 1) := by decide +kernel
theorem dX9_donor_63 : decode cX9_donor 63 = .ok (.if_icmp .ne 17, 3) := by decide +kernel
theorem dX9_donor_66 : decode cX9_donor 66 = .ok (.aload_n 0, 1) := by decide +kernel
theorem dX9_donor_67 : decode cX9_donor 67 = .ok (.getfield 46, 3) := by decide +kernel
theorem dX9_donor_70 : decode cX9_donor 70 = .ok (.iload 4, 2) := by decide +kernel
theorem dX9_donor_72 : decode cX9_donor 72 = .ok (.baload, 1) := by decide +kernel
theorem dX9_donor_73 : decode cX9_donor 73 = .ok (.ifCond .ne 7, 3) := by decide +kernel
theorem dX9_donor_76 : decode cX9_donor 76 = .ok (.iconst 1, 1) := by decide +kernel
theorem dX9_donor_77 : decode cX9_donor 77 = .ok (.goto 4, 3) := by decide +kernel
theorem dX9_donor_80 : decode cX9_donor 80 = .ok (.iconst 0, 1) := by decide +kernel
theorem dX9_donor_81 : decode cX9_donor 81 = .ok (.istore 5, 2) := by decide +kernel
theorem dX9_donor_83 : decode cX9_donor 83 = .ok (.iload 4, 2) := by decide +kernel
theorem dX9_donor_85 : decode cX9_donor 85 = .ok (.iload_n 1, 1) := by decide +kernel
theorem dX9_donor_86 : decode cX9_donor 86 = .ok (.if_icmp .ge 10, 3) := by decide +kernel
theorem dX9_donor_89 : decode cX9_donor 89 = .ok (.iload_n 1, 1) := by decide +kernel
theorem dX9_donor_90 : decode cX9_donor 90 = .ok (.iload 4, 2) := by decide +kernel
theorem dX9_donor_92 : decode cX9_donor 92 = .ok (.isub, 1) := by decide +kernel
theorem dX9_donor_93 : decode cX9_donor 93 = .ok (.goto 7, 3) := by decide +kernel
theorem dX9_donor_96 : decode cX9_donor 96 = .ok (.iload 4, 2) := by decide +kernel
theorem dX9_donor_98 : decode cX9_donor 98 = .ok (.iload_n 1, 1) := by decide +kernel
theorem dX9_donor_99 : decode cX9_donor 99 = .ok (.isub, 1) := by decide +kernel
theorem dX9_donor_100 : decode cX9_donor 100 = .ok (.istore 6, 2) := by decide +kernel
theorem dX9_donor_102 : decode cX9_donor 102 = .ok (.iload 5, 2) := by decide +kernel
theorem dX9_donor_104 : decode cX9_donor 104 = .ok (.ifCond .eq 18, 3) := by decide +kernel
theorem dX9_donor_107 : decode cX9_donor 107 = .ok (.iload 6, 2) := by decide +kernel
theorem dX9_donor_109 : decode cX9_donor 109 = .ok (.iload_n 3, 1) := by decide +kernel
theorem dX9_donor_110 : decode cX9_donor 110 = .ok (.if_icmp .lt 6, 3) := by decide +kernel
theorem dX9_donor_113 : decode cX9_donor 113 = .ok (.goto 9, 3) := by decide +kernel
theorem dX9_donor_116 : decode cX9_donor 116 = .ok (.iload 4, 2) := by decide +kernel
theorem dX9_donor_118 : decode cX9_donor 118 = .ok (.istore_n 2, 1) := by decide +kernel
theorem dX9_donor_119 : decode cX9_donor 119 = .ok (.iload 6, 2) := by decide +kernel
theorem dX9_donor_121 : decode cX9_donor 121 = .ok (.istore_n 3, 1) := by decide +kernel
theorem dX9_donor_122 : decode cX9_donor 122 = .ok (.iinc 4 1, 3) := by decide +kernel
theorem dX9_donor_125 : decode cX9_donor 125 = .ok (.goto (-117), 3) := by decide +kernel
theorem dX9_donor_128 : decode cX9_donor 128 = .ok (.iload_n 2, 1) := by decide +kernel
theorem dX9_donor_129 : decode cX9_donor 129 = .ok (.ireturn, 1) := by decide +kernel
theorem dX9_fill_0 : decode cX9_fill 0 = .ok (.aload_n 0, 1) := by decide +kernel
theorem dX9_fill_1 : decode cX9_fill 1 = .ok (.getfield 158, 3) := by decide +kernel
theorem dX9_fill_4 : decode cX9_fill 4 = .ok (.ifCond .eq 10, 3) := by decide +kernel
theorem dX9_fill_7 : decode cX9_fill 7 = .ok (.aload_n 0, 1) := by decide +kernel
theorem dX9_fill_8 : decode cX9_fill 8 = .ok (.bipush (-6), 2) := by decide +kernel
theorem dX9_fill_10 : decode cX9_fill 10 = .ok (.invokevirtual 146, 3) := by decide +kernel
theorem dX9_fill_13 : decode cX9_fill 13 = .ok (.ireturn, 1) := by decide +kernel
theorem dX9_fill_14 : decode cX9_fill 14 = .ok (.aload_n 0, 1) := by decide +kernel
theorem dX9_fill_15 : decode cX9_fill 15 = .ok (.iconst 1, 1) := by decide +kernel
theorem dX9_fill_16 : decode cX9_fill 16 = .ok (.putfield 158, 3) := by decide +kernel
theorem dX9_fill_19 : decode cX9_fill 19 = .ok (.iconst 0, 1) := by decide +kernel
theorem dX9_fill_20 : decode cX9_fill 20 = .ok (.istore_n 1, 1) := by decide +kernel
theorem dX9_fill_21 : decode cX9_fill 21 = .ok (.iconst 0, 1) := by decide +kernel
theorem dX9_fill_22 : decode cX9_fill 22 = .ok (.istore_n 2, 1) := by decide +kernel
theorem dX9_fill_23 : decode cX9_fill 23 = .ok (.iload_n 2, 1) := by decide +kernel
theorem dX9_fill_24 : decode cX9_fill 24 = .ok (.aload_n 0, 1) := by decide +kernel
theorem dX9_fill_25 : decode cX9_fill 25 = .ok (.getfield 139, 3) := by decide +kernel
theorem dX9_fill_28 : decode cX9_fill 28 = .ok (.if_icmp .ge 138, 3) := by decide +kernel
theorem dX9_fill_31 : decode cX9_fill 31 = .ok (.aload_n 0, 1) := by decide +kernel
theorem dX9_fill_32 : decode cX9_fill 32 = .ok (.getfield 25, 3) := by decide +kernel
theorem dX9_fill_35 : decode cX9_fill 35 = .ok (.iload_n 2, 1) := by decide +kernel
theorem dX9_fill_36 : decode cX9_fill 36 = .ok (.iaload, 1) := by decide +kernel
theorem dX9_fill_37 : decode cX9_fill 37 = .ok (.ifCond .ne 11, 3) := by decide +kernel
theorem dX9_fill_40 : decode cX9_fill 40 = .ok (.aload_n 0, 1) := by decide +kernel
theorem dX9_fill_41 : decode cX9_fill 41 = .ok (.iload_n 2, 1) := by decide +kernel
theorem dX9_fill_42 : decode cX9_fill 42 = .ok (.invokevirtual 211, 3) := by decide +kernel
theorem dX9_fill_45 : decode cX9_fill 45 = .ok (.goto 4, 3) := by decide +kernel
theorem dX9_fill_48 : decode cX9_fill 48 = .ok (.iconst (-1), 1) := by decide +kernel
theorem dX9_fill_49 : decode cX9_fill 49 = .ok (.istore_n 3, 1) := by decide +kernel
theorem dX9_fill_50 : decode cX9_fill 50 = .ok (.iload_n 3, 1) := by decide +kernel
theorem dX9_fill_51 : decode cX9_fill 51 = .ok (.ifCond .ge 6, 3) := by decide +kernel
theorem dX9_fill_54 : decode cX9_fill 54 = .ok (.goto 106, 3) := by decide +kernel
theorem dX9_fill_57 : decode cX9_fill 57 = .ok (.aload_n 0, 1) := by decide +kernel
theorem dX9_fill_58 : decode cX9_fill 58 = .ok (.iload_n 2, 1) := by decide +kernel
theorem dX9_fill_59 : decode cX9_fill 59 = .ok (.iconst 4, 1) := by decide +kernel
theorem dX9_fill_60 : decode cX9_fill 60 = .ok (.iconst 0, 1) := by decide +kernel
theorem dX9_fill_61 : decode cX9_fill 61 = .ok (.invokevirtual 199, 3) := by decide +kernel
theorem dX9_fill_64 : decode cX9_fill 64 = .ok (.iconst 0, 1) := by decide +kernel
theorem dX9_fill_65 : decode cX9_fill 65 = .ok (.istore 4, 2) := by decide +kernel
theorem dX9_fill_67 : decode cX9_fill 67 = .ok (.iload 4, 2) := by decide +kernel
theorem dX9_fill_69 : decode cX9_fill 69 = .ok (.aload_n 0, 1) := by decide +kernel
theorem dX9_fill_70 : decode cX9_fill 70 = .ok (.getfield 28, 3) := by decide +kernel
theorem dX9_fill_73 : decode cX9_fill 73 = .ok (.iload_n 3, 1) := by decide +kernel
theorem dX9_fill_74 : decode cX9_fill 74 = .ok (.iaload, 1) := by decide +kernel
theorem dX9_fill_75 : decode cX9_fill 75 = .ok (.if_icmp .ge 65, 3) := by decide +kernel
theorem dX9_fill_78 : decode cX9_fill 78 = .ok (.aload_n 0, 1) := by decide +kernel
theorem dX9_fill_79 : decode cX9_fill 79 = .ok (.getfield 50, 3) := by decide +kernel
theorem dX9_fill_82 : decode cX9_fill 82 = .ok (.bipush 12, 2) := by decide +kernel
theorem dX9_fill_84 : decode cX9_fill 84 = .ok (.iload_n 3, 1) := by decide +kernel
theorem dX9_fill_85 : decode cX9_fill 85 = .ok (.imul, 1) := by decide +kernel
theorem dX9_fill_86 : decode cX9_fill 86 = .ok (.iload 4, 2) := by decide +kernel
theorem dX9_fill_88 : decode cX9_fill 88 = .ok (.iadd, 1) := by decide +kernel
theorem dX9_fill_89 : decode cX9_fill 89 = .ok (.baload, 1) := by decide +kernel
theorem dX9_fill_90 : decode cX9_fill 90 = .ok (.ifCond .eq 6, 3) := by decide +kernel
theorem dX9_fill_93 : decode cX9_fill 93 = .ok (.goto 41, 3) := by decide +kernel
theorem dX9_fill_96 : decode cX9_fill 96 = .ok (.aload_n 0, 1) := by decide +kernel
theorem dX9_fill_97 : decode cX9_fill 97 = .ok (.getfield 31, 3) := by decide +kernel
theorem dX9_fill_100 : decode cX9_fill 100 = .ok (.bipush 12, 2) := by decide +kernel
theorem dX9_fill_102 : decode cX9_fill 102 = .ok (.iload_n 2, 1) := by decide +kernel
theorem dX9_fill_103 : decode cX9_fill 103 = .ok (.imul, 1) := by decide +kernel
theorem dX9_fill_104 : decode cX9_fill 104 = .ok (.aload_n 0, 1) := by decide +kernel
theorem dX9_fill_105 : decode cX9_fill 105 = .ok (.getfield 28, 3) := by decide +kernel
theorem dX9_fill_108 : decode cX9_fill 108 = .ok (.iload_n 2, 1) := by decide +kernel
theorem dX9_fill_109 : decode cX9_fill 109 = .ok (.iaload, 1) := by decide +kernel
theorem dX9_fill_110 : decode cX9_fill 110 = .ok (.iadd, 1) := by decide +kernel
theorem dX9_fill_111 : decode cX9_fill 111 = .ok (.aload_n 0, 1) := by decide +kernel
theorem dX9_fill_112 : decode cX9_fill 112 = .ok (.getfield 31, 3) := by decide +kernel
theorem dX9_fill_115 : decode cX9_fill 115 = .ok (.bipush 12, 2) := by decide +kernel
theorem dX9_fill_117 : decode cX9_fill 117 = .ok (.iload_n 3, 1) := by decide +kernel
theorem dX9_fill_118 : decode cX9_fill 118 = .ok (.imul, 1) := by decide +kernel
theorem dX9_fill_119 : decode cX9_fill 119 = .ok (.iload 4, 2) := by decide +kernel
theorem dX9_fill_121 : decode cX9_fill 121 = .ok (.iadd, 1) := by decide +kernel
theorem dX9_fill_122 : decode cX9_fill 122 = .ok (.iaload, 1) := by decide +kernel
theorem dX9_fill_123 : decode cX9_fill 123 = .ok (.iastore, 1) := by decide +kernel
theorem dX9_fill_124 : decode cX9_fill 124 = .ok (.aload_n 0, 1) := by decide +kernel
theorem dX9_fill_125 : decode cX9_fill 125 = .ok (.getfield 28, 3) := by decide +kernel
theorem dX9_fill_128 : decode cX9_fill 128 = .ok (.iload_n 2, 1) := by decide +kernel
theorem dX9_fill_129 : decode cX9_fill 129 = .ok (.dup2, 1) := by decide +kernel
theorem dX9_fill_130 : decode cX9_fill 130 = .ok (.iaload, 1) := by decide +kernel
theorem dX9_fill_131 : decode cX9_fill 131 = .ok (.iconst 1, 1) := by decide +kernel
theorem dX9_fill_132 : decode cX9_fill 132 = .ok (.iadd, 1) := by decide +kernel
theorem dX9_fill_133 : decode cX9_fill 133 = .ok (.iastore, 1) := by decide +kernel
theorem dX9_fill_134 : decode cX9_fill 134 = .ok (.iinc 4 1, 3) := by decide +kernel
theorem dX9_fill_137 : decode cX9_fill 137 = .ok (.goto (-70), 3) := by decide +kernel
theorem dX9_fill_140 : decode cX9_fill 140 = .ok (.aload_n 0, 1) := by decide +kernel
theorem dX9_fill_141 : decode cX9_fill 141 = .ok (.getfield 37, 3) := by decide +kernel
theorem dX9_fill_144 : decode cX9_fill 144 = .ok (.iload_n 3, 1) := by decide +kernel
theorem dX9_fill_145 : decode cX9_fill 145 = .ok (.dup2, 1) := by decide +kernel
theorem dX9_fill_146 : decode cX9_fill 146 = .ok (.iaload, 1) := by decide +kernel
theorem dX9_fill_147 : decode cX9_fill 147 = .ok (.iconst 1, 1) := by decide +kernel
theorem dX9_fill_148 : decode cX9_fill 148 = .ok (.iadd, 1) := by decide +kernel
theorem dX9_fill_149 : decode cX9_fill 149 = .ok (.iastore, 1) := by decide +kernel
theorem dX9_fill_150 : decode cX9_fill 150 = .ok (.aload_n 0, 1) := by decide +kernel
theorem dX9_fill_151 : decode cX9_fill 151 = .ok (.getfield 40, 3) := by decide +kernel
theorem dX9_fill_154 : decode cX9_fill 154 = .ok (.iload_n 2, 1) := by decide +kernel
theorem dX9_fill_155 : decode cX9_fill 155 = .ok (.iload_n 3, 1) := by decide +kernel
theorem dX9_fill_156 : decode cX9_fill 156 = .ok (.iastore, 1) := by decide +kernel
theorem dX9_fill_157 : decode cX9_fill 157 = .ok (.iinc 1 1, 3) := by decide +kernel
theorem dX9_fill_160 : decode cX9_fill 160 = .ok (.iinc 2 1, 3) := by decide +kernel
theorem dX9_fill_163 : decode cX9_fill 163 = .ok (.goto (-140), 3) := by decide +kernel
theorem dX9_fill_166 : decode cX9_fill 166 = .ok (.iload_n 1, 1) := by decide +kernel
theorem dX9_fill_167 : decode cX9_fill 167 = .ok (.ireturn, 1) := by decide +kernel
theorem dX9_from_0 : decode cX9_from 0 = .ok (.aload_n 0, 1) := by decide +kernel
theorem dX9_from_1 : decode cX9_from 1 = .ok (.iload_n 1, 1) := by decide +kernel
theorem dX9_from_2 : decode cX9_from 2 = .ok (.invokevirtual 172, 3) := by decide +kernel
theorem dX9_from_5 : decode cX9_from 5 = .ok (.ifCond .eq 12, 3) := by decide +kernel
theorem dX9_from_8 : decode cX9_from 8 = .ok (.aload_n 0, 1) := by decide +kernel
theorem dX9_from_9 : decode cX9_from 9 = .ok (.getfield 40, 3) := by decide +kernel
theorem dX9_from_12 : decode cX9_from 12 = .ok (.iload_n 1, 1) := by decide +kernel
theorem dX9_from_13 : decode cX9_from 13 = .ok (.iaload, 1) := by decide +kernel
theorem dX9_from_14 : decode cX9_from 14 = .ok (.goto 4, 3) := by decide +kernel
theorem dX9_from_17 : decode cX9_from 17 = .ok (.iconst (-1), 1) := by decide +kernel
theorem dX9_from_18 : decode cX9_from 18 = .ok (.ireturn, 1) := by decide +kernel
theorem dX9_struckAt_0 : decode cX9_struckAt 0 = .ok (.iconst 0, 1) := by decide +kernel
theorem dX9_struckAt_1 : decode cX9_struckAt 1 = .ok (.istore_n 2, 1) := by decide +kernel
theorem dX9_struckAt_2 : decode cX9_struckAt 2 = .ok (.iconst 0, 1) := by decide +kernel
theorem dX9_struckAt_3 : decode cX9_struckAt 3 = .ok (.istore_n 3, 1) := by decide +kernel
theorem dX9_struckAt_4 : decode cX9_struckAt 4 = .ok (.iload_n 3, 1) := by decide +kernel
theorem dX9_struckAt_5 : decode cX9_struckAt 5 = .ok (.aload_n 0, 1) := by decide +kernel
theorem dX9_struckAt_6 : decode cX9_struckAt 6 = .ok (.getfield 28, 3) := by decide +kernel
theorem dX9_struckAt_9 : decode cX9_struckAt 9 = .ok (.iload_n 1, 1) := by decide +kernel
theorem dX9_struckAt_10 : decode cX9_struckAt 10 = .ok (.iaload, 1) := by decide +kernel
theorem dX9_struckAt_11 : decode cX9_struckAt 11 = .ok (.if_icmp .ge 31, 3) := by decide +kernel
theorem dX9_struckAt_14 : decode cX9_struckAt 14 = .ok (.iload_n 2, 1) := by decide +kernel
theorem dX9_struckAt_15 : decode cX9_struckAt 15 = .ok (.aload_n 0, 1) := by decide +kernel
theorem dX9_struckAt_16 : decode cX9_struckAt 16 = .ok (.getfield 50, 3) := by decide +kernel
theorem dX9_struckAt_19 : decode cX9_struckAt 19 = .ok (.bipush 12, 2) := by decide +kernel
theorem dX9_struckAt_21 : decode cX9_struckAt 21 = .ok (.iload_n 1, 1) := by decide +kernel
theorem dX9_struckAt_22 : decode cX9_struckAt 22 = .ok (.imul, 1) := by decide +kernel
theorem dX9_struckAt_23 : decode cX9_struckAt 23 = .ok (.iload_n 3, 1) := by decide +kernel
theorem dX9_struckAt_24 : decode cX9_struckAt 24 = .ok (.iadd, 1) := by decide +kernel
theorem dX9_struckAt_25 : decode cX9_struckAt 25 = .ok (.baload, 1) := by decide +kernel
theorem dX9_struckAt_26 : decode cX9_struckAt 26 = .ok (.ifCond .eq 7, 3) := by decide +kernel
theorem dX9_struckAt_29 : decode cX9_struckAt 29 = .ok (.iconst 1, 1) := by decide +kernel
theorem dX9_struckAt_30 : decode cX9_struckAt 30 = .ok (.goto 4, 3) := by decide +kernel
theorem dX9_struckAt_33 : decode cX9_struckAt 33 = .ok (.iconst 0, 1) := by decide +kernel
theorem dX9_struckAt_34 : decode cX9_struckAt 34 = .ok (.iadd, 1) := by decide +kernel
theorem dX9_struckAt_35 : decode cX9_struckAt 35 = .ok (.istore_n 2, 1) := by decide +kernel
theorem dX9_struckAt_36 : decode cX9_struckAt 36 = .ok (.iinc 3 1, 3) := by decide +kernel
theorem dX9_struckAt_39 : decode cX9_struckAt 39 = .ok (.goto (-35), 3) := by decide +kernel
theorem dX9_struckAt_42 : decode cX9_struckAt 42 = .ok (.iload_n 2, 1) := by decide +kernel
theorem dX9_struckAt_43 : decode cX9_struckAt 43 = .ok (.ireturn, 1) := by decide +kernel
theorem dX9_about_0 : decode cX9_about 0 = .ok (.aload_n 0, 1) := by decide +kernel
theorem dX9_about_1 : decode cX9_about 1 = .ok (.iload_n 1, 1) := by decide +kernel
theorem dX9_about_2 : decode cX9_about 2 = .ok (.invokevirtual 172, 3) := by decide +kernel
theorem dX9_about_5 : decode cX9_about 5 = .ok (.ifCond .ne 5, 3) := by decide +kernel
theorem dX9_about_8 : decode cX9_about 8 = .ok (.iconst (-1), 1) := by decide +kernel
theorem dX9_about_9 : decode cX9_about 9 = .ok (.ireturn, 1) := by decide +kernel
theorem dX9_about_10 : decode cX9_about 10 = .ok (.iload_n 2, 1) := by decide +kernel
theorem dX9_about_11 : decode cX9_about 11 = .ok (.tableswitch 86 0 5 #[37, 44, 59, 66, 72, 79], 37) := by decide +kernel
theorem dX9_about_48 : decode cX9_about 48 = .ok (.aload_n 0, 1) := by decide +kernel
theorem dX9_about_49 : decode cX9_about 49 = .ok (.getfield 25, 3) := by decide +kernel
theorem dX9_about_52 : decode cX9_about 52 = .ok (.iload_n 1, 1) := by decide +kernel
theorem dX9_about_53 : decode cX9_about 53 = .ok (.iaload, 1) := by decide +kernel
theorem dX9_about_54 : decode cX9_about 54 = .ok (.ireturn, 1) := by decide +kernel
theorem dX9_about_55 : decode cX9_about 55 = .ok (.aload_n 0, 1) := by decide +kernel
theorem dX9_about_56 : decode cX9_about 56 = .ok (.getfield 46, 3) := by decide +kernel
theorem dX9_about_59 : decode cX9_about 59 = .ok (.iload_n 1, 1) := by decide +kernel
theorem dX9_about_60 : decode cX9_about 60 = .ok (.baload, 1) := by decide +kernel
theorem dX9_about_61 : decode cX9_about 61 = .ok (.ifCond .eq 7, 3) := by decide +kernel
theorem dX9_about_64 : decode cX9_about 64 = .ok (.iconst 1, 1) := by decide +kernel
theorem dX9_about_65 : decode cX9_about 65 = .ok (.goto 4, 3) := by decide +kernel
theorem dX9_about_68 : decode cX9_about 68 = .ok (.iconst 0, 1) := by decide +kernel
theorem dX9_about_69 : decode cX9_about 69 = .ok (.ireturn, 1) := by decide +kernel
theorem dX9_about_70 : decode cX9_about 70 = .ok (.aload_n 0, 1) := by decide +kernel
theorem dX9_about_71 : decode cX9_about 71 = .ok (.getfield 28, 3) := by decide +kernel
theorem dX9_about_74 : decode cX9_about 74 = .ok (.iload_n 1, 1) := by decide +kernel
theorem dX9_about_75 : decode cX9_about 75 = .ok (.iaload, 1) := by decide +kernel
theorem dX9_about_76 : decode cX9_about 76 = .ok (.ireturn, 1) := by decide +kernel
theorem dX9_about_77 : decode cX9_about 77 = .ok (.aload_n 0, 1) := by decide +kernel
theorem dX9_about_78 : decode cX9_about 78 = .ok (.iload_n 1, 1) := by decide +kernel
theorem dX9_about_79 : decode cX9_about 79 = .ok (.invokevirtual 214, 3) := by decide +kernel
theorem dX9_about_82 : decode cX9_about 82 = .ok (.ireturn, 1) := by decide +kernel
theorem dX9_about_83 : decode cX9_about 83 = .ok (.aload_n 0, 1) := by decide +kernel
theorem dX9_about_84 : decode cX9_about 84 = .ok (.getfield 34, 3) := by decide +kernel
theorem dX9_about_87 : decode cX9_about 87 = .ok (.iload_n 1, 1) := by decide +kernel
theorem dX9_about_88 : decode cX9_about 88 = .ok (.iaload, 1) := by decide +kernel
theorem dX9_about_89 : decode cX9_about 89 = .ok (.ireturn, 1) := by decide +kernel
theorem dX9_about_90 : decode cX9_about 90 = .ok (.aload_n 0, 1) := by decide +kernel
theorem dX9_about_91 : decode cX9_about 91 = .ok (.getfield 37, 3) := by decide +kernel
theorem dX9_about_94 : decode cX9_about 94 = .ok (.iload_n 1, 1) := by decide +kernel
theorem dX9_about_95 : decode cX9_about 95 = .ok (.iaload, 1) := by decide +kernel
theorem dX9_about_96 : decode cX9_about 96 = .ok (.ireturn, 1) := by decide +kernel
theorem dX9_about_97 : decode cX9_about 97 = .ok (.iconst (-1), 1) := by decide +kernel
theorem dX9_about_98 : decode cX9_about 98 = .ok (.ireturn, 1) := by decide +kernel
theorem dX9_age_0 : decode cX9_age 0 = .ok (.aload_n 0, 1) := by decide +kernel
theorem dX9_age_1 : decode cX9_age 1 = .ok (.iload_n 1, 1) := by decide +kernel
theorem dX9_age_2 : decode cX9_age 2 = .ok (.invokevirtual 172, 3) := by decide +kernel
theorem dX9_age_5 : decode cX9_age 5 = .ok (.ifCond .eq 26, 3) := by decide +kernel
theorem dX9_age_8 : decode cX9_age 8 = .ok (.aload_n 0, 1) := by decide +kernel
theorem dX9_age_9 : decode cX9_age 9 = .ok (.iload_n 1, 1) := by decide +kernel
theorem dX9_age_10 : decode cX9_age 10 = .ok (.iload_n 2, 1) := by decide +kernel
theorem dX9_age_11 : decode cX9_age 11 = .ok (.invokevirtual 207, 3) := by decide +kernel
theorem dX9_age_14 : decode cX9_age 14 = .ok (.ifCond .eq 17, 3) := by decide +kernel
theorem dX9_age_17 : decode cX9_age 17 = .ok (.aload_n 0, 1) := by decide +kernel
theorem dX9_age_18 : decode cX9_age 18 = .ok (.getfield 31, 3) := by decide +kernel
theorem dX9_age_21 : decode cX9_age 21 = .ok (.bipush 12, 2) := by decide +kernel
theorem dX9_age_23 : decode cX9_age 23 = .ok (.iload_n 1, 1) := by decide +kernel
theorem dX9_age_24 : decode cX9_age 24 = .ok (.imul, 1) := by decide +kernel
theorem dX9_age_25 : decode cX9_age 25 = .ok (.iload_n 2, 1) := by decide +kernel
theorem dX9_age_26 : decode cX9_age 26 = .ok (.iadd, 1) := by decide +kernel
theorem dX9_age_27 : decode cX9_age 27 = .ok (.iaload, 1) := by decide +kernel
theorem dX9_age_28 : decode cX9_age 28 = .ok (.goto 4, 3) := by decide +kernel
theorem dX9_age_31 : decode cX9_age 31 = .ok (.iconst (-1), 1) := by decide +kernel
theorem dX9_age_32 : decode cX9_age 32 = .ok (.ireturn, 1) := by decide +kernel
theorem dX9_bandOf_0 : decode cX9_bandOf 0 = .ok (.iload_n 0, 1) := by decide +kernel
theorem dX9_bandOf_1 : decode cX9_bandOf 1 = .ok (.ifCond .ge 7, 3) := by decide +kernel
theorem dX9_bandOf_4 : decode cX9_bandOf 4 = .ok (.iconst 3, 1) := by decide +kernel
theorem dX9_bandOf_5 : decode cX9_bandOf 5 = .ok (.goto 24, 3) := by decide +kernel
theorem dX9_bandOf_8 : decode cX9_bandOf 8 = .ok (.iload_n 0, 1) := by decide +kernel
theorem dX9_bandOf_9 : decode cX9_bandOf 9 = .ok (.bipush 18, 2) := by decide +kernel
theorem dX9_bandOf_11 : decode cX9_bandOf 11 = .ok (.if_icmp .ge 7, 3) := by decide +kernel
theorem dX9_bandOf_14 : decode cX9_bandOf 14 = .ok (.iconst 0, 1) := by decide +kernel
theorem dX9_bandOf_15 : decode cX9_bandOf 15 = .ok (.goto 14, 3) := by decide +kernel
theorem dX9_bandOf_18 : decode cX9_bandOf 18 = .ok (.iload_n 0, 1) := by decide +kernel
theorem dX9_bandOf_19 : decode cX9_bandOf 19 = .ok (.bipush 65, 2) := by decide +kernel
theorem dX9_bandOf_21 : decode cX9_bandOf 21 = .ok (.if_icmp .ge 7, 3) := by decide +kernel
theorem dX9_bandOf_24 : decode cX9_bandOf 24 = .ok (.iconst 1, 1) := by decide +kernel
theorem dX9_bandOf_25 : decode cX9_bandOf 25 = .ok (.goto 4, 3) := by decide +kernel
theorem dX9_bandOf_28 : decode cX9_bandOf 28 = .ok (.iconst 2, 1) := by decide +kernel
theorem dX9_bandOf_29 : decode cX9_bandOf 29 = .ok (.ireturn, 1) := by decide +kernel
theorem dX9_counted_0 : decode cX9_counted 0 = .ok (.iconst 0, 1) := by decide +kernel
theorem dX9_counted_1 : decode cX9_counted 1 = .ok (.istore 4, 2) := by decide +kernel
theorem dX9_counted_3 : decode cX9_counted 3 = .ok (.iconst 0, 1) := by decide +kernel
theorem dX9_counted_4 : decode cX9_counted 4 = .ok (.istore 5, 2) := by decide +kernel
theorem dX9_counted_6 : decode cX9_counted 6 = .ok (.iload 5, 2) := by decide +kernel
theorem dX9_counted_8 : decode cX9_counted 8 = .ok (.aload_n 0, 1) := by decide +kernel
theorem dX9_counted_9 : decode cX9_counted 9 = .ok (.getfield 139, 3) := by decide +kernel
theorem dX9_counted_12 : decode cX9_counted 12 = .ok (.if_icmp .ge 105, 3) := by decide +kernel
theorem dX9_counted_15 : decode cX9_counted 15 = .ok (.aload_n 0, 1) := by decide +kernel
theorem dX9_counted_16 : decode cX9_counted 16 = .ok (.getfield 7, 3) := by decide +kernel
theorem dX9_counted_19 : decode cX9_counted 19 = .ok (.iload 5, 2) := by decide +kernel
theorem dX9_counted_21 : decode cX9_counted 21 = .ok (.iaload, 1) := by decide +kernel
theorem dX9_counted_22 : decode cX9_counted 22 = .ok (.iload_n 1, 1) := by decide +kernel
theorem dX9_counted_23 : decode cX9_counted 23 = .ok (.if_icmp .ne 88, 3) := by decide +kernel
theorem dX9_counted_26 : decode cX9_counted 26 = .ok (.iload_n 3, 1) := by decide +kernel
theorem dX9_counted_27 : decode cX9_counted 27 = .ok (.ifCond .ne 17, 3) := by decide +kernel
theorem dX9_counted_30 : decode cX9_counted 30 = .ok (.aload_n 0, 1) := by decide +kernel
theorem dX9_counted_31 : decode cX9_counted 31 = .ok (.getfield 25, 3) := by decide +kernel
theorem dX9_counted_34 : decode cX9_counted 34 = .ok (.iload 5, 2) := by decide +kernel
theorem dX9_counted_36 : decode cX9_counted 36 = .ok (.iaload, 1) := by decide +kernel
theorem dX9_counted_37 : decode cX9_counted 37 = .ok (.iconst 4, 1) := by decide +kernel
theorem dX9_counted_38 : decode cX9_counted 38 = .ok (.if_icmp .ne 6, 3) := by decide +kernel
theorem dX9_counted_41 : decode cX9_counted 41 = .ok (.goto 70, 3) := by decide +kernel
theorem dX9_counted_44 : decode cX9_counted 44 = .ok (.iconst 0, 1) := by decide +kernel
theorem dX9_counted_45 : decode cX9_counted 45 = .ok (.istore 6, 2) := by decide +kernel
theorem dX9_counted_47 : decode cX9_counted 47 = .ok (.iload 6, 2) := by decide +kernel
theorem dX9_counted_49 : decode cX9_counted 49 = .ok (.aload_n 0, 1) := by decide +kernel
theorem dX9_counted_50 : decode cX9_counted 50 = .ok (.getfield 28, 3) := by decide +kernel
theorem dX9_counted_53 : decode cX9_counted 53 = .ok (.iload 5, 2) := by decide +kernel
theorem dX9_counted_55 : decode cX9_counted 55 = .ok (.iaload, 1) := by decide +kernel
theorem dX9_counted_56 : decode cX9_counted 56 = .ok (.if_icmp .ge 55, 3) := by decide +kernel
theorem dX9_counted_59 : decode cX9_counted 59 = .ok (.iload 4, 2) := by decide +kernel
theorem dX9_counted_61 : decode cX9_counted 61 = .ok (.aload_n 0, 1) := by decide +kernel
theorem dX9_counted_62 : decode cX9_counted 62 = .ok (.getfield 50, 3) := by decide +kernel
theorem dX9_counted_65 : decode cX9_counted 65 = .ok (.bipush 12, 2) := by decide +kernel
theorem dX9_counted_67 : decode cX9_counted 67 = .ok (.iload 5, 2) := by decide +kernel
theorem dX9_counted_69 : decode cX9_counted 69 = .ok (.imul, 1) := by decide +kernel
theorem dX9_counted_70 : decode cX9_counted 70 = .ok (.iload 6, 2) := by decide +kernel
theorem dX9_counted_72 : decode cX9_counted 72 = .ok (.iadd, 1) := by decide +kernel
theorem dX9_counted_73 : decode cX9_counted 73 = .ok (.baload, 1) := by decide +kernel
theorem dX9_counted_74 : decode cX9_counted 74 = .ok (.ifCond .ne 27, 3) := by decide +kernel
theorem dX9_counted_77 : decode cX9_counted 77 = .ok (.aload_n 0, 1) := by decide +kernel
theorem dX9_counted_78 : decode cX9_counted 78 = .ok (.getfield 31, 3) := by decide +kernel
theorem dX9_counted_81 : decode cX9_counted 81 = .ok (.bipush 12, 2) := by decide +kernel
theorem dX9_counted_83 : decode cX9_counted 83 = .ok (.iload 5, 2) := by decide +kernel
theorem dX9_counted_85 : decode cX9_counted 85 = .ok (.imul, 1) := by decide +kernel
theorem dX9_counted_86 : decode cX9_counted 86 = .ok (.iload 6, 2) := by decide +kernel
theorem dX9_counted_88 : decode cX9_counted 88 = .ok (.iadd, 1) := by decide +kernel
theorem dX9_counted_89 : decode cX9_counted 89 = .ok (.iaload, 1) := by decide +kernel
theorem dX9_counted_90 : decode cX9_counted 90 = .ok (.invokestatic 217, 3) := by decide +kernel
theorem dX9_counted_93 : decode cX9_counted 93 = .ok (.iload_n 2, 1) := by decide +kernel
theorem dX9_counted_94 : decode cX9_counted 94 = .ok (.if_icmp .ne 7, 3) := by decide +kernel
theorem dX9_counted_97 : decode cX9_counted 97 = .ok (.iconst 1, 1) := by decide +kernel
theorem dX9_counted_98 : decode cX9_counted 98 = .ok (.goto 4, 3) := by decide +kernel
theorem dX9_counted_101 : decode cX9_counted 101 = .ok (.iconst 0, 1) := by decide +kernel
theorem dX9_counted_102 : decode cX9_counted 102 = .ok (.iadd, 1) := by decide +kernel
theorem dX9_counted_103 : decode cX9_counted 103 = .ok (.istore 4, 2) := by decide +kernel
theorem dX9_counted_105 : decode cX9_counted 105 = .ok (.iinc 6 1, 3) := by decide +kernel
theorem dX9_counted_108 : decode cX9_counted 108 = .ok (.goto (-61), 3) := by decide +kernel
theorem dX9_counted_111 : decode cX9_counted 111 = .ok (.iinc 5 1, 3) := by decide +kernel
theorem dX9_counted_114 : decode cX9_counted 114 = .ok (.goto (-108), 3) := by decide +kernel
theorem dX9_counted_117 : decode cX9_counted 117 = .ok (.iload 4, 2) := by decide +kernel
theorem dX9_counted_119 : decode cX9_counted 119 = .ok (.ireturn, 1) := by decide +kernel
theorem dX9_count_0 : decode cX9_count 0 = .ok (.iload_n 1, 1) := by decide +kernel
theorem dX9_count_1 : decode cX9_count 1 = .ok (.invokestatic 142, 3) := by decide +kernel
theorem dX9_count_4 : decode cX9_count 4 = .ok (.ifCond .eq 25, 3) := by decide +kernel
theorem dX9_count_7 : decode cX9_count 7 = .ok (.iload_n 2, 1) := by decide +kernel
theorem dX9_count_8 : decode cX9_count 8 = .ok (.i2l, 1) := by decide +kernel
theorem dX9_count_9 : decode cX9_count 9 = .ok (.lconst 0, 1) := by decide +kernel
theorem dX9_count_10 : decode cX9_count 10 = .ok (.ldc2_w 150, 3) := by decide +kernel
theorem dX9_count_13 : decode cX9_count 13 = .ok (.invokestatic 152, 3) := by decide +kernel
theorem dX9_count_16 : decode cX9_count 16 = .ok (.ifCond .eq 13, 3) := by decide +kernel
theorem dX9_count_19 : decode cX9_count 19 = .ok (.aload_n 0, 1) := by decide +kernel
theorem dX9_count_20 : decode cX9_count 20 = .ok (.iload_n 1, 1) := by decide +kernel
theorem dX9_count_21 : decode cX9_count 21 = .ok (.iload_n 2, 1) := by decide +kernel
theorem dX9_count_22 : decode cX9_count 22 = .ok (.iload_n 3, 1) := by decide +kernel
theorem dX9_count_23 : decode cX9_count 23 = .ok (.invokevirtual 220, 3) := by decide +kernel
theorem dX9_count_26 : decode cX9_count 26 = .ok (.goto 4, 3) := by decide +kernel
theorem dX9_count_29 : decode cX9_count 29 = .ok (.iconst (-1), 1) := by decide +kernel
theorem dX9_count_30 : decode cX9_count 30 = .ok (.ireturn, 1) := by decide +kernel
theorem dX9_bestHour_0 : decode cX9_bestHour 0 = .ok (.iload_n 1, 1) := by decide +kernel
theorem dX9_bestHour_1 : decode cX9_bestHour 1 = .ok (.i2l, 1) := by decide +kernel
theorem dX9_bestHour_2 : decode cX9_bestHour 2 = .ok (.lconst 0, 1) := by decide +kernel
theorem dX9_bestHour_3 : decode cX9_bestHour 3 = .ok (.ldc2_w 150, 3) := by decide +kernel
theorem dX9_bestHour_6 : decode cX9_bestHour 6 = .ok (.invokestatic 152, 3) := by decide +kernel
theorem dX9_bestHour_9 : decode cX9_bestHour 9 = .ok (.ifCond .ne 5, 3) := by decide +kernel
theorem dX9_bestHour_12 : decode cX9_bestHour 12 = .ok (.iconst (-1), 1) := by decide +kernel
theorem dX9_bestHour_13 : decode cX9_bestHour 13 = .ok (.ireturn, 1) := by decide +kernel
theorem dX9_bestHour_14 : decode cX9_bestHour 14 = .ok (.iconst 0, 1) := by decide +kernel
theorem dX9_bestHour_15 : decode cX9_bestHour 15 = .ok (.istore_n 2, 1) := by decide +kernel
theorem dX9_bestHour_16 : decode cX9_bestHour 16 = .ok (.iconst 1, 1) := by decide +kernel
theorem dX9_bestHour_17 : decode cX9_bestHour 17 = .ok (.istore_n 3, 1) := by decide +kernel
theorem dX9_bestHour_18 : decode cX9_bestHour 18 = .ok (.iload_n 3, 1) := by decide +kernel
theorem dX9_bestHour_19 : decode cX9_bestHour 19 = .ok (.bipush 10, 2) := by decide +kernel
theorem dX9_bestHour_21 : decode cX9_bestHour 21 = .ok (.if_icmp .ge 76, 3) := by decide +kernel
theorem dX9_bestHour_24 : decode cX9_bestHour 24 = .ok (.aload_n 0, 1) := by decide +kernel
theorem dX9_bestHour_25 : decode cX9_bestHour 25 = .ok (.getfield 78, 3) := by decide +kernel
theorem dX9_bestHour_28 : decode cX9_bestHour 28 = .ok (.bipush 10, 2) := by decide +kernel
theorem dX9_bestHour_30 : decode cX9_bestHour 30 = .ok (.iload_n 1, 1) := by decide +kernel
theorem dX9_bestHour_31 : decode cX9_bestHour 31 = .ok (.imul, 1) := by decide +kernel
theorem dX9_bestHour_32 : decode cX9_bestHour 32 = .ok (.iload_n 3, 1) := by decide +kernel
theorem dX9_bestHour_33 : decode cX9_bestHour 33 = .ok (.iadd, 1) := by decide +kernel
theorem dX9_bestHour_34 : decode cX9_bestHour 34 = .ok (.iaload, 1) := by decide +kernel
theorem dX9_bestHour_35 : decode cX9_bestHour 35 = .ok (.iconst 1, 1) := by decide +kernel
theorem dX9_bestHour_36 : decode cX9_bestHour 36 = .ok (.iadd, 1) := by decide +kernel
theorem dX9_bestHour_37 : decode cX9_bestHour 37 = .ok (.aload_n 0, 1) := by decide +kernel
theorem dX9_bestHour_38 : decode cX9_bestHour 38 = .ok (.getfield 75, 3) := by decide +kernel
theorem dX9_bestHour_41 : decode cX9_bestHour 41 = .ok (.bipush 10, 2) := by decide +kernel
theorem dX9_bestHour_43 : decode cX9_bestHour 43 = .ok (.iload_n 1, 1) := by decide +kernel
theorem dX9_bestHour_44 : decode cX9_bestHour 44 = .ok (.imul, 1) := by decide +kernel
theorem dX9_bestHour_45 : decode cX9_bestHour 45 = .ok (.iload_n 2, 1) := by decide +kernel
theorem dX9_bestHour_46 : decode cX9_bestHour 46 = .ok (.iadd, 1) := by decide +kernel
theorem dX9_bestHour_47 : decode cX9_bestHour 47 = .ok (.iaload, 1) := by decide +kernel
theorem dX9_bestHour_48 : decode cX9_bestHour 48 = .ok (.iconst 2, 1) := by decide +kernel
theorem dX9_bestHour_49 : decode cX9_bestHour 49 = .ok (.iadd, 1) := by decide +kernel
theorem dX9_bestHour_50 : decode cX9_bestHour 50 = .ok (.imul, 1) := by decide +kernel
theorem dX9_bestHour_51 : decode cX9_bestHour 51 = .ok (.istore 4, 2) := by decide +kernel
theorem dX9_bestHour_53 : decode cX9_bestHour 53 = .ok (.aload_n 0, 1) := by decide +kernel
theorem dX9_bestHour_54 : decode cX9_bestHour 54 = .ok (.getfield 78, 3) := by decide +kernel
theorem dX9_bestHour_57 : decode cX9_bestHour 57 = .ok (.bipush 10, 2) := by decide +kernel
theorem dX9_bestHour_59 : decode cX9_bestHour 59 = .ok (.iload_n 1, 1) := by decide +kernel
theorem dX9_bestHour_60 : decode cX9_bestHour 60 = .ok (.imul, 1) := by decide +kernel
theorem dX9_bestHour_61 : decode cX9_bestHour 61 = .ok (.iload_n 2, 1) := by decide +kernel
theorem dX9_bestHour_62 : decode cX9_bestHour 62 = .ok (.iadd, 1) := by decide +kernel
theorem dX9_bestHour_63 : decode cX9_bestHour 63 = .ok (.iaload, 1) := by decide +kernel
theorem dX9_bestHour_64 : decode cX9_bestHour 64 = .ok (.iconst 1, 1) := by decide +kernel
theorem dX9_bestHour_65 : decode cX9_bestHour 65 = .ok (.iadd, 1) := by decide +kernel
theorem dX9_bestHour_66 : decode cX9_bestHour 66 = .ok (.aload_n 0, 1) := by decide +kernel
theorem dX9_bestHour_67 : decode cX9_bestHour 67 = .ok (.getfield 75, 3) := by decide +kernel
theorem dX9_bestHour_70 : decode cX9_bestHour 70 = .ok (.bipush 10, 2) := by decide +kernel
theorem dX9_bestHour_72 : decode cX9_bestHour 72 = .ok (.iload_n 1, 1) := by decide +kernel
theorem dX9_bestHour_73 : decode cX9_bestHour 73 = .ok (.imul, 1) := by decide +kernel
theorem dX9_bestHour_74 : decode cX9_bestHour 74 = .ok (.iload_n 3, 1) := by decide +kernel
theorem dX9_bestHour_75 : decode cX9_bestHour 75 = .ok (.iadd, 1) := by decide +kernel
theorem dX9_bestHour_76 : decode cX9_bestHour 76 = .ok (.iaload, 1) := by decide +kernel
theorem dX9_bestHour_77 : decode cX9_bestHour 77 = .ok (.iconst 2, 1) := by decide +kernel
theorem dX9_bestHour_78 : decode cX9_bestHour 78 = .ok (.iadd, 1) := by decide +kernel
theorem dX9_bestHour_79 : decode cX9_bestHour 79 = .ok (.imul, 1) := by decide +kernel
theorem dX9_bestHour_80 : decode cX9_bestHour 80 = .ok (.istore 5, 2) := by decide +kernel
theorem dX9_bestHour_82 : decode cX9_bestHour 82 = .ok (.iload 4, 2) := by decide +kernel
theorem dX9_bestHour_84 : decode cX9_bestHour 84 = .ok (.iload 5, 2) := by decide +kernel
theorem dX9_bestHour_86 : decode cX9_bestHour 86 = .ok (.if_icmp .le 5, 3) := by decide +kernel
theorem dX9_bestHour_89 : decode cX9_bestHour 89 = .ok (.iload_n 3, 1) := by decide +kernel
theorem dX9_bestHour_90 : decode cX9_bestHour 90 = .ok (.istore_n 2, 1) := by decide +kernel
theorem dX9_bestHour_91 : decode cX9_bestHour 91 = .ok (.iinc 3 1, 3) := by decide +kernel
theorem dX9_bestHour_94 : decode cX9_bestHour 94 = .ok (.goto (-76), 3) := by decide +kernel
theorem dX9_bestHour_97 : decode cX9_bestHour 97 = .ok (.iload_n 2, 1) := by decide +kernel
theorem dX9_bestHour_98 : decode cX9_bestHour 98 = .ok (.ireturn, 1) := by decide +kernel
theorem dX9_hangs_0 : decode cX9_hangs 0 = .ok (.iconst 0, 1) := by decide +kernel
theorem dX9_hangs_1 : decode cX9_hangs 1 = .ok (.istore_n 2, 1) := by decide +kernel
theorem dX9_hangs_2 : decode cX9_hangs 2 = .ok (.iconst 0, 1) := by decide +kernel
theorem dX9_hangs_3 : decode cX9_hangs 3 = .ok (.istore_n 3, 1) := by decide +kernel
theorem dX9_hangs_4 : decode cX9_hangs 4 = .ok (.iconst 0, 1) := by decide +kernel
theorem dX9_hangs_5 : decode cX9_hangs 5 = .ok (.istore 4, 2) := by decide +kernel
theorem dX9_hangs_7 : decode cX9_hangs 7 = .ok (.iload 4, 2) := by decide +kernel
theorem dX9_hangs_9 : decode cX9_hangs 9 = .ok (.aload_n 0, 1) := by decide +kernel
theorem dX9_hangs_10 : decode cX9_hangs 10 = .ok (.getfield 224, 3) := by decide +kernel
theorem dX9_hangs_13 : decode cX9_hangs 13 = .ok (.if_icmp .ge 31, 3) := by decide +kernel
theorem dX9_hangs_16 : decode cX9_hangs 16 = .ok (.iload_n 3, 1) := by decide +kernel
theorem dX9_hangs_17 : decode cX9_hangs 17 = .ok (.aload_n 0, 1) := by decide +kernel
theorem dX9_hangs_18 : decode cX9_hangs 18 = .ok (.getfield 103, 3) := by decide +kernel
theorem dX9_hangs_21 : decode cX9_hangs 21 = .ok (.iload 4, 2) := by decide +kernel
theorem dX9_hangs_23 : decode cX9_hangs 23 = .ok (.iaload, 1) := by decide +kernel
theorem dX9_hangs_24 : decode cX9_hangs 24 = .ok (.iload_n 1, 1) := by decide +kernel
theorem dX9_hangs_25 : decode cX9_hangs 25 = .ok (.if_icmp .ne 10, 3) := by decide +kernel
theorem dX9_hangs_28 : decode cX9_hangs 28 = .ok (.iconst 1, 1) := by decide +kernel
theorem dX9_hangs_29 : decode cX9_hangs 29 = .ok (.iload 4, 2) := by decide +kernel
theorem dX9_hangs_31 : decode cX9_hangs 31 = .ok (.ishl, 1) := by decide +kernel
theorem dX9_hangs_32 : decode cX9_hangs 32 = .ok (.goto 4, 3) := by decide +kernel
theorem dX9_hangs_35 : decode cX9_hangs 35 = .ok (.iconst 0, 1) := by decide +kernel
theorem dX9_hangs_36 : decode cX9_hangs 36 = .ok (.ior, 1) := by decide +kernel
theorem dX9_hangs_37 : decode cX9_hangs 37 = .ok (.istore_n 3, 1) := by decide +kernel
theorem dX9_hangs_38 : decode cX9_hangs 38 = .ok (.iinc 4 1, 3) := by decide +kernel
theorem dX9_hangs_41 : decode cX9_hangs 41 = .ok (.goto (-34), 3) := by decide +kernel
theorem dX9_hangs_44 : decode cX9_hangs 44 = .ok (.iload_n 3, 1) := by decide +kernel
theorem dX9_hangs_45 : decode cX9_hangs 45 = .ok (.iload_n 3, 1) := by decide +kernel
theorem dX9_hangs_46 : decode cX9_hangs 46 = .ok (.ineg, 1) := by decide +kernel
theorem dX9_hangs_47 : decode cX9_hangs 47 = .ok (.iand, 1) := by decide +kernel
theorem dX9_hangs_48 : decode cX9_hangs 48 = .ok (.istore_n 2, 1) := by decide +kernel
theorem dX9_hangs_49 : decode cX9_hangs 49 = .ok (.iconst 1, 1) := by decide +kernel
theorem dX9_hangs_50 : decode cX9_hangs 50 = .ok (.istore 4, 2) := by decide +kernel
theorem dX9_hangs_52 : decode cX9_hangs 52 = .ok (.iload 4, 2) := by decide +kernel
theorem dX9_hangs_54 : decode cX9_hangs 54 = .ok (.ifCond .eq 111, 3) := by decide +kernel
theorem dX9_hangs_57 : decode cX9_hangs 57 = .ok (.iload_n 2, 1) := by decide +kernel
theorem dX9_hangs_58 : decode cX9_hangs 58 = .ok (.istore 5, 2) := by decide +kernel
theorem dX9_hangs_60 : decode cX9_hangs 60 = .ok (.iconst 0, 1) := by decide +kernel
theorem dX9_hangs_61 : decode cX9_hangs 61 = .ok (.istore 6, 2) := by decide +kernel
theorem dX9_hangs_63 : decode cX9_hangs 63 = .ok (.iload 6, 2) := by decide +kernel
theorem dX9_hangs_65 : decode cX9_hangs 65 = .ok (.aload_n 0, 1) := by decide +kernel
theorem dX9_hangs_66 : decode cX9_hangs 66 = .ok (.getfield 224, 3) := by decide +kernel
theorem dX9_hangs_69 : decode cX9_hangs 69 = .ok (.if_icmp .ge 80, 3) := by decide +kernel
theorem dX9_hangs_72 : decode cX9_hangs 72 = .ok (.iconst 0, 1) := by decide +kernel
theorem dX9_hangs_73 : decode cX9_hangs 73 = .ok (.istore 7, 2) := by decide +kernel
theorem dX9_hangs_75 : decode cX9_hangs 75 = .ok (.iload 7, 2) := by decide +kernel
theorem dX9_hangs_77 : decode cX9_hangs 77 = .ok (.aload_n 0, 1) := by decide +kernel
theorem dX9_hangs_78 : decode cX9_hangs 78 = .ok (.getfield 224, 3) := by decide +kernel
theorem dX9_hangs_81 : decode cX9_hangs 81 = .ok (.if_icmp .ge 62, 3) := by decide +kernel
theorem dX9_hangs_84 : decode cX9_hangs 84 = .ok (.iload_n 2, 1) := by decide +kernel
theorem dX9_hangs_85 : decode cX9_hangs 85 = .ok (.iload 6, 2) := by decide +kernel
theorem dX9_hangs_87 : decode cX9_hangs 87 = .ok (.ishr, 1) := by decide +kernel
theorem dX9_hangs_88 : decode cX9_hangs 88 = .ok (.iconst 1, 1) := by decide +kernel
theorem dX9_hangs_89 : decode cX9_hangs 89 = .ok (.iand, 1) := by decide +kernel
theorem dX9_hangs_90 : decode cX9_hangs 90 = .ok (.iconst 1, 1) := by decide +kernel
theorem dX9_hangs_91 : decode cX9_hangs 91 = .ok (.if_icmp .ne 46, 3) := by decide +kernel
theorem dX9_hangs_94 : decode cX9_hangs 94 = .ok (.iload_n 3, 1) := by decide +kernel
theorem dX9_hangs_95 : decode cX9_hangs 95 = .ok (.iload 7, 2) := by decide +kernel
theorem dX9_hangs_97 : decode cX9_hangs 97 = .ok (.ishr, 1) := by decide +kernel
theorem dX9_hangs_98 : decode cX9_hangs 98 = .ok (.iconst 1, 1) := by decide +kernel
theorem dX9_hangs_99 : decode cX9_hangs 99 = .ok (.iand, 1) := by decide +kernel
theorem dX9_hangs_100 : decode cX9_hangs 100 = .ok (.iconst 1, 1) := by decide +kernel
theorem dX9_hangs_101 : decode cX9_hangs 101 = .ok (.if_icmp .ne 36, 3) := by decide +kernel
theorem dX9_hangs_104 : decode cX9_hangs 104 = .ok (.aload_n 0, 1) := by decide +kernel
theorem dX9_hangs_105 : decode cX9_hangs 105 = .ok (.getfield 53, 3) := by decide +kernel
theorem dX9_hangs_108 : decode cX9_hangs 108 = .ok (.bipush 6, 2) := by decide +kernel
theorem dX9_hangs_110 : decode cX9_hangs 110 = .ok (.aload_n 0, 1) := by decide +kernel
theorem dX9_hangs_111 : decode cX9_hangs 111 = .ok (.getfield 100, 3) := by decide +kernel
theorem dX9_hangs_114 : decode cX9_hangs 114 = .ok (.iload 6, 2) := by decide +kernel
theorem dX9_hangs_116 : decode cX9_hangs 116 = .ok (.iaload, 1) := by decide +kernel
theorem dX9_hangs_117 : decode cX9_hangs 117 = .ok (.imul, 1) := by decide +kernel
theorem dX9_hangs_118 : decode cX9_hangs 118 = .ok (.aload_n 0, 1) := by decide +kernel
theorem dX9_hangs_119 : decode cX9_hangs 119 = .ok (.getfield 100, 3) := by decide +kernel
theorem dX9_hangs_122 : decode cX9_hangs 122 = .ok (.iload 7, 2) := by decide +kernel
theorem dX9_hangs_124 : decode cX9_hangs 124 = .ok (.iaload, 1) := by decide +kernel
theorem dX9_hangs_125 : decode cX9_hangs 125 = .ok (.iadd, 1) := by decide +kernel
theorem dX9_hangs_126 : decode cX9_hangs 126 = .ok (.baload, 1) := by decide +kernel
theorem dX9_hangs_127 : decode cX9_hangs 127 = .ok (.ifCond .eq 10, 3) := by decide +kernel
theorem dX9_hangs_130 : decode cX9_hangs 130 = .ok (.iload_n 2, 1) := by decide +kernel
theorem dX9_hangs_131 : decode cX9_hangs 131 = .ok (.iconst 1, 1) := by decide +kernel
theorem dX9_hangs_132 : decode cX9_hangs 132 = .ok (.iload 7, 2) := by decide +kernel
theorem dX9_hangs_134 : decode cX9_hangs 134 = .ok (.ishl, 1) := by decide +kernel
theorem dX9_hangs_135 : decode cX9_hangs 135 = .ok (.ior, 1) := by decide +kernel
theorem dX9_hangs_136 : decode cX9_hangs 136 = .ok (.istore_n 2, 1) := by decide +kernel
theorem dX9_hangs_137 : decode cX9_hangs 137 = .ok (.iinc 7 1, 3) := by decide +kernel
theorem dX9_hangs_140 : decode cX9_hangs 140 = .ok (.goto (-65), 3) := by decide +kernel
theorem dX9_hangs_143 : decode cX9_hangs 143 = .ok (.iinc 6 1, 3) := by decide +kernel
theorem dX9_hangs_146 : decode cX9_hangs 146 = .ok (.goto (-83), 3) := by decide +kernel
theorem dX9_hangs_149 : decode cX9_hangs 149 = .ok (.iload_n 2, 1) := by decide +kernel
theorem dX9_hangs_150 : decode cX9_hangs 150 = .ok (.iload 5, 2) := by decide +kernel
theorem dX9_hangs_152 : decode cX9_hangs 152 = .ok (.if_icmp .eq 7, 3) := by decide +kernel
theorem dX9_hangs_155 : decode cX9_hangs 155 = .ok (.iconst 1, 1) := by decide +kernel
theorem dX9_hangs_156 : decode cX9_hangs 156 = .ok (.goto 4, 3) := by decide +kernel
theorem dX9_hangs_159 : decode cX9_hangs 159 = .ok (.iconst 0, 1) := by decide +kernel
theorem dX9_hangs_160 : decode cX9_hangs 160 = .ok (.istore 4, 2) := by decide +kernel
theorem dX9_hangs_162 : decode cX9_hangs 162 = .ok (.goto (-110), 3) := by decide +kernel
theorem dX9_hangs_165 : decode cX9_hangs 165 = .ok (.iload_n 2, 1) := by decide +kernel
theorem dX9_hangs_166 : decode cX9_hangs 166 = .ok (.iload_n 3, 1) := by decide +kernel
theorem dX9_hangs_167 : decode cX9_hangs 167 = .ok (.if_icmp .ne 7, 3) := by decide +kernel
theorem dX9_hangs_170 : decode cX9_hangs 170 = .ok (.iconst 1, 1) := by decide +kernel
theorem dX9_hangs_171 : decode cX9_hangs 171 = .ok (.goto 4, 3) := by decide +kernel
theorem dX9_hangs_174 : decode cX9_hangs 174 = .ok (.iconst 0, 1) := by decide +kernel
theorem dX9_hangs_175 : decode cX9_hangs 175 = .ok (.ireturn, 1) := by decide +kernel
theorem dX9_greatestWork_0 : decode cX9_greatestWork 0 = .ok (.iconst 0, 1) := by decide +kernel
theorem dX9_greatestWork_1 : decode cX9_greatestWork 1 = .ok (.istore_n 3, 1) := by decide +kernel
theorem dX9_greatestWork_2 : decode cX9_greatestWork 2 = .ok (.iconst 0, 1) := by decide +kernel
theorem dX9_greatestWork_3 : decode cX9_greatestWork 3 = .ok (.istore 4, 2) := by decide +kernel
theorem dX9_greatestWork_5 : decode cX9_greatestWork 5 = .ok (.iload 4, 2) := by decide +kernel
theorem dX9_greatestWork_7 : decode cX9_greatestWork 7 = .ok (.iload_n 2, 1) := by decide +kernel
theorem dX9_greatestWork_8 : decode cX9_greatestWork 8 = .ok (.if_icmp .ge 93, 3) := by decide +kernel
theorem dX9_greatestWork_11 : decode cX9_greatestWork 11 = .ok (.iconst 0, 1) := by decide +kernel
theorem dX9_greatestWork_12 : decode cX9_greatestWork 12 = .ok (.istore 5, 2) := by decide +kernel
theorem dX9_greatestWork_14 : decode cX9_greatestWork 14 = .ok (.iconst 0, 1) := by decide +kernel
theorem dX9_greatestWork_15 : decode cX9_greatestWork 15 = .ok (.istore 6, 2) := by decide +kernel
theorem dX9_greatestWork_17 : decode cX9_greatestWork 17 = .ok (.iload 6, 2) := by decide +kernel
theorem dX9_greatestWork_19 : decode cX9_greatestWork 19 = .ok (.aload_n 0, 1) := by decide +kernel
theorem dX9_greatestWork_20 : decode cX9_greatestWork 20 = .ok (.getfield 224, 3) := by decide +kernel
theorem dX9_greatestWork_23 : decode cX9_greatestWork 23 = .ok (.if_icmp .ge 42, 3) := by decide +kernel
theorem dX9_greatestWork_26 : decode cX9_greatestWork 26 = .ok (.iload 5, 2) := by decide +kernel
theorem dX9_greatestWork_28 : decode cX9_greatestWork 28 = .ok (.aload_n 0, 1) := by decide +kernel
theorem dX9_greatestWork_29 : decode cX9_greatestWork 29 = .ok (.getfield 103, 3) := by decide +kernel
theorem dX9_greatestWork_32 : decode cX9_greatestWork 32 = .ok (.iload 6, 2) := by decide +kernel
theorem dX9_greatestWork_34 : decode cX9_greatestWork 34 = .ok (.iaload, 1) := by decide +kernel
theorem dX9_greatestWork_35 : decode cX9_greatestWork 35 = .ok (.iload 4, 2) := by decide +kernel
theorem dX9_greatestWork_37 : decode cX9_greatestWork 37 = .ok (.if_icmp .ne 18, 3) := by decide +kernel
theorem dX9_greatestWork_40 : decode cX9_greatestWork 40 = .ok (.aload_n 0, 1) := by decide +kernel
theorem dX9_greatestWork_41 : decode cX9_greatestWork 41 = .ok (.getfield 112, 3) := by decide +kernel
theorem dX9_greatestWork_44 : decode cX9_greatestWork 44 = .ok (.aload_n 0, 1) := by decide +kernel
theorem dX9_greatestWork_45 : decode cX9_greatestWork 45 = .ok (.getfield 100, 3) := by decide +kernel
theorem dX9_greatestWork_48 : decode cX9_greatestWork 48 = .ok (.iload 6, 2) := by decide +kernel
theorem dX9_greatestWork_50 : decode cX9_greatestWork 50 = .ok (.iaload, 1) := by decide +kernel
theorem dX9_greatestWork_51 : decode cX9_greatestWork 51 = .ok (.iaload, 1) := by decide +kernel
theorem dX9_greatestWork_52 : decode cX9_greatestWork 52 = .ok (.goto 4, 3) := by decide +kernel
theorem dX9_greatestWork_55 : decode cX9_greatestWork 55 = .ok (.iconst 0, 1) := by decide +kernel
theorem dX9_greatestWork_56 : decode cX9_greatestWork 56 = .ok (.iadd, 1) := by decide +kernel
theorem dX9_greatestWork_57 : decode cX9_greatestWork 57 = .ok (.istore 5, 2) := by decide +kernel
theorem dX9_greatestWork_59 : decode cX9_greatestWork 59 = .ok (.iinc 6 1, 3) := by decide +kernel
theorem dX9_greatestWork_62 : decode cX9_greatestWork 62 = .ok (.goto (-45), 3) := by decide +kernel
theorem dX9_greatestWork_65 : decode cX9_greatestWork 65 = .ok (.iload 5, 2) := by decide +kernel
theorem dX9_greatestWork_67 : decode cX9_greatestWork 67 = .ok (.iload_n 1, 1) := by decide +kernel
theorem dX9_greatestWork_68 : decode cX9_greatestWork 68 = .ok (.if_icmp .gt 12, 3) := by decide +kernel
theorem dX9_greatestWork_71 : decode cX9_greatestWork 71 = .ok (.aload_n 0, 1) := by decide +kernel
theorem dX9_greatestWork_72 : decode cX9_greatestWork 72 = .ok (.iload 4, 2) := by decide +kernel
theorem dX9_greatestWork_74 : decode cX9_greatestWork 74 = .ok (.invokevirtual 227, 3) := by decide +kernel
theorem dX9_greatestWork_77 : decode cX9_greatestWork 77 = .ok (.ifCond .ne 5, 3) := by decide +kernel
theorem dX9_greatestWork_80 : decode cX9_greatestWork 80 = .ok (.iconst (-1), 1) := by decide +kernel
theorem dX9_greatestWork_81 : decode cX9_greatestWork 81 = .ok (.ireturn, 1) := by decide +kernel
theorem dX9_greatestWork_82 : decode cX9_greatestWork 82 = .ok (.iload 5, 2) := by decide +kernel
theorem dX9_greatestWork_84 : decode cX9_greatestWork 84 = .ok (.iload_n 3, 1) := by decide +kernel
theorem dX9_greatestWork_85 : decode cX9_greatestWork 85 = .ok (.if_icmp .le 8, 3) := by decide +kernel
theorem dX9_greatestWork_88 : decode cX9_greatestWork 88 = .ok (.iload 5, 2) := by decide +kernel
theorem dX9_greatestWork_90 : decode cX9_greatestWork 90 = .ok (.goto 4, 3) := by decide +kernel
theorem dX9_greatestWork_93 : decode cX9_greatestWork 93 = .ok (.iload_n 3, 1) := by decide +kernel
theorem dX9_greatestWork_94 : decode cX9_greatestWork 94 = .ok (.istore_n 3, 1) := by decide +kernel
theorem dX9_greatestWork_95 : decode cX9_greatestWork 95 = .ok (.iinc 4 1, 3) := by decide +kernel
theorem dX9_greatestWork_98 : decode cX9_greatestWork 98 = .ok (.goto (-93), 3) := by decide +kernel
theorem dX9_greatestWork_101 : decode cX9_greatestWork 101 = .ok (.iload_n 3, 1) := by decide +kernel
theorem dX9_greatestWork_102 : decode cX9_greatestWork 102 = .ok (.ireturn, 1) := by decide +kernel
theorem dX9_walksUpTo_0 : decode cX9_walksUpTo 0 = .ok (.iconst 0, 1) := by decide +kernel
theorem dX9_walksUpTo_1 : decode cX9_walksUpTo 1 = .ok (.istore_n 2, 1) := by decide +kernel
theorem dX9_walksUpTo_2 : decode cX9_walksUpTo 2 = .ok (.iconst 0, 1) := by decide +kernel
theorem dX9_walksUpTo_3 : decode cX9_walksUpTo 3 = .ok (.istore_n 3, 1) := by decide +kernel
theorem dX9_walksUpTo_4 : decode cX9_walksUpTo 4 = .ok (.iload_n 3, 1) := by decide +kernel
theorem dX9_walksUpTo_5 : decode cX9_walksUpTo 5 = .ok (.iload_n 1, 1) := by decide +kernel
theorem dX9_walksUpTo_6 : decode cX9_walksUpTo 6 = .ok (.if_icmp .ge 34, 3) := by decide +kernel
theorem dX9_walksUpTo_9 : decode cX9_walksUpTo 9 = .ok (.aload_n 0, 1) := by decide +kernel
theorem dX9_walksUpTo_10 : decode cX9_walksUpTo 10 = .ok (.getfield 103, 3) := by decide +kernel
theorem dX9_walksUpTo_13 : decode cX9_walksUpTo 13 = .ok (.iload_n 3, 1) := by decide +kernel
theorem dX9_walksUpTo_14 : decode cX9_walksUpTo 14 = .ok (.iaload, 1) := by decide +kernel
theorem dX9_walksUpTo_15 : decode cX9_walksUpTo 15 = .ok (.iconst 1, 1) := by decide +kernel
theorem dX9_walksUpTo_16 : decode cX9_walksUpTo 16 = .ok (.iadd, 1) := by decide +kernel
theorem dX9_walksUpTo_17 : decode cX9_walksUpTo 17 = .ok (.iload_n 2, 1) := by decide +kernel
theorem dX9_walksUpTo_18 : decode cX9_walksUpTo 18 = .ok (.if_icmp .le 14, 3) := by decide +kernel
theorem dX9_walksUpTo_21 : decode cX9_walksUpTo 21 = .ok (.aload_n 0, 1) := by decide +kernel
theorem dX9_walksUpTo_22 : decode cX9_walksUpTo 22 = .ok (.getfield 103, 3) := by decide +kernel
theorem dX9_walksUpTo_25 : decode cX9_walksUpTo 25 = .ok (.iload_n 3, 1) := by decide +kernel
theorem dX9_walksUpTo_26 : decode cX9_walksUpTo 26 = .ok (.iaload, 1) := by decide +kernel
theorem dX9_walksUpTo_27 : decode cX9_walksUpTo 27 = .ok (.iconst 1, 1) := by decide +kernel
theorem dX9_walksUpTo_28 : decode cX9_walksUpTo 28 = .ok (.iadd, 1) := by decide +kernel
theorem dX9_walksUpTo_29 : decode cX9_walksUpTo 29 = .ok (.goto 4, 3) := by decide +kernel
theorem dX9_walksUpTo_32 : decode cX9_walksUpTo 32 = .ok (.iload_n 2, 1) := by decide +kernel
theorem dX9_walksUpTo_33 : decode cX9_walksUpTo 33 = .ok (.istore_n 2, 1) := by decide +kernel
theorem dX9_walksUpTo_34 : decode cX9_walksUpTo 34 = .ok (.iinc 3 1, 3) := by decide +kernel
theorem dX9_walksUpTo_37 : decode cX9_walksUpTo 37 = .ok (.goto (-33), 3) := by decide +kernel
theorem dX9_walksUpTo_40 : decode cX9_walksUpTo 40 = .ok (.iload_n 2, 1) := by decide +kernel
theorem dX9_walksUpTo_41 : decode cX9_walksUpTo 41 = .ok (.ireturn, 1) := by decide +kernel
theorem dX9_nextWalks_0 : decode cX9_nextWalks 0 = .ok (.aload_n 0, 1) := by decide +kernel
theorem dX9_nextWalks_1 : decode cX9_nextWalks 1 = .ok (.getfield 224, 3) := by decide +kernel
theorem dX9_nextWalks_4 : decode cX9_nextWalks 4 = .ok (.iconst 1, 1) := by decide +kernel
theorem dX9_nextWalks_5 : decode cX9_nextWalks 5 = .ok (.isub, 1) := by decide +kernel
theorem dX9_nextWalks_6 : decode cX9_nextWalks 6 = .ok (.istore_n 1, 1) := by decide +kernel
theorem dX9_nextWalks_7 : decode cX9_nextWalks 7 = .ok (.iload_n 1, 1) := by decide +kernel
theorem dX9_nextWalks_8 : decode cX9_nextWalks 8 = .ok (.ifCond .le 23, 3) := by decide +kernel
theorem dX9_nextWalks_11 : decode cX9_nextWalks 11 = .ok (.aload_n 0, 1) := by decide +kernel
theorem dX9_nextWalks_12 : decode cX9_nextWalks 12 = .ok (.getfield 103, 3) := by decide +kernel
theorem dX9_nextWalks_15 : decode cX9_nextWalks 15 = .ok (.iload_n 1, 1) := by decide +kernel
theorem dX9_nextWalks_16 : decode cX9_nextWalks 16 = .ok (.iaload, 1) := by decide +kernel
theorem dX9_nextWalks_17 : decode cX9_nextWalks 17 = .ok (.aload_n 0, 1) := by decide +kernel
theorem dX9_nextWalks_18 : decode cX9_nextWalks 18 = .ok (.iload_n 1, 1) := by decide +kernel
theorem dX9_nextWalks_19 : decode cX9_nextWalks 19 = .ok (.invokevirtual 230, 3) := by decide +kernel
theorem dX9_nextWalks_22 : decode cX9_nextWalks 22 = .ok (.if_icmp .ne 9, 3) := by decide +kernel
theorem dX9_nextWalks_25 : decode cX9_nextWalks 25 = .ok (.iinc 1 (-1), 3) := by decide +kernel
theorem dX9_nextWalks_28 : decode cX9_nextWalks 28 = .ok (.goto (-21), 3) := by decide +kernel
theorem dX9_nextWalks_31 : decode cX9_nextWalks 31 = .ok (.iload_n 1, 1) := by decide +kernel
theorem dX9_nextWalks_32 : decode cX9_nextWalks 32 = .ok (.ifCond .gt 5, 3) := by decide +kernel
theorem dX9_nextWalks_35 : decode cX9_nextWalks 35 = .ok (.iconst 0, 1) := by decide +kernel
theorem dX9_nextWalks_36 : decode cX9_nextWalks 36 = .ok (.ireturn, 1) := by decide +kernel
theorem dX9_nextWalks_37 : decode cX9_nextWalks 37 = .ok (.aload_n 0, 1) := by decide +kernel
theorem dX9_nextWalks_38 : decode cX9_nextWalks 38 = .ok (.getfield 103, 3) := by decide +kernel
theorem dX9_nextWalks_41 : decode cX9_nextWalks 41 = .ok (.iload_n 1, 1) := by decide +kernel
theorem dX9_nextWalks_42 : decode cX9_nextWalks 42 = .ok (.dup2, 1) := by decide +kernel
theorem dX9_nextWalks_43 : decode cX9_nextWalks 43 = .ok (.iaload, 1) := by decide +kernel
theorem dX9_nextWalks_44 : decode cX9_nextWalks 44 = .ok (.iconst 1, 1) := by decide +kernel
theorem dX9_nextWalks_45 : decode cX9_nextWalks 45 = .ok (.iadd, 1) := by decide +kernel
theorem dX9_nextWalks_46 : decode cX9_nextWalks 46 = .ok (.iastore, 1) := by decide +kernel
theorem dX9_nextWalks_47 : decode cX9_nextWalks 47 = .ok (.iload_n 1, 1) := by decide +kernel
theorem dX9_nextWalks_48 : decode cX9_nextWalks 48 = .ok (.iconst 1, 1) := by decide +kernel
theorem dX9_nextWalks_49 : decode cX9_nextWalks 49 = .ok (.iadd, 1) := by decide +kernel
theorem dX9_nextWalks_50 : decode cX9_nextWalks 50 = .ok (.istore_n 2, 1) := by decide +kernel
theorem dX9_nextWalks_51 : decode cX9_nextWalks 51 = .ok (.iload_n 2, 1) := by decide +kernel
theorem dX9_nextWalks_52 : decode cX9_nextWalks 52 = .ok (.aload_n 0, 1) := by decide +kernel
theorem dX9_nextWalks_53 : decode cX9_nextWalks 53 = .ok (.getfield 224, 3) := by decide +kernel
theorem dX9_nextWalks_56 : decode cX9_nextWalks 56 = .ok (.if_icmp .ge 16, 3) := by decide +kernel
theorem dX9_nextWalks_59 : decode cX9_nextWalks 59 = .ok (.aload_n 0, 1) := by decide +kernel
theorem dX9_nextWalks_60 : decode cX9_nextWalks 60 = .ok (.getfield 103, 3) := by decide +kernel
theorem dX9_nextWalks_63 : decode cX9_nextWalks 63 = .ok (.iload_n 2, 1) := by decide +kernel
theorem dX9_nextWalks_64 : decode cX9_nextWalks 64 = .ok (.iconst 0, 1) := by decide +kernel
theorem dX9_nextWalks_65 : decode cX9_nextWalks 65 = .ok (.iastore, 1) := by decide +kernel
theorem dX9_nextWalks_66 : decode cX9_nextWalks 66 = .ok (.iinc 2 1, 3) := by decide +kernel
theorem dX9_nextWalks_69 : decode cX9_nextWalks 69 = .ok (.goto (-18), 3) := by decide +kernel
theorem dX9_nextWalks_72 : decode cX9_nextWalks 72 = .ok (.iconst 1, 1) := by decide +kernel
theorem dX9_nextWalks_73 : decode cX9_nextWalks 73 = .ok (.ireturn, 1) := by decide +kernel
theorem dX9_cut_0 : decode cX9_cut 0 = .ok (.iload_n 1, 1) := by decide +kernel
theorem dX9_cut_1 : decode cX9_cut 1 = .ok (.i2l, 1) := by decide +kernel
theorem dX9_cut_2 : decode cX9_cut 2 = .ok (.lconst 0, 1) := by decide +kernel
theorem dX9_cut_3 : decode cX9_cut 3 = .ok (.ldc2_w 233, 3) := by decide +kernel
theorem dX9_cut_6 : decode cX9_cut 6 = .ok (.invokestatic 152, 3) := by decide +kernel
theorem dX9_cut_9 : decode cX9_cut 9 = .ok (.ifCond .ne 10, 3) := by decide +kernel
theorem dX9_cut_12 : decode cX9_cut 12 = .ok (.aload_n 0, 1) := by decide +kernel
theorem dX9_cut_13 : decode cX9_cut 13 = .ok (.bipush (-6), 2) := by decide +kernel
theorem dX9_cut_15 : decode cX9_cut 15 = .ok (.invokevirtual 146, 3) := by decide +kernel
theorem dX9_cut_18 : decode cX9_cut 18 = .ok (.ireturn, 1) := by decide +kernel
theorem dX9_cut_19 : decode cX9_cut 19 = .ok (.aload_n 0, 1) := by decide +kernel
theorem dX9_cut_20 : decode cX9_cut 20 = .ok (.iconst 0, 1) := by decide +kernel
theorem dX9_cut_21 : decode cX9_cut 21 = .ok (.putfield 224, 3) := by decide +kernel
theorem dX9_cut_24 : decode cX9_cut 24 = .ok (.iconst 0, 1) := by decide +kernel
theorem dX9_cut_25 : decode cX9_cut 25 = .ok (.istore_n 2, 1) := by decide +kernel
theorem dX9_cut_26 : decode cX9_cut 26 = .ok (.iload_n 2, 1) := by decide +kernel
theorem dX9_cut_27 : decode cX9_cut 27 = .ok (.bipush 6, 2) := by decide +kernel
theorem dX9_cut_29 : decode cX9_cut 29 = .ok (.if_icmp .ge 129, 3) := by decide +kernel
theorem dX9_cut_32 : decode cX9_cut 32 = .ok (.iconst 0, 1) := by decide +kernel
theorem dX9_cut_33 : decode cX9_cut 33 = .ok (.istore_n 3, 1) := by decide +kernel
theorem dX9_cut_34 : decode cX9_cut 34 = .ok (.aload_n 0, 1) := by decide +kernel
theorem dX9_cut_35 : decode cX9_cut 35 = .ok (.getfield 112, 3) := by decide +kernel
theorem dX9_cut_38 : decode cX9_cut 38 = .ok (.iload_n 2, 1) := by decide +kernel
theorem dX9_cut_39 : decode cX9_cut 39 = .ok (.iconst 0, 1) := by decide +kernel
theorem dX9_cut_40 : decode cX9_cut 40 = .ok (.iastore, 1) := by decide +kernel
theorem dX9_cut_41 : decode cX9_cut 41 = .ok (.iconst 0, 1) := by decide +kernel
theorem dX9_cut_42 : decode cX9_cut 42 = .ok (.istore 4, 2) := by decide +kernel
theorem dX9_cut_44 : decode cX9_cut 44 = .ok (.iload 4, 2) := by decide +kernel
theorem dX9_cut_46 : decode cX9_cut 46 = .ok (.aload_n 0, 1) := by decide +kernel
theorem dX9_cut_47 : decode cX9_cut 47 = .ok (.getfield 139, 3) := by decide +kernel
theorem dX9_cut_50 : decode cX9_cut 50 = .ok (.if_icmp .ge 48, 3) := by decide +kernel
theorem dX9_cut_53 : decode cX9_cut 53 = .ok (.aload_n 0, 1) := by decide +kernel
theorem dX9_cut_54 : decode cX9_cut 54 = .ok (.getfield 7, 3) := by decide +kernel
theorem dX9_cut_57 : decode cX9_cut 57 = .ok (.iload 4, 2) := by decide +kernel
theorem dX9_cut_59 : decode cX9_cut 59 = .ok (.iaload, 1) := by decide +kernel
theorem dX9_cut_60 : decode cX9_cut 60 = .ok (.iload_n 2, 1) := by decide +kernel
theorem dX9_cut_61 : decode cX9_cut 61 = .ok (.if_icmp .eq 6, 3) := by decide +kernel
theorem dX9_cut_64 : decode cX9_cut 64 = .ok (.goto 28, 3) := by decide +kernel
theorem dX9_cut_67 : decode cX9_cut 67 = .ok (.iconst 1, 1) := by decide +kernel
theorem dX9_cut_68 : decode cX9_cut 68 = .ok (.istore_n 3, 1) := by decide +kernel
theorem dX9_cut_69 : decode cX9_cut 69 = .ok (.aload_n 0, 1) := by decide +kernel
theorem dX9_cut_70 : decode cX9_cut 70 = .ok (.getfield 112, 3) := by decide +kernel
theorem dX9_cut_73 : decode cX9_cut 73 = .ok (.iload_n 2, 1) := by decide +kernel
theorem dX9_cut_74 : decode cX9_cut 74 = .ok (.dup2, 1) := by decide +kernel
theorem dX9_cut_75 : decode cX9_cut 75 = .ok (.iaload, 1) := by decide +kernel
theorem dX9_cut_76 : decode cX9_cut 76 = .ok (.aload_n 0, 1) := by decide +kernel
theorem dX9_cut_77 : decode cX9_cut 77 = .ok (.iload 4, 2) := by decide +kernel
theorem dX9_cut_79 : decode cX9_cut 79 = .ok (.invokevirtual 196, 3) := by decide +kernel
theorem dX9_cut_82 : decode cX9_cut 82 = .ok (.ifCond .eq 7, 3) := by decide +kernel
theorem dX9_cut_85 : decode cX9_cut 85 = .ok (.iconst 1, 1) := by decide +kernel
theorem dX9_cut_86 : decode cX9_cut 86 = .ok (.goto 4, 3) := by decide +kernel
theorem dX9_cut_89 : decode cX9_cut 89 = .ok (.iconst 0, 1) := by decide +kernel
theorem dX9_cut_90 : decode cX9_cut 90 = .ok (.iadd, 1) := by decide +kernel
theorem dX9_cut_91 : decode cX9_cut 91 = .ok (.iastore, 1) := by decide +kernel
theorem dX9_cut_92 : decode cX9_cut 92 = .ok (.iinc 4 1, 3) := by decide +kernel
theorem dX9_cut_95 : decode cX9_cut 95 = .ok (.goto (-51), 3) := by decide +kernel
theorem dX9_cut_98 : decode cX9_cut 98 = .ok (.aload_n 0, 1) := by decide +kernel
theorem dX9_cut_99 : decode cX9_cut 99 = .ok (.getfield 112, 3) := by decide +kernel
theorem dX9_cut_102 : decode cX9_cut 102 = .ok (.iload_n 2, 1) := by decide +kernel
theorem dX9_cut_103 : decode cX9_cut 103 = .ok (.iaload, 1) := by decide +kernel
theorem dX9_cut_104 : decode cX9_cut 104 = .ok (.iload_n 1, 1) := by decide +kernel
theorem dX9_cut_105 : decode cX9_cut 105 = .ok (.if_icmp .le 10, 3) := by decide +kernel
theorem dX9_cut_108 : decode cX9_cut 108 = .ok (.aload_n 0, 1) := by decide +kernel
theorem dX9_cut_109 : decode cX9_cut 109 = .ok (.bipush (-6), 2) := by decide +kernel
theorem dX9_cut_111 : decode cX9_cut 111 = .ok (.invokevirtual 146, 3) := by decide +kernel
theorem dX9_cut_114 : decode cX9_cut 114 = .ok (.ireturn, 1) := by decide +kernel
theorem dX9_cut_115 : decode cX9_cut 115 = .ok (.iload_n 3, 1) := by decide +kernel
theorem dX9_cut_116 : decode cX9_cut 116 = .ok (.ifCond .ne 6, 3) := by decide +kernel
theorem dX9_cut_119 : decode cX9_cut 119 = .ok (.goto 33, 3) := by decide +kernel
theorem dX9_cut_122 : decode cX9_cut 122 = .ok (.aload_n 0, 1) := by decide +kernel
theorem dX9_cut_123 : decode cX9_cut 123 = .ok (.getfield 100, 3) := by decide +kernel
theorem dX9_cut_126 : decode cX9_cut 126 = .ok (.aload_n 0, 1) := by decide +kernel
theorem dX9_cut_127 : decode cX9_cut 127 = .ok (.getfield 224, 3) := by decide +kernel
theorem dX9_cut_130 : decode cX9_cut 130 = .ok (.iload_n 2, 1) := by decide +kernel
theorem dX9_cut_131 : decode cX9_cut 131 = .ok (.iastore, 1) := by decide +kernel
theorem dX9_cut_132 : decode cX9_cut 132 = .ok (.aload_n 0, 1) := by decide +kernel
theorem dX9_cut_133 : decode cX9_cut 133 = .ok (.getfield 103, 3) := by decide +kernel
theorem dX9_cut_136 : decode cX9_cut 136 = .ok (.aload_n 0, 1) := by decide +kernel
theorem dX9_cut_137 : decode cX9_cut 137 = .ok (.getfield 224, 3) := by decide +kernel
theorem dX9_cut_140 : decode cX9_cut 140 = .ok (.iconst 0, 1) := by decide +kernel
theorem dX9_cut_141 : decode cX9_cut 141 = .ok (.iastore, 1) := by decide +kernel
theorem dX9_cut_142 : decode cX9_cut 142 = .ok (.aload_n 0, 1) := by decide +kernel
theorem dX9_cut_143 : decode cX9_cut 143 = .ok (.dup, 1) := by decide +kernel
theorem dX9_cut_144 : decode cX9_cut 144 = .ok (.getfield 224, 3) := by decide +kernel
theorem dX9_cut_147 : decode cX9_cut 147 = .ok (.iconst 1, 1) := by decide +kernel
theorem dX9_cut_148 : decode cX9_cut 148 = .ok (.iadd, 1) := by decide +kernel
theorem dX9_cut_149 : decode cX9_cut 149 = .ok (.putfield 224, 3) := by decide +kernel
theorem dX9_cut_152 : decode cX9_cut 152 = .ok (.iinc 2 1, 3) := by decide +kernel
theorem dX9_cut_155 : decode cX9_cut 155 = .ok (.goto (-129), 3) := by decide +kernel
theorem dX9_cut_158 : decode cX9_cut 158 = .ok (.bipush 100, 2) := by decide +kernel
theorem dX9_cut_160 : decode cX9_cut 160 = .ok (.istore_n 2, 1) := by decide +kernel
theorem dX9_cut_161 : decode cX9_cut 161 = .ok (.bipush 100, 2) := by decide +kernel
theorem dX9_cut_163 : decode cX9_cut 163 = .ok (.istore_n 3, 1) := by decide +kernel
theorem dX9_cut_164 : decode cX9_cut 164 = .ok (.aload_n 0, 1) := by decide +kernel
theorem dX9_cut_165 : decode cX9_cut 165 = .ok (.getfield 224, 3) := by decide +kernel
theorem dX9_cut_168 : decode cX9_cut 168 = .ok (.ifCond .le 7, 3) := by decide +kernel
theorem dX9_cut_171 : decode cX9_cut 171 = .ok (.iconst 1, 1) := by decide +kernel
theorem dX9_cut_172 : decode cX9_cut 172 = .ok (.goto 4, 3) := by decide +kernel
theorem dX9_cut_175 : decode cX9_cut 175 = .ok (.iconst 0, 1) := by decide +kernel
theorem dX9_cut_176 : decode cX9_cut 176 = .ok (.istore 4, 2) := by decide +kernel
theorem dX9_cut_178 : decode cX9_cut 178 = .ok (.iload 4, 2) := by decide +kernel
theorem dX9_cut_180 : decode cX9_cut 180 = .ok (.ifCond .eq 96, 3) := by decide +kernel
theorem dX9_cut_183 : decode cX9_cut 183 = .ok (.aload_n 0, 1) := by decide +kernel
theorem dX9_cut_184 : decode cX9_cut 184 = .ok (.aload_n 0, 1) := by decide +kernel
theorem dX9_cut_185 : decode cX9_cut 185 = .ok (.getfield 224, 3) := by decide +kernel
theorem dX9_cut_188 : decode cX9_cut 188 = .ok (.invokevirtual 230, 3) := by decide +kernel
theorem dX9_cut_191 : decode cX9_cut 191 = .ok (.istore 5, 2) := by decide +kernel
theorem dX9_cut_193 : decode cX9_cut 193 = .ok (.iload 5, 2) := by decide +kernel
theorem dX9_cut_195 : decode cX9_cut 195 = .ok (.iload_n 2, 1) := by decide +kernel
theorem dX9_cut_196 : decode cX9_cut 196 = .ok (.if_icmp .le 7, 3) := by decide +kernel
theorem dX9_cut_199 : decode cX9_cut 199 = .ok (.iconst (-1), 1) := by decide +kernel
theorem dX9_cut_200 : decode cX9_cut 200 = .ok (.goto 10, 3) := by decide +kernel
theorem dX9_cut_203 : decode cX9_cut 203 = .ok (.aload_n 0, 1) := by decide +kernel
theorem dX9_cut_204 : decode cX9_cut 204 = .ok (.iload_n 1, 1) := by decide +kernel
theorem dX9_cut_205 : decode cX9_cut 205 = .ok (.iload 5, 2) := by decide +kernel
theorem dX9_cut_207 : decode cX9_cut 207 = .ok (.invokevirtual 235, 3) := by decide +kernel
theorem dX9_cut_210 : decode cX9_cut 210 = .ok (.istore 6, 2) := by decide +kernel
theorem dX9_cut_212 : decode cX9_cut 212 = .ok (.iload 6, 2) := by decide +kernel
theorem dX9_cut_214 : decode cX9_cut 214 = .ok (.ifCond .lt 53, 3) := by decide +kernel
theorem dX9_cut_217 : decode cX9_cut 217 = .ok (.iload 5, 2) := by decide +kernel
theorem dX9_cut_219 : decode cX9_cut 219 = .ok (.iload_n 2, 1) := by decide +kernel
theorem dX9_cut_220 : decode cX9_cut 220 = .ok (.if_icmp .lt 9, 3) := by decide +kernel
theorem dX9_cut_223 : decode cX9_cut 223 = .ok (.iload 6, 2) := by decide +kernel
theorem dX9_cut_225 : decode cX9_cut 225 = .ok (.iload_n 3, 1) := by decide +kernel
theorem dX9_cut_226 : decode cX9_cut 226 = .ok (.if_icmp .ge 41, 3) := by decide +kernel
theorem dX9_cut_229 : decode cX9_cut 229 = .ok (.iload 5, 2) := by decide +kernel
theorem dX9_cut_231 : decode cX9_cut 231 = .ok (.istore_n 2, 1) := by decide +kernel
theorem dX9_cut_232 : decode cX9_cut 232 = .ok (.iload 6, 2) := by decide +kernel
theorem dX9_cut_234 : decode cX9_cut 234 = .ok (.istore_n 3, 1) := by decide +kernel
theorem dX9_cut_235 : decode cX9_cut 235 = .ok (.iconst 0, 1) := by decide +kernel
theorem dX9_cut_236 : decode cX9_cut 236 = .ok (.istore 7, 2) := by decide +kernel
theorem dX9_cut_238 : decode cX9_cut 238 = .ok (.iload 7, 2) := by decide +kernel
theorem dX9_cut_240 : decode cX9_cut 240 = .ok (.aload_n 0, 1) := by decide +kernel
theorem dX9_cut_241 : decode cX9_cut 241 = .ok (.getfield 224, 3) := by decide +kernel
theorem dX9_cut_244 : decode cX9_cut 244 = .ok (.if_icmp .ge 23, 3) := by decide +kernel
theorem dX9_cut_247 : decode cX9_cut 247 = .ok (.aload_n 0, 1) := by decide +kernel
theorem dX9_cut_248 : decode cX9_cut 248 = .ok (.getfield 106, 3) := by decide +kernel
theorem dX9_cut_251 : decode cX9_cut 251 = .ok (.iload 7, 2) := by decide +kernel
theorem dX9_cut_253 : decode cX9_cut 253 = .ok (.aload_n 0, 1) := by decide +kernel
theorem dX9_cut_254 : decode cX9_cut 254 = .ok (.getfield 103, 3) := by decide +kernel
theorem dX9_cut_257 : decode cX9_cut 257 = .ok (.iload 7, 2) := by decide +kernel
theorem dX9_cut_259 : decode cX9_cut 259 = .ok (.iaload, 1) := by decide +kernel
theorem dX9_cut_260 : decode cX9_cut 260 = .ok (.iastore, 1) := by decide +kernel
theorem dX9_cut_261 : decode cX9_cut 261 = .ok (.iinc 7 1, 3) := by decide +kernel
theorem dX9_cut_264 : decode cX9_cut 264 = .ok (.goto (-26), 3) := by decide +kernel
theorem dX9_cut_267 : decode cX9_cut 267 = .ok (.aload_n 0, 1) := by decide +kernel
theorem dX9_cut_268 : decode cX9_cut 268 = .ok (.invokevirtual 238, 3) := by decide +kernel
theorem dX9_cut_271 : decode cX9_cut 271 = .ok (.istore 4, 2) := by decide +kernel
theorem dX9_cut_273 : decode cX9_cut 273 = .ok (.goto (-95), 3) := by decide +kernel
theorem dX9_cut_276 : decode cX9_cut 276 = .ok (.iconst 0, 1) := by decide +kernel
theorem dX9_cut_277 : decode cX9_cut 277 = .ok (.istore 5, 2) := by decide +kernel
theorem dX9_cut_279 : decode cX9_cut 279 = .ok (.iload 5, 2) := by decide +kernel
theorem dX9_cut_281 : decode cX9_cut 281 = .ok (.bipush 6, 2) := by decide +kernel
theorem dX9_cut_283 : decode cX9_cut 283 = .ok (.if_icmp .ge 17, 3) := by decide +kernel
theorem dX9_cut_286 : decode cX9_cut 286 = .ok (.aload_n 0, 1) := by decide +kernel
theorem dX9_cut_287 : decode cX9_cut 287 = .ok (.getfield 109, 3) := by decide +kernel
theorem dX9_cut_290 : decode cX9_cut 290 = .ok (.iload 5, 2) := by decide +kernel
theorem dX9_cut_292 : decode cX9_cut 292 = .ok (.iconst (-1), 1) := by decide +kernel
theorem dX9_cut_293 : decode cX9_cut 293 = .ok (.iastore, 1) := by decide +kernel
theorem dX9_cut_294 : decode cX9_cut 294 = .ok (.iinc 5 1, 3) := by decide +kernel
theorem dX9_cut_297 : decode cX9_cut 297 = .ok (.goto (-18), 3) := by decide +kernel
theorem dX9_cut_300 : decode cX9_cut 300 = .ok (.iconst 0, 1) := by decide +kernel
theorem dX9_cut_301 : decode cX9_cut 301 = .ok (.istore 5, 2) := by decide +kernel
theorem dX9_cut_303 : decode cX9_cut 303 = .ok (.iload 5, 2) := by decide +kernel
theorem dX9_cut_305 : decode cX9_cut 305 = .ok (.aload_n 0, 1) := by decide +kernel
theorem dX9_cut_306 : decode cX9_cut 306 = .ok (.getfield 224, 3) := by decide +kernel
theorem dX9_cut_309 : decode cX9_cut 309 = .ok (.if_icmp .ge 28, 3) := by decide +kernel
theorem dX9_cut_312 : decode cX9_cut 312 = .ok (.aload_n 0, 1) := by decide +kernel
theorem dX9_cut_313 : decode cX9_cut 313 = .ok (.getfield 109, 3) := by decide +kernel
theorem dX9_cut_316 : decode cX9_cut 316 = .ok (.aload_n 0, 1) := by decide +kernel
theorem dX9_cut_317 : decode cX9_cut 317 = .ok (.getfield 100, 3) := by decide +kernel
theorem dX9_cut_320 : decode cX9_cut 320 = .ok (.iload 5, 2) := by decide +kernel
theorem dX9_cut_322 : decode cX9_cut 322 = .ok (.iaload, 1) := by decide +kernel
theorem dX9_cut_323 : decode cX9_cut 323 = .ok (.aload_n 0, 1) := by decide +kernel
theorem dX9_cut_324 : decode cX9_cut 324 = .ok (.getfield 106, 3) := by decide +kernel
theorem dX9_cut_327 : decode cX9_cut 327 = .ok (.iload 5, 2) := by decide +kernel
theorem dX9_cut_329 : decode cX9_cut 329 = .ok (.iaload, 1) := by decide +kernel
theorem dX9_cut_330 : decode cX9_cut 330 = .ok (.iastore, 1) := by decide +kernel
theorem dX9_cut_331 : decode cX9_cut 331 = .ok (.iinc 5 1, 3) := by decide +kernel
theorem dX9_cut_334 : decode cX9_cut 334 = .ok (.goto (-31), 3) := by decide +kernel
theorem dX9_cut_337 : decode cX9_cut 337 = .ok (.aload_n 0, 1) := by decide +kernel
theorem dX9_cut_338 : decode cX9_cut 338 = .ok (.getfield 224, 3) := by decide +kernel
theorem dX9_cut_341 : decode cX9_cut 341 = .ok (.ifCond .ne 7, 3) := by decide +kernel
theorem dX9_cut_344 : decode cX9_cut 344 = .ok (.iconst 0, 1) := by decide +kernel
theorem dX9_cut_345 : decode cX9_cut 345 = .ok (.goto 4, 3) := by decide +kernel
theorem dX9_cut_348 : decode cX9_cut 348 = .ok (.iload_n 2, 1) := by decide +kernel
theorem dX9_cut_349 : decode cX9_cut 349 = .ok (.ireturn, 1) := by decide +kernel
end
section
theorem dX9_walk_0 : decode cX9_walk 0 = .ok (.iload_n 1, 1) := by decide +kernel
theorem dX9_walk_1 : decode cX9_walk 1 = .ok (.invokestatic 142, 3) := by decide +kernel
theorem dX9_walk_4 : decode cX9_walk 4 = .ok (.ifCond .eq 12, 3) := by decide +kernel
theorem dX9_walk_7 : decode cX9_walk 7 = .ok (.aload_n 0, 1) := by decide +kernel
theorem dX9_walk_8 : decode cX9_walk 8 = .ok (.getfield 109, 3) := by decide +kernel
theorem dX9_walk_11 : decode cX9_walk 11 = .ok (.iload_n 1, 1) := by decide +kernel
theorem dX9_walk_12 : decode cX9_walk 12 = .ok (.iaload, 1) := by decide +kernel
theorem dX9_walk_13 : decode cX9_walk 13 = .ok (.goto 4, 3) := by decide +kernel
theorem dX9_walk_16 : decode cX9_walk 16 = .ok (.iconst (-1), 1) := by decide +kernel
theorem dX9_walk_17 : decode cX9_walk 17 = .ok (.ireturn, 1) := by decide +kernel
theorem dX9_second_0 : decode cX9_second 0 = .ok (.iload_n 1, 1) := by decide +kernel
theorem dX9_second_1 : decode cX9_second 1 = .ok (.invokestatic 142, 3) := by decide +kernel
theorem dX9_second_4 : decode cX9_second 4 = .ok (.ifCond .ne 9, 3) := by decide +kernel
theorem dX9_second_7 : decode cX9_second 7 = .ok (.aload_n 0, 1) := by decide +kernel
theorem dX9_second_8 : decode cX9_second 8 = .ok (.iconst (-1), 1) := by decide +kernel
theorem dX9_second_9 : decode cX9_second 9 = .ok (.invokevirtual 146, 3) := by decide +kernel
theorem dX9_second_12 : decode cX9_second 12 = .ok (.ireturn, 1) := by decide +kernel
theorem dX9_second_13 : decode cX9_second 13 = .ok (.aload_n 0, 1) := by decide +kernel
theorem dX9_second_14 : decode cX9_second 14 = .ok (.iload_n 2, 1) := by decide +kernel
theorem dX9_second_15 : decode cX9_second 15 = .ok (.invokevirtual 165, 3) := by decide +kernel
theorem dX9_second_18 : decode cX9_second 18 = .ok (.istore_n 3, 1) := by decide +kernel
theorem dX9_second_19 : decode cX9_second 19 = .ok (.iload_n 3, 1) := by decide +kernel
theorem dX9_second_20 : decode cX9_second 20 = .ok (.ifCond .eq 9, 3) := by decide +kernel
theorem dX9_second_23 : decode cX9_second 23 = .ok (.aload_n 0, 1) := by decide +kernel
theorem dX9_second_24 : decode cX9_second 24 = .ok (.iload_n 3, 1) := by decide +kernel
theorem dX9_second_25 : decode cX9_second 25 = .ok (.invokevirtual 146, 3) := by decide +kernel
theorem dX9_second_28 : decode cX9_second 28 = .ok (.ireturn, 1) := by decide +kernel
theorem dX9_second_29 : decode cX9_second 29 = .ok (.iconst 0, 1) := by decide +kernel
theorem dX9_second_30 : decode cX9_second 30 = .ok (.istore 4, 2) := by decide +kernel
theorem dX9_second_32 : decode cX9_second 32 = .ok (.iconst 1, 1) := by decide +kernel
theorem dX9_second_33 : decode cX9_second 33 = .ok (.istore 5, 2) := by decide +kernel
theorem dX9_second_35 : decode cX9_second 35 = .ok (.iconst 0, 1) := by decide +kernel
theorem dX9_second_36 : decode cX9_second 36 = .ok (.istore 6, 2) := by decide +kernel
theorem dX9_second_38 : decode cX9_second 38 = .ok (.iload 6, 2) := by decide +kernel
theorem dX9_second_40 : decode cX9_second 40 = .ok (.aload_n 0, 1) := by decide +kernel
theorem dX9_second_41 : decode cX9_second 41 = .ok (.getfield 139, 3) := by decide +kernel
theorem dX9_second_44 : decode cX9_second 44 = .ok (.if_icmp .ge 73, 3) := by decide +kernel
theorem dX9_second_47 : decode cX9_second 47 = .ok (.aload_n 0, 1) := by decide +kernel
theorem dX9_second_48 : decode cX9_second 48 = .ok (.getfield 7, 3) := by decide +kernel
theorem dX9_second_51 : decode cX9_second 51 = .ok (.iload 6, 2) := by decide +kernel
theorem dX9_second_53 : decode cX9_second 53 = .ok (.iaload, 1) := by decide +kernel
theorem dX9_second_54 : decode cX9_second 54 = .ok (.iload_n 1, 1) := by decide +kernel
theorem dX9_second_55 : decode cX9_second 55 = .ok (.if_icmp .eq 6, 3) := by decide +kernel
theorem dX9_second_58 : decode cX9_second 58 = .ok (.goto 53, 3) := by decide +kernel
theorem dX9_second_61 : decode cX9_second 61 = .ok (.iload 5, 2) := by decide +kernel
theorem dX9_second_63 : decode cX9_second 63 = .ok (.ifCond .eq 42, 3) := by decide +kernel
theorem dX9_second_66 : decode cX9_second 66 = .ok (.iload 4, 2) := by decide +kernel
theorem dX9_second_68 : decode cX9_second 68 = .ok (.aload_n 0, 1) := by decide +kernel
theorem dX9_second_69 : decode cX9_second 69 = .ok (.getfield 90, 3) := by decide +kernel
theorem dX9_second_72 : decode cX9_second 72 = .ok (.iload_n 2, 1) := by decide +kernel
theorem dX9_second_73 : decode cX9_second 73 = .ok (.iaload, 1) := by decide +kernel
theorem dX9_second_74 : decode cX9_second 74 = .ok (.if_icmp .ge 27, 3) := by decide +kernel
theorem dX9_second_77 : decode cX9_second 77 = .ok (.aload_n 0, 1) := by decide +kernel
theorem dX9_second_78 : decode cX9_second 78 = .ok (.getfield 93, 3) := by decide +kernel
theorem dX9_second_81 : decode cX9_second 81 = .ok (.bipush 30, 2) := by decide +kernel
theorem dX9_second_83 : decode cX9_second 83 = .ok (.iload_n 2, 1) := by decide +kernel
theorem dX9_second_84 : decode cX9_second 84 = .ok (.imul, 1) := by decide +kernel
theorem dX9_second_85 : decode cX9_second 85 = .ok (.iload 4, 2) := by decide +kernel
theorem dX9_second_87 : decode cX9_second 87 = .ok (.iadd, 1) := by decide +kernel
theorem dX9_second_88 : decode cX9_second 88 = .ok (.laload, 1) := by decide +kernel
theorem dX9_second_89 : decode cX9_second 89 = .ok (.l2i, 1) := by decide +kernel
theorem dX9_second_90 : decode cX9_second 90 = .ok (.i2l, 1) := by decide +kernel
theorem dX9_second_91 : decode cX9_second 91 = .ok (.lconst 0, 1) := by decide +kernel
theorem dX9_second_92 : decode cX9_second 92 = .ok (.ldc2_w 242, 3) := by decide +kernel
theorem dX9_second_95 : decode cX9_second 95 = .ok (.invokestatic 152, 3) := by decide +kernel
theorem dX9_second_98 : decode cX9_second 98 = .ok (.ifCond .eq 7, 3) := by decide +kernel
theorem dX9_second_101 : decode cX9_second 101 = .ok (.iconst 1, 1) := by decide +kernel
theorem dX9_second_102 : decode cX9_second 102 = .ok (.goto 4, 3) := by decide +kernel
theorem dX9_second_105 : decode cX9_second 105 = .ok (.iconst 0, 1) := by decide +kernel
theorem dX9_second_106 : decode cX9_second 106 = .ok (.istore 5, 2) := by decide +kernel
theorem dX9_second_108 : decode cX9_second 108 = .ok (.iinc 4 1, 3) := by decide +kernel
theorem dX9_second_111 : decode cX9_second 111 = .ok (.iinc 6 1, 3) := by decide +kernel
theorem dX9_second_114 : decode cX9_second 114 = .ok (.goto (-76), 3) := by decide +kernel
theorem dX9_second_117 : decode cX9_second 117 = .ok (.iload 4, 2) := by decide +kernel
theorem dX9_second_119 : decode cX9_second 119 = .ok (.aload_n 0, 1) := by decide +kernel
theorem dX9_second_120 : decode cX9_second 120 = .ok (.getfield 90, 3) := by decide +kernel
theorem dX9_second_123 : decode cX9_second 123 = .ok (.iload_n 2, 1) := by decide +kernel
theorem dX9_second_124 : decode cX9_second 124 = .ok (.iaload, 1) := by decide +kernel
theorem dX9_second_125 : decode cX9_second 125 = .ok (.if_icmp .le 10, 3) := by decide +kernel
theorem dX9_second_128 : decode cX9_second 128 = .ok (.aload_n 0, 1) := by decide +kernel
theorem dX9_second_129 : decode cX9_second 129 = .ok (.bipush (-5), 2) := by decide +kernel
theorem dX9_second_131 : decode cX9_second 131 = .ok (.invokevirtual 146, 3) := by decide +kernel
theorem dX9_second_134 : decode cX9_second 134 = .ok (.ireturn, 1) := by decide +kernel
theorem dX9_second_135 : decode cX9_second 135 = .ok (.iload 5, 2) := by decide +kernel
theorem dX9_second_137 : decode cX9_second 137 = .ok (.ifCond .ne 10, 3) := by decide +kernel
theorem dX9_second_140 : decode cX9_second 140 = .ok (.aload_n 0, 1) := by decide +kernel
theorem dX9_second_141 : decode cX9_second 141 = .ok (.bipush (-6), 2) := by decide +kernel
theorem dX9_second_143 : decode cX9_second 143 = .ok (.invokevirtual 146, 3) := by decide +kernel
theorem dX9_second_146 : decode cX9_second 146 = .ok (.ireturn, 1) := by decide +kernel
theorem dX9_second_147 : decode cX9_second 147 = .ok (.iconst 0, 1) := by decide +kernel
theorem dX9_second_148 : decode cX9_second 148 = .ok (.istore 6, 2) := by decide +kernel
theorem dX9_second_150 : decode cX9_second 150 = .ok (.iconst 0, 1) := by decide +kernel
theorem dX9_second_151 : decode cX9_second 151 = .ok (.istore 4, 2) := by decide +kernel
theorem dX9_second_153 : decode cX9_second 153 = .ok (.iconst 0, 1) := by decide +kernel
theorem dX9_second_154 : decode cX9_second 154 = .ok (.istore 7, 2) := by decide +kernel
theorem dX9_second_156 : decode cX9_second 156 = .ok (.iload 7, 2) := by decide +kernel
theorem dX9_second_158 : decode cX9_second 158 = .ok (.aload_n 0, 1) := by decide +kernel
theorem dX9_second_159 : decode cX9_second 159 = .ok (.getfield 139, 3) := by decide +kernel
theorem dX9_second_162 : decode cX9_second 162 = .ok (.if_icmp .ge 66, 3) := by decide +kernel
theorem dX9_second_165 : decode cX9_second 165 = .ok (.aload_n 0, 1) := by decide +kernel
theorem dX9_second_166 : decode cX9_second 166 = .ok (.getfield 7, 3) := by decide +kernel
theorem dX9_second_169 : decode cX9_second 169 = .ok (.iload 7, 2) := by decide +kernel
theorem dX9_second_171 : decode cX9_second 171 = .ok (.iaload, 1) := by decide +kernel
theorem dX9_second_172 : decode cX9_second 172 = .ok (.iload_n 1, 1) := by decide +kernel
theorem dX9_second_173 : decode cX9_second 173 = .ok (.if_icmp .eq 6, 3) := by decide +kernel
theorem dX9_second_176 : decode cX9_second 176 = .ok (.goto 46, 3) := by decide +kernel
theorem dX9_second_179 : decode cX9_second 179 = .ok (.aload_n 0, 1) := by decide +kernel
theorem dX9_second_180 : decode cX9_second 180 = .ok (.getfield 43, 3) := by decide +kernel
theorem dX9_second_183 : decode cX9_second 183 = .ok (.iload 7, 2) := by decide +kernel
theorem dX9_second_185 : decode cX9_second 185 = .ok (.aload_n 0, 1) := by decide +kernel
theorem dX9_second_186 : decode cX9_second 186 = .ok (.getfield 93, 3) := by decide +kernel
theorem dX9_second_189 : decode cX9_second 189 = .ok (.bipush 30, 2) := by decide +kernel
theorem dX9_second_191 : decode cX9_second 191 = .ok (.iload_n 2, 1) := by decide +kernel
theorem dX9_second_192 : decode cX9_second 192 = .ok (.imul, 1) := by decide +kernel
theorem dX9_second_193 : decode cX9_second 193 = .ok (.iload 4, 2) := by decide +kernel
theorem dX9_second_195 : decode cX9_second 195 = .ok (.iadd, 1) := by decide +kernel
theorem dX9_second_196 : decode cX9_second 196 = .ok (.laload, 1) := by decide +kernel
theorem dX9_second_197 : decode cX9_second 197 = .ok (.l2i, 1) := by decide +kernel
theorem dX9_second_198 : decode cX9_second 198 = .ok (.iastore, 1) := by decide +kernel
theorem dX9_second_199 : decode cX9_second 199 = .ok (.aload_n 0, 1) := by decide +kernel
theorem dX9_second_200 : decode cX9_second 200 = .ok (.getfield 59, 3) := by decide +kernel
theorem dX9_second_203 : decode cX9_second 203 = .ok (.iload 7, 2) := by decide +kernel
theorem dX9_second_205 : decode cX9_second 205 = .ok (.iconst 1, 1) := by decide +kernel
theorem dX9_second_206 : decode cX9_second 206 = .ok (.bastore, 1) := by decide +kernel
theorem dX9_second_207 : decode cX9_second 207 = .ok (.iload 6, 2) := by decide +kernel
theorem dX9_second_209 : decode cX9_second 209 = .ok (.aload_n 0, 1) := by decide +kernel
theorem dX9_second_210 : decode cX9_second 210 = .ok (.getfield 43, 3) := by decide +kernel
theorem dX9_second_213 : decode cX9_second 213 = .ok (.iload 7, 2) := by decide +kernel
theorem dX9_second_215 : decode cX9_second 215 = .ok (.iaload, 1) := by decide +kernel
theorem dX9_second_216 : decode cX9_second 216 = .ok (.iadd, 1) := by decide +kernel
theorem dX9_second_217 : decode cX9_second 217 = .ok (.istore 6, 2) := by decide +kernel
theorem dX9_second_219 : decode cX9_second 219 = .ok (.iinc 4 1, 3) := by decide +kernel
theorem dX9_second_222 : decode cX9_second 222 = .ok (.iinc 7 1, 3) := by decide +kernel
theorem dX9_second_225 : decode cX9_second 225 = .ok (.goto (-69), 3) := by decide +kernel
theorem dX9_second_228 : decode cX9_second 228 = .ok (.aload_n 0, 1) := by decide +kernel
theorem dX9_second_229 : decode cX9_second 229 = .ok (.getfield 56, 3) := by decide +kernel
theorem dX9_second_232 : decode cX9_second 232 = .ok (.iload_n 1, 1) := by decide +kernel
theorem dX9_second_233 : decode cX9_second 233 = .ok (.iconst 1, 1) := by decide +kernel
theorem dX9_second_234 : decode cX9_second 234 = .ok (.bastore, 1) := by decide +kernel
theorem dX9_second_235 : decode cX9_second 235 = .ok (.iload 6, 2) := by decide +kernel
theorem dX9_second_237 : decode cX9_second 237 = .ok (.ireturn, 1) := by decide +kernel
theorem dX9_countedAll_0 : decode cX9_countedAll 0 = .ok (.iconst 0, 1) := by decide +kernel
theorem dX9_countedAll_1 : decode cX9_countedAll 1 = .ok (.istore_n 1, 1) := by decide +kernel
theorem dX9_countedAll_2 : decode cX9_countedAll 2 = .ok (.iconst 0, 1) := by decide +kernel
theorem dX9_countedAll_3 : decode cX9_countedAll 3 = .ok (.istore_n 2, 1) := by decide +kernel
theorem dX9_countedAll_4 : decode cX9_countedAll 4 = .ok (.iload_n 2, 1) := by decide +kernel
theorem dX9_countedAll_5 : decode cX9_countedAll 5 = .ok (.aload_n 0, 1) := by decide +kernel
theorem dX9_countedAll_6 : decode cX9_countedAll 6 = .ok (.getfield 139, 3) := by decide +kernel
theorem dX9_countedAll_9 : decode cX9_countedAll 9 = .ok (.if_icmp .ge 24, 3) := by decide +kernel
theorem dX9_countedAll_12 : decode cX9_countedAll 12 = .ok (.iload_n 1, 1) := by decide +kernel
theorem dX9_countedAll_13 : decode cX9_countedAll 13 = .ok (.aload_n 0, 1) := by decide +kernel
theorem dX9_countedAll_14 : decode cX9_countedAll 14 = .ok (.getfield 28, 3) := by decide +kernel
theorem dX9_countedAll_17 : decode cX9_countedAll 17 = .ok (.iload_n 2, 1) := by decide +kernel
theorem dX9_countedAll_18 : decode cX9_countedAll 18 = .ok (.iaload, 1) := by decide +kernel
theorem dX9_countedAll_19 : decode cX9_countedAll 19 = .ok (.aload_n 0, 1) := by decide +kernel
theorem dX9_countedAll_20 : decode cX9_countedAll 20 = .ok (.iload_n 2, 1) := by decide +kernel
theorem dX9_countedAll_21 : decode cX9_countedAll 21 = .ok (.invokevirtual 214, 3) := by decide +kernel
theorem dX9_countedAll_24 : decode cX9_countedAll 24 = .ok (.isub, 1) := by decide +kernel
theorem dX9_countedAll_25 : decode cX9_countedAll 25 = .ok (.iadd, 1) := by decide +kernel
theorem dX9_countedAll_26 : decode cX9_countedAll 26 = .ok (.istore_n 1, 1) := by decide +kernel
theorem dX9_countedAll_27 : decode cX9_countedAll 27 = .ok (.iinc 2 1, 3) := by decide +kernel
theorem dX9_countedAll_30 : decode cX9_countedAll 30 = .ok (.goto (-26), 3) := by decide +kernel
theorem dX9_countedAll_33 : decode cX9_countedAll 33 = .ok (.iload_n 1, 1) := by decide +kernel
theorem dX9_countedAll_34 : decode cX9_countedAll 34 = .ok (.ireturn, 1) := by decide +kernel
theorem dX9_divisor_0 : decode cX9_divisor 0 = .ok (.lload_n 0, 1) := by decide +kernel
theorem dX9_divisor_1 : decode cX9_divisor 1 = .ok (.lstore 4, 2) := by decide +kernel
theorem dX9_divisor_3 : decode cX9_divisor 3 = .ok (.lload_n 2, 1) := by decide +kernel
theorem dX9_divisor_4 : decode cX9_divisor 4 = .ok (.lstore 6, 2) := by decide +kernel
theorem dX9_divisor_6 : decode cX9_divisor 6 = .ok (.lload 6, 2) := by decide +kernel
theorem dX9_divisor_8 : decode cX9_divisor 8 = .ok (.lconst 0, 1) := by decide +kernel
theorem dX9_divisor_9 : decode cX9_divisor 9 = .ok (.lcmp, 1) := by decide +kernel
theorem dX9_divisor_10 : decode cX9_divisor 10 = .ok (.ifCond .eq 21, 3) := by decide +kernel
theorem dX9_divisor_13 : decode cX9_divisor 13 = .ok (.lload 4, 2) := by decide +kernel
theorem dX9_divisor_15 : decode cX9_divisor 15 = .ok (.lload 6, 2) := by decide +kernel
theorem dX9_divisor_17 : decode cX9_divisor 17 = .ok (.lrem, 1) := by decide +kernel
theorem dX9_divisor_18 : decode cX9_divisor 18 = .ok (.lstore 8, 2) := by decide +kernel
theorem dX9_divisor_20 : decode cX9_divisor 20 = .ok (.lload 6, 2) := by decide +kernel
theorem dX9_divisor_22 : decode cX9_divisor 22 = .ok (.lstore 4, 2) := by decide +kernel
theorem dX9_divisor_24 : decode cX9_divisor 24 = .ok (.lload 8, 2) := by decide +kernel
theorem dX9_divisor_26 : decode cX9_divisor 26 = .ok (.lstore 6, 2) := by decide +kernel
theorem dX9_divisor_28 : decode cX9_divisor 28 = .ok (.goto (-22), 3) := by decide +kernel
theorem dX9_divisor_31 : decode cX9_divisor 31 = .ok (.lload 4, 2) := by decide +kernel
theorem dX9_divisor_33 : decode cX9_divisor 33 = .ok (.lreturn, 1) := by decide +kernel
theorem dX9_right_0 : decode cX9_right 0 = .ok (.lconst 0, 1) := by decide +kernel
theorem dX9_right_1 : decode cX9_right 1 = .ok (.lstore_n 2, 1) := by decide +kernel
theorem dX9_right_2 : decode cX9_right 2 = .ok (.lconst 0, 1) := by decide +kernel
theorem dX9_right_3 : decode cX9_right 3 = .ok (.lstore 4, 2) := by decide +kernel
theorem dX9_right_5 : decode cX9_right 5 = .ok (.iconst 0, 1) := by decide +kernel
theorem dX9_right_6 : decode cX9_right 6 = .ok (.istore 6, 2) := by decide +kernel
theorem dX9_right_8 : decode cX9_right 8 = .ok (.iload 6, 2) := by decide +kernel
theorem dX9_right_10 : decode cX9_right 10 = .ok (.aload_n 0, 1) := by decide +kernel
theorem dX9_right_11 : decode cX9_right 11 = .ok (.getfield 139, 3) := by decide +kernel
theorem dX9_right_14 : decode cX9_right 14 = .ok (.if_icmp .ge 63, 3) := by decide +kernel
theorem dX9_right_17 : decode cX9_right 17 = .ok (.aload_n 0, 1) := by decide +kernel
theorem dX9_right_18 : decode cX9_right 18 = .ok (.getfield 59, 3) := by decide +kernel
theorem dX9_right_21 : decode cX9_right 21 = .ok (.iload 6, 2) := by decide +kernel
theorem dX9_right_23 : decode cX9_right 23 = .ok (.baload, 1) := by decide +kernel
theorem dX9_right_24 : decode cX9_right 24 = .ok (.ifCond .ne 6, 3) := by decide +kernel
theorem dX9_right_27 : decode cX9_right 27 = .ok (.goto 44, 3) := by decide +kernel
theorem dX9_right_30 : decode cX9_right 30 = .ok (.lload_n 2, 1) := by decide +kernel
theorem dX9_right_31 : decode cX9_right 31 = .ok (.aload_n 0, 1) := by decide +kernel
theorem dX9_right_32 : decode cX9_right 32 = .ok (.getfield 43, 3) := by decide +kernel
theorem dX9_right_35 : decode cX9_right 35 = .ok (.iload 6, 2) := by decide +kernel
theorem dX9_right_37 : decode cX9_right 37 = .ok (.iaload, 1) := by decide +kernel
theorem dX9_right_38 : decode cX9_right 38 = .ok (.i2l, 1) := by decide +kernel
theorem dX9_right_39 : decode cX9_right 39 = .ok (.ladd, 1) := by decide +kernel
theorem dX9_right_40 : decode cX9_right 40 = .ok (.lstore_n 2, 1) := by decide +kernel
theorem dX9_right_41 : decode cX9_right 41 = .ok (.lload 4, 2) := by decide +kernel
theorem dX9_right_43 : decode cX9_right 43 = .ok (.aload_n 0, 1) := by decide +kernel
theorem dX9_right_44 : decode cX9_right 44 = .ok (.getfield 43, 3) := by decide +kernel
theorem dX9_right_47 : decode cX9_right 47 = .ok (.iload 6, 2) := by decide +kernel
theorem dX9_right_49 : decode cX9_right 49 = .ok (.iaload, 1) := by decide +kernel
theorem dX9_right_50 : decode cX9_right 50 = .ok (.aload_n 0, 1) := by decide +kernel
theorem dX9_right_51 : decode cX9_right 51 = .ok (.getfield 28, 3) := by decide +kernel
theorem dX9_right_54 : decode cX9_right 54 = .ok (.iload 6, 2) := by decide +kernel
theorem dX9_right_56 : decode cX9_right 56 = .ok (.iaload, 1) := by decide +kernel
theorem dX9_right_57 : decode cX9_right 57 = .ok (.aload_n 0, 1) := by decide +kernel
theorem dX9_right_58 : decode cX9_right 58 = .ok (.iload 6, 2) := by decide +kernel
theorem dX9_right_60 : decode cX9_right 60 = .ok (.invokevirtual 214, 3) := by decide +kernel
theorem dX9_right_63 : decode cX9_right 63 = .ok (.isub, 1) := by decide +kernel
theorem dX9_right_64 : decode cX9_right 64 = .ok (.invokestatic 244, 3) := by decide +kernel
theorem dX9_right_67 : decode cX9_right 67 = .ok (.i2l, 1) := by decide +kernel
theorem dX9_right_68 : decode cX9_right 68 = .ok (.ladd, 1) := by decide +kernel
theorem dX9_right_69 : decode cX9_right 69 = .ok (.lstore 4, 2) := by decide +kernel
theorem dX9_right_71 : decode cX9_right 71 = .ok (.iinc 6 1, 3) := by decide +kernel
theorem dX9_right_74 : decode cX9_right 74 = .ok (.goto (-66), 3) := by decide +kernel
theorem dX9_right_77 : decode cX9_right 77 = .ok (.lload 4, 2) := by decide +kernel
theorem dX9_right_79 : decode cX9_right 79 = .ok (.lconst 0, 1) := by decide +kernel
theorem dX9_right_80 : decode cX9_right 80 = .ok (.lcmp, 1) := by decide +kernel
theorem dX9_right_81 : decode cX9_right 81 = .ok (.ifCond .ne 13, 3) := by decide +kernel
theorem dX9_right_84 : decode cX9_right 84 = .ok (.iload_n 1, 1) := by decide +kernel
theorem dX9_right_85 : decode cX9_right 85 = .ok (.ifCond .eq 7, 3) := by decide +kernel
theorem dX9_right_88 : decode cX9_right 88 = .ok (.lconst 1, 1) := by decide +kernel
theorem dX9_right_89 : decode cX9_right 89 = .ok (.goto 4, 3) := by decide +kernel
theorem dX9_right_92 : decode cX9_right 92 = .ok (.lconst 0, 1) := by decide +kernel
theorem dX9_right_93 : decode cX9_right 93 = .ok (.lreturn, 1) := by decide +kernel
theorem dX9_right_94 : decode cX9_right 94 = .ok (.aload_n 0, 1) := by decide +kernel
theorem dX9_right_95 : decode cX9_right 95 = .ok (.invokevirtual 247, 3) := by decide +kernel
theorem dX9_right_98 : decode cX9_right 98 = .ok (.i2l, 1) := by decide +kernel
theorem dX9_right_99 : decode cX9_right 99 = .ok (.lload_n 2, 1) := by decide +kernel
theorem dX9_right_100 : decode cX9_right 100 = .ok (.lmul, 1) := by decide +kernel
theorem dX9_right_101 : decode cX9_right 101 = .ok (.lstore 6, 2) := by decide +kernel
theorem dX9_right_103 : decode cX9_right 103 = .ok (.lload 6, 2) := by decide +kernel
theorem dX9_right_105 : decode cX9_right 105 = .ok (.lload 4, 2) := by decide +kernel
theorem dX9_right_107 : decode cX9_right 107 = .ok (.invokestatic 251, 3) := by decide +kernel
theorem dX9_right_110 : decode cX9_right 110 = .ok (.lstore 8, 2) := by decide +kernel
theorem dX9_right_112 : decode cX9_right 112 = .ok (.iload_n 1, 1) := by decide +kernel
theorem dX9_right_113 : decode cX9_right 113 = .ok (.ifCond .eq 11, 3) := by decide +kernel
theorem dX9_right_116 : decode cX9_right 116 = .ok (.lload 4, 2) := by decide +kernel
theorem dX9_right_118 : decode cX9_right 118 = .ok (.lload 8, 2) := by decide +kernel
theorem dX9_right_120 : decode cX9_right 120 = .ok (.ldiv, 1) := by decide +kernel
theorem dX9_right_121 : decode cX9_right 121 = .ok (.goto 8, 3) := by decide +kernel
theorem dX9_right_124 : decode cX9_right 124 = .ok (.lload 6, 2) := by decide +kernel
theorem dX9_right_126 : decode cX9_right 126 = .ok (.lload 8, 2) := by decide +kernel
theorem dX9_right_128 : decode cX9_right 128 = .ok (.ldiv, 1) := by decide +kernel
theorem dX9_right_129 : decode cX9_right 129 = .ok (.lreturn, 1) := by decide +kernel
theorem dX9_heap_0 : decode cX9_heap 0 = .ok (.iconst 0, 1) := by decide +kernel
theorem dX9_heap_1 : decode cX9_heap 1 = .ok (.istore_n 1, 1) := by decide +kernel
theorem dX9_heap_2 : decode cX9_heap 2 = .ok (.iconst 0, 1) := by decide +kernel
theorem dX9_heap_3 : decode cX9_heap 3 = .ok (.istore_n 2, 1) := by decide +kernel
theorem dX9_heap_4 : decode cX9_heap 4 = .ok (.iconst 0, 1) := by decide +kernel
theorem dX9_heap_5 : decode cX9_heap 5 = .ok (.istore_n 3, 1) := by decide +kernel
theorem dX9_heap_6 : decode cX9_heap 6 = .ok (.iload_n 3, 1) := by decide +kernel
theorem dX9_heap_7 : decode cX9_heap 7 = .ok (.bipush 12, 2) := by decide +kernel
theorem dX9_heap_9 : decode cX9_heap 9 = .ok (.aload_n 0, 1) := by decide +kernel
theorem dX9_heap_10 : decode cX9_heap 10 = .ok (.getfield 139, 3) := by decide +kernel
theorem dX9_heap_13 : decode cX9_heap 13 = .ok (.imul, 1) := by decide +kernel
theorem dX9_heap_14 : decode cX9_heap 14 = .ok (.if_icmp .ge 78, 3) := by decide +kernel
theorem dX9_heap_17 : decode cX9_heap 17 = .ok (.iload_n 3, 1) := by decide +kernel
theorem dX9_heap_18 : decode cX9_heap 18 = .ok (.bipush 12, 2) := by decide +kernel
theorem dX9_heap_20 : decode cX9_heap 20 = .ok (.irem, 1) := by decide +kernel
theorem dX9_heap_21 : decode cX9_heap 21 = .ok (.aload_n 0, 1) := by decide +kernel
theorem dX9_heap_22 : decode cX9_heap 22 = .ok (.getfield 28, 3) := by decide +kernel
theorem dX9_heap_25 : decode cX9_heap 25 = .ok (.iload_n 3, 1) := by decide +kernel
theorem dX9_heap_26 : decode cX9_heap 26 = .ok (.bipush 12, 2) := by decide +kernel
theorem dX9_heap_28 : decode cX9_heap 28 = .ok (.idiv, 1) := by decide +kernel
theorem dX9_heap_29 : decode cX9_heap 29 = .ok (.iaload, 1) := by decide +kernel
theorem dX9_heap_30 : decode cX9_heap 30 = .ok (.if_icmp .ge 56, 3) := by decide +kernel
theorem dX9_heap_33 : decode cX9_heap 33 = .ok (.aload_n 0, 1) := by decide +kernel
theorem dX9_heap_34 : decode cX9_heap 34 = .ok (.getfield 50, 3) := by decide +kernel
theorem dX9_heap_37 : decode cX9_heap 37 = .ok (.iload_n 3, 1) := by decide +kernel
theorem dX9_heap_38 : decode cX9_heap 38 = .ok (.baload, 1) := by decide +kernel
theorem dX9_heap_39 : decode cX9_heap 39 = .ok (.ifCond .ne 47, 3) := by decide +kernel
theorem dX9_heap_42 : decode cX9_heap 42 = .ok (.aload_n 0, 1) := by decide +kernel
theorem dX9_heap_43 : decode cX9_heap 43 = .ok (.getfield 31, 3) := by decide +kernel
theorem dX9_heap_46 : decode cX9_heap 46 = .ok (.iload_n 3, 1) := by decide +kernel
theorem dX9_heap_47 : decode cX9_heap 47 = .ok (.iaload, 1) := by decide +kernel
theorem dX9_heap_48 : decode cX9_heap 48 = .ok (.i2l, 1) := by decide +kernel
theorem dX9_heap_49 : decode cX9_heap 49 = .ok (.ldc2_w 255, 3) := by decide +kernel
theorem dX9_heap_52 : decode cX9_heap 52 = .ok (.ldc2_w 257, 3) := by decide +kernel
theorem dX9_heap_55 : decode cX9_heap 55 = .ok (.invokestatic 152, 3) := by decide +kernel
theorem dX9_heap_58 : decode cX9_heap 58 = .ok (.ifCond .ne 6, 3) := by decide +kernel
theorem dX9_heap_61 : decode cX9_heap 61 = .ok (.goto 25, 3) := by decide +kernel
theorem dX9_heap_64 : decode cX9_heap 64 = .ok (.iinc 1 1, 3) := by decide +kernel
theorem dX9_heap_67 : decode cX9_heap 67 = .ok (.iload_n 2, 1) := by decide +kernel
theorem dX9_heap_68 : decode cX9_heap 68 = .ok (.aload_n 0, 1) := by decide +kernel
theorem dX9_heap_69 : decode cX9_heap 69 = .ok (.getfield 31, 3) := by decide +kernel
theorem dX9_heap_72 : decode cX9_heap 72 = .ok (.iload_n 3, 1) := by decide +kernel
theorem dX9_heap_73 : decode cX9_heap 73 = .ok (.iaload, 1) := by decide +kernel
theorem dX9_heap_74 : decode cX9_heap 74 = .ok (.iconst 5, 1) := by decide +kernel
theorem dX9_heap_75 : decode cX9_heap 75 = .ok (.irem, 1) := by decide +kernel
theorem dX9_heap_76 : decode cX9_heap 76 = .ok (.ifCond .ne 7, 3) := by decide +kernel
theorem dX9_heap_79 : decode cX9_heap 79 = .ok (.iconst 1, 1) := by decide +kernel
theorem dX9_heap_80 : decode cX9_heap 80 = .ok (.goto 4, 3) := by decide +kernel
theorem dX9_heap_83 : decode cX9_heap 83 = .ok (.iconst 0, 1) := by decide +kernel
theorem dX9_heap_84 : decode cX9_heap 84 = .ok (.iadd, 1) := by decide +kernel
theorem dX9_heap_85 : decode cX9_heap 85 = .ok (.istore_n 2, 1) := by decide +kernel
theorem dX9_heap_86 : decode cX9_heap 86 = .ok (.iinc 3 1, 3) := by decide +kernel
theorem dX9_heap_89 : decode cX9_heap 89 = .ok (.goto (-83), 3) := by decide +kernel
theorem dX9_heap_92 : decode cX9_heap 92 = .ok (.iload_n 1, 1) := by decide +kernel
theorem dX9_heap_93 : decode cX9_heap 93 = .ok (.ifCond .ne 8, 3) := by decide +kernel
theorem dX9_heap_96 : decode cX9_heap 96 = .ok (.bipush 100, 2) := by decide +kernel
theorem dX9_heap_98 : decode cX9_heap 98 = .ok (.goto 10, 3) := by decide +kernel
theorem dX9_heap_101 : decode cX9_heap 101 = .ok (.sipush 500, 3) := by decide +kernel
theorem dX9_heap_104 : decode cX9_heap 104 = .ok (.iload_n 2, 1) := by decide +kernel
theorem dX9_heap_105 : decode cX9_heap 105 = .ok (.imul, 1) := by decide +kernel
theorem dX9_heap_106 : decode cX9_heap 106 = .ok (.iload_n 1, 1) := by decide +kernel
theorem dX9_heap_107 : decode cX9_heap 107 = .ok (.idiv, 1) := by decide +kernel
theorem dX9_heap_108 : decode cX9_heap 108 = .ok (.ireturn, 1) := by decide +kernel
theorem dX9_finds_0 : decode cX9_finds 0 = .ok (.iconst 0, 1) := by decide +kernel
theorem dX9_finds_1 : decode cX9_finds 1 = .ok (.istore 6, 2) := by decide +kernel
theorem dX9_finds_3 : decode cX9_finds 3 = .ok (.iload 6, 2) := by decide +kernel
theorem dX9_finds_5 : decode cX9_finds 5 = .ok (.bipush 10, 2) := by decide +kernel
theorem dX9_finds_7 : decode cX9_finds 7 = .ok (.if_icmp .ge 17, 3) := by decide +kernel
theorem dX9_finds_10 : decode cX9_finds 10 = .ok (.aload_n 0, 1) := by decide +kernel
theorem dX9_finds_11 : decode cX9_finds 11 = .ok (.getfield 130, 3) := by decide +kernel
theorem dX9_finds_14 : decode cX9_finds 14 = .ok (.iload 6, 2) := by decide +kernel
theorem dX9_finds_16 : decode cX9_finds 16 = .ok (.iconst (-1), 1) := by decide +kernel
theorem dX9_finds_17 : decode cX9_finds 17 = .ok (.iastore, 1) := by decide +kernel
theorem dX9_finds_18 : decode cX9_finds 18 = .ok (.iinc 6 1, 3) := by decide +kernel
theorem dX9_finds_21 : decode cX9_finds 21 = .ok (.goto (-18), 3) := by decide +kernel
theorem dX9_finds_24 : decode cX9_finds 24 = .ok (.aload_n 0, 1) := by decide +kernel
theorem dX9_finds_25 : decode cX9_finds 25 = .ok (.getfield 130, 3) := by decide +kernel
theorem dX9_finds_28 : decode cX9_finds 28 = .ok (.iload_n 1, 1) := by decide +kernel
theorem dX9_finds_29 : decode cX9_finds 29 = .ok (.iload_n 1, 1) := by decide +kernel
theorem dX9_finds_30 : decode cX9_finds 30 = .ok (.iastore, 1) := by decide +kernel
theorem dX9_finds_31 : decode cX9_finds 31 = .ok (.aload_n 0, 1) := by decide +kernel
theorem dX9_finds_32 : decode cX9_finds 32 = .ok (.getfield 133, 3) := by decide +kernel
theorem dX9_finds_35 : decode cX9_finds 35 = .ok (.iconst 0, 1) := by decide +kernel
theorem dX9_finds_36 : decode cX9_finds 36 = .ok (.iload_n 1, 1) := by decide +kernel
theorem dX9_finds_37 : decode cX9_finds 37 = .ok (.iastore, 1) := by decide +kernel
theorem dX9_finds_38 : decode cX9_finds 38 = .ok (.iconst 1, 1) := by decide +kernel
theorem dX9_finds_39 : decode cX9_finds 39 = .ok (.istore 6, 2) := by decide +kernel
theorem dX9_finds_41 : decode cX9_finds 41 = .ok (.iconst 0, 1) := by decide +kernel
theorem dX9_finds_42 : decode cX9_finds 42 = .ok (.istore 7, 2) := by decide +kernel
theorem dX9_finds_44 : decode cX9_finds 44 = .ok (.iload 7, 2) := by decide +kernel
theorem dX9_finds_46 : decode cX9_finds 46 = .ok (.iload 6, 2) := by decide +kernel
theorem dX9_finds_48 : decode cX9_finds 48 = .ok (.if_icmp .ge 152, 3) := by decide +kernel
theorem dX9_finds_51 : decode cX9_finds 51 = .ok (.aload_n 0, 1) := by decide +kernel
theorem dX9_finds_52 : decode cX9_finds 52 = .ok (.getfield 133, 3) := by decide +kernel
theorem dX9_finds_55 : decode cX9_finds 55 = .ok (.iload 7, 2) := by decide +kernel
theorem dX9_finds_57 : decode cX9_finds 57 = .ok (.iaload, 1) := by decide +kernel
theorem dX9_finds_58 : decode cX9_finds 58 = .ok (.istore 8, 2) := by decide +kernel
theorem dX9_finds_60 : decode cX9_finds 60 = .ok (.iload 8, 2) := by decide +kernel
theorem dX9_finds_62 : decode cX9_finds 62 = .ok (.bipush 6, 2) := by decide +kernel
theorem dX9_finds_64 : decode cX9_finds 64 = .ok (.if_icmp .ge 8, 3) := by decide +kernel
theorem dX9_finds_67 : decode cX9_finds 67 = .ok (.bipush 6, 2) := by decide +kernel
theorem dX9_finds_69 : decode cX9_finds 69 = .ok (.goto 4, 3) := by decide +kernel
theorem dX9_finds_72 : decode cX9_finds 72 = .ok (.iconst 0, 1) := by decide +kernel
theorem dX9_finds_73 : decode cX9_finds 73 = .ok (.istore 9, 2) := by decide +kernel
theorem dX9_finds_75 : decode cX9_finds 75 = .ok (.iload 9, 2) := by decide +kernel
theorem dX9_finds_77 : decode cX9_finds 77 = .ok (.iload 8, 2) := by decide +kernel
theorem dX9_finds_79 : decode cX9_finds 79 = .ok (.bipush 6, 2) := by decide +kernel
theorem dX9_finds_81 : decode cX9_finds 81 = .ok (.if_icmp .ge 8, 3) := by decide +kernel
theorem dX9_finds_84 : decode cX9_finds 84 = .ok (.bipush 10, 2) := by decide +kernel
theorem dX9_finds_86 : decode cX9_finds 86 = .ok (.goto 5, 3) := by decide +kernel
theorem dX9_finds_89 : decode cX9_finds 89 = .ok (.bipush 6, 2) := by decide +kernel
theorem dX9_finds_91 : decode cX9_finds 91 = .ok (.if_icmp .ge 103, 3) := by decide +kernel
theorem dX9_finds_94 : decode cX9_finds 94 = .ok (.iload 8, 2) := by decide +kernel
theorem dX9_finds_96 : decode cX9_finds 96 = .ok (.bipush 6, 2) := by decide +kernel
theorem dX9_finds_98 : decode cX9_finds 98 = .ok (.if_icmp .ge 16, 3) := by decide +kernel
theorem dX9_finds_101 : decode cX9_finds 101 = .ok (.iconst 4, 1) := by decide +kernel
theorem dX9_finds_102 : decode cX9_finds 102 = .ok (.iload 8, 2) := by decide +kernel
theorem dX9_finds_104 : decode cX9_finds 104 = .ok (.imul, 1) := by decide +kernel
theorem dX9_finds_105 : decode cX9_finds 105 = .ok (.iload 9, 2) := by decide +kernel
theorem dX9_finds_107 : decode cX9_finds 107 = .ok (.iadd, 1) := by decide +kernel
theorem dX9_finds_108 : decode cX9_finds 108 = .ok (.bipush 6, 2) := by decide +kernel
theorem dX9_finds_110 : decode cX9_finds 110 = .ok (.isub, 1) := by decide +kernel
theorem dX9_finds_111 : decode cX9_finds 111 = .ok (.goto 13, 3) := by decide +kernel
theorem dX9_finds_114 : decode cX9_finds 114 = .ok (.iconst 4, 1) := by decide +kernel
theorem dX9_finds_115 : decode cX9_finds 115 = .ok (.iload 9, 2) := by decide +kernel
theorem dX9_finds_117 : decode cX9_finds 117 = .ok (.imul, 1) := by decide +kernel
theorem dX9_finds_118 : decode cX9_finds 118 = .ok (.iload 8, 2) := by decide +kernel
theorem dX9_finds_120 : decode cX9_finds 120 = .ok (.iadd, 1) := by decide +kernel
theorem dX9_finds_121 : decode cX9_finds 121 = .ok (.bipush 6, 2) := by decide +kernel
theorem dX9_finds_123 : decode cX9_finds 123 = .ok (.isub, 1) := by decide +kernel
theorem dX9_finds_124 : decode cX9_finds 124 = .ok (.istore 10, 2) := by decide +kernel
theorem dX9_finds_126 : decode cX9_finds 126 = .ok (.aload_n 0, 1) := by decide +kernel
theorem dX9_finds_127 : decode cX9_finds 127 = .ok (.getfield 130, 3) := by decide +kernel
theorem dX9_finds_130 : decode cX9_finds 130 = .ok (.iload 9, 2) := by decide +kernel
theorem dX9_finds_132 : decode cX9_finds 132 = .ok (.iaload, 1) := by decide +kernel
theorem dX9_finds_133 : decode cX9_finds 133 = .ok (.ifCond .ge 55, 3) := by decide +kernel
theorem dX9_finds_136 : decode cX9_finds 136 = .ok (.iload 10, 2) := by decide +kernel
theorem dX9_finds_138 : decode cX9_finds 138 = .ok (.iload_n 3, 1) := by decide +kernel
theorem dX9_finds_139 : decode cX9_finds 139 = .ok (.if_icmp .eq 49, 3) := by decide +kernel
theorem dX9_finds_142 : decode cX9_finds 142 = .ok (.aload 4, 2) := by decide +kernel
theorem dX9_finds_144 : decode cX9_finds 144 = .ok (.iload 10, 2) := by decide +kernel
theorem dX9_finds_146 : decode cX9_finds 146 = .ok (.baload, 1) := by decide +kernel
theorem dX9_finds_147 : decode cX9_finds 147 = .ok (.ifCond .eq 41, 3) := by decide +kernel
theorem dX9_finds_150 : decode cX9_finds 150 = .ok (.iload 8, 2) := by decide +kernel
theorem dX9_finds_152 : decode cX9_finds 152 = .ok (.iconst 5, 1) := by decide +kernel
theorem dX9_finds_153 : decode cX9_finds 153 = .ok (.if_icmp .le 14, 3) := by decide +kernel
theorem dX9_finds_156 : decode cX9_finds 156 = .ok (.aload 5, 2) := by decide +kernel
theorem dX9_finds_158 : decode cX9_finds 158 = .ok (.iload 10, 2) := by decide +kernel
theorem dX9_finds_160 : decode cX9_finds 160 = .ok (.iaload, 1) := by decide +kernel
theorem dX9_finds_161 : decode cX9_finds 161 = .ok (.ifCond .ne 6, 3) := by decide +kernel
theorem dX9_finds_164 : decode cX9_finds 164 = .ok (.goto 24, 3) := by decide +kernel
theorem dX9_finds_167 : decode cX9_finds 167 = .ok (.aload_n 0, 1) := by decide +kernel
theorem dX9_finds_168 : decode cX9_finds 168 = .ok (.getfield 130, 3) := by decide +kernel
theorem dX9_finds_171 : decode cX9_finds 171 = .ok (.iload 9, 2) := by decide +kernel
theorem dX9_finds_173 : decode cX9_finds 173 = .ok (.iload 8, 2) := by decide +kernel
theorem dX9_finds_175 : decode cX9_finds 175 = .ok (.iastore, 1) := by decide +kernel
theorem dX9_finds_176 : decode cX9_finds 176 = .ok (.aload_n 0, 1) := by decide +kernel
theorem dX9_finds_177 : decode cX9_finds 177 = .ok (.getfield 133, 3) := by decide +kernel
theorem dX9_finds_180 : decode cX9_finds 180 = .ok (.iload 6, 2) := by decide +kernel
theorem dX9_finds_182 : decode cX9_finds 182 = .ok (.iload 9, 2) := by decide +kernel
theorem dX9_finds_184 : decode cX9_finds 184 = .ok (.iastore, 1) := by decide +kernel
theorem dX9_finds_185 : decode cX9_finds 185 = .ok (.iinc 6 1, 3) := by decide +kernel
theorem dX9_finds_188 : decode cX9_finds 188 = .ok (.iinc 9 1, 3) := by decide +kernel
theorem dX9_finds_191 : decode cX9_finds 191 = .ok (.goto (-116), 3) := by decide +kernel
theorem dX9_finds_194 : decode cX9_finds 194 = .ok (.iinc 7 1, 3) := by decide +kernel
theorem dX9_finds_197 : decode cX9_finds 197 = .ok (.goto (-153), 3) := by decide +kernel
theorem dX9_finds_200 : decode cX9_finds 200 = .ok (.aload_n 0, 1) := by decide +kernel
theorem dX9_finds_201 : decode cX9_finds 201 = .ok (.getfield 130, 3) := by decide +kernel
theorem dX9_finds_204 : decode cX9_finds 204 = .ok (.iload_n 2, 1) := by decide +kernel
theorem dX9_finds_205 : decode cX9_finds 205 = .ok (.iaload, 1) := by decide +kernel
theorem dX9_finds_206 : decode cX9_finds 206 = .ok (.ifCond .lt 7, 3) := by decide +kernel
theorem dX9_finds_209 : decode cX9_finds 209 = .ok (.iconst 1, 1) := by decide +kernel
theorem dX9_finds_210 : decode cX9_finds 210 = .ok (.goto 4, 3) := by decide +kernel
theorem dX9_finds_213 : decode cX9_finds 213 = .ok (.iconst 0, 1) := by decide +kernel
theorem dX9_finds_214 : decode cX9_finds 214 = .ok (.ireturn, 1) := by decide +kernel
theorem dX9_canRise_0 : decode cX9_canRise 0 = .ok (.aload_n 0, 1) := by decide +kernel
theorem dX9_canRise_1 : decode cX9_canRise 1 = .ok (.bipush 6, 2) := by decide +kernel
theorem dX9_canRise_3 : decode cX9_canRise 3 = .ok (.iload_n 1, 1) := by decide +kernel
theorem dX9_canRise_4 : decode cX9_canRise 4 = .ok (.iconst 4, 1) := by decide +kernel
theorem dX9_canRise_5 : decode cX9_canRise 5 = .ok (.irem, 1) := by decide +kernel
theorem dX9_canRise_6 : decode cX9_canRise 6 = .ok (.iadd, 1) := by decide +kernel
theorem dX9_canRise_7 : decode cX9_canRise 7 = .ok (.iload_n 1, 1) := by decide +kernel
theorem dX9_canRise_8 : decode cX9_canRise 8 = .ok (.iconst 4, 1) := by decide +kernel
theorem dX9_canRise_9 : decode cX9_canRise 9 = .ok (.idiv, 1) := by decide +kernel
theorem dX9_canRise_10 : decode cX9_canRise 10 = .ok (.iload_n 1, 1) := by decide +kernel
theorem dX9_canRise_11 : decode cX9_canRise 11 = .ok (.aload_n 2, 1) := by decide +kernel
theorem dX9_canRise_12 : decode cX9_canRise 12 = .ok (.aload_n 3, 1) := by decide +kernel
theorem dX9_canRise_13 : decode cX9_canRise 13 = .ok (.invokevirtual 259, 3) := by decide +kernel
theorem dX9_canRise_16 : decode cX9_canRise 16 = .ok (.ireturn, 1) := by decide +kernel
theorem dX9_canFall_0 : decode cX9_canFall 0 = .ok (.aload_n 3, 1) := by decide +kernel
theorem dX9_canFall_1 : decode cX9_canFall 1 = .ok (.iload_n 1, 1) := by decide +kernel
theorem dX9_canFall_2 : decode cX9_canFall 2 = .ok (.iaload, 1) := by decide +kernel
theorem dX9_canFall_3 : decode cX9_canFall 3 = .ok (.ifCond .le 26, 3) := by decide +kernel
theorem dX9_canFall_6 : decode cX9_canFall 6 = .ok (.aload_n 0, 1) := by decide +kernel
theorem dX9_canFall_7 : decode cX9_canFall 7 = .ok (.iload_n 1, 1) := by decide +kernel
theorem dX9_canFall_8 : decode cX9_canFall 8 = .ok (.iconst 4, 1) := by decide +kernel
theorem dX9_canFall_9 : decode cX9_canFall 9 = .ok (.idiv, 1) := by decide +kernel
theorem dX9_canFall_10 : decode cX9_canFall 10 = .ok (.bipush 6, 2) := by decide +kernel
theorem dX9_canFall_12 : decode cX9_canFall 12 = .ok (.iload_n 1, 1) := by decide +kernel
theorem dX9_canFall_13 : decode cX9_canFall 13 = .ok (.iconst 4, 1) := by decide +kernel
theorem dX9_canFall_14 : decode cX9_canFall 14 = .ok (.irem, 1) := by decide +kernel
theorem dX9_canFall_15 : decode cX9_canFall 15 = .ok (.iadd, 1) := by decide +kernel
theorem dX9_canFall_16 : decode cX9_canFall 16 = .ok (.iload_n 1, 1) := by decide +kernel
theorem dX9_canFall_17 : decode cX9_canFall 17 = .ok (.aload_n 2, 1) := by decide +kernel
theorem dX9_canFall_18 : decode cX9_canFall 18 = .ok (.aload_n 3, 1) := by decide +kernel
theorem dX9_canFall_19 : decode cX9_canFall 19 = .ok (.invokevirtual 259, 3) := by decide +kernel
theorem dX9_canFall_22 : decode cX9_canFall 22 = .ok (.ifCond .eq 7, 3) := by decide +kernel
theorem dX9_canFall_25 : decode cX9_canFall 25 = .ok (.iconst 1, 1) := by decide +kernel
theorem dX9_canFall_26 : decode cX9_canFall 26 = .ok (.goto 4, 3) := by decide +kernel
theorem dX9_canFall_29 : decode cX9_canFall 29 = .ok (.iconst 0, 1) := by decide +kernel
theorem dX9_canFall_30 : decode cX9_canFall 30 = .ok (.ireturn, 1) := by decide +kernel
theorem dX9_isSmall_0 : decode cX9_isSmall 0 = .ok (.aload_n 0, 1) := by decide +kernel
theorem dX9_isSmall_1 : decode cX9_isSmall 1 = .ok (.getfield 118, 3) := by decide +kernel
theorem dX9_isSmall_4 : decode cX9_isSmall 4 = .ok (.iload_n 1, 1) := by decide +kernel
theorem dX9_isSmall_5 : decode cX9_isSmall 5 = .ok (.iaload, 1) := by decide +kernel
theorem dX9_isSmall_6 : decode cX9_isSmall 6 = .ok (.ifCond .le 20, 3) := by decide +kernel
theorem dX9_isSmall_9 : decode cX9_isSmall 9 = .ok (.aload_n 0, 1) := by decide +kernel
theorem dX9_isSmall_10 : decode cX9_isSmall 10 = .ok (.getfield 118, 3) := by decide +kernel
theorem dX9_isSmall_13 : decode cX9_isSmall 13 = .ok (.iload_n 1, 1) := by decide +kernel
theorem dX9_isSmall_14 : decode cX9_isSmall 14 = .ok (.iaload, 1) := by decide +kernel
theorem dX9_isSmall_15 : decode cX9_isSmall 15 = .ok (.aload_n 0, 1) := by decide +kernel
theorem dX9_isSmall_16 : decode cX9_isSmall 16 = .ok (.getfield 69, 3) := by decide +kernel
theorem dX9_isSmall_19 : decode cX9_isSmall 19 = .ok (.if_icmp .ge 7, 3) := by decide +kernel
theorem dX9_isSmall_22 : decode cX9_isSmall 22 = .ok (.iconst 1, 1) := by decide +kernel
theorem dX9_isSmall_23 : decode cX9_isSmall 23 = .ok (.goto 4, 3) := by decide +kernel
theorem dX9_isSmall_26 : decode cX9_isSmall 26 = .ok (.iconst 0, 1) := by decide +kernel
theorem dX9_isSmall_27 : decode cX9_isSmall 27 = .ok (.ireturn, 1) := by decide +kernel
theorem dX9_isSafe_0 : decode cX9_isSafe 0 = .ok (.iconst 0, 1) := by decide +kernel
theorem dX9_isSafe_1 : decode cX9_isSafe 1 = .ok (.istore_n 1, 1) := by decide +kernel
theorem dX9_isSafe_2 : decode cX9_isSafe 2 = .ok (.iload_n 1, 1) := by decide +kernel
theorem dX9_isSafe_3 : decode cX9_isSafe 3 = .ok (.bipush 24, 2) := by decide +kernel
theorem dX9_isSafe_5 : decode cX9_isSafe 5 = .ok (.if_icmp .ge 51, 3) := by decide +kernel
theorem dX9_isSafe_8 : decode cX9_isSafe 8 = .ok (.aload_n 0, 1) := by decide +kernel
theorem dX9_isSafe_9 : decode cX9_isSafe 9 = .ok (.iload_n 1, 1) := by decide +kernel
theorem dX9_isSafe_10 : decode cX9_isSafe 10 = .ok (.invokevirtual 263, 3) := by decide +kernel
theorem dX9_isSafe_13 : decode cX9_isSafe 13 = .ok (.ifCond .eq 37, 3) := by decide +kernel
theorem dX9_isSafe_16 : decode cX9_isSafe 16 = .ok (.aload_n 0, 1) := by decide +kernel
theorem dX9_isSafe_17 : decode cX9_isSafe 17 = .ok (.iload_n 1, 1) := by decide +kernel
theorem dX9_isSafe_18 : decode cX9_isSafe 18 = .ok (.aload_n 0, 1) := by decide +kernel
theorem dX9_isSafe_19 : decode cX9_isSafe 19 = .ok (.getfield 127, 3) := by decide +kernel
theorem dX9_isSafe_22 : decode cX9_isSafe 22 = .ok (.aload_n 0, 1) := by decide +kernel
theorem dX9_isSafe_23 : decode cX9_isSafe 23 = .ok (.getfield 118, 3) := by decide +kernel
theorem dX9_isSafe_26 : decode cX9_isSafe 26 = .ok (.invokevirtual 266, 3) := by decide +kernel
theorem dX9_isSafe_29 : decode cX9_isSafe 29 = .ok (.ifCond .ne 21, 3) := by decide +kernel
theorem dX9_isSafe_32 : decode cX9_isSafe 32 = .ok (.aload_n 0, 1) := by decide +kernel
theorem dX9_isSafe_33 : decode cX9_isSafe 33 = .ok (.iload_n 1, 1) := by decide +kernel
theorem dX9_isSafe_34 : decode cX9_isSafe 34 = .ok (.aload_n 0, 1) := by decide +kernel
theorem dX9_isSafe_35 : decode cX9_isSafe 35 = .ok (.getfield 127, 3) := by decide +kernel
theorem dX9_isSafe_38 : decode cX9_isSafe 38 = .ok (.aload_n 0, 1) := by decide +kernel
theorem dX9_isSafe_39 : decode cX9_isSafe 39 = .ok (.getfield 118, 3) := by decide +kernel
theorem dX9_isSafe_42 : decode cX9_isSafe 42 = .ok (.invokevirtual 270, 3) := by decide +kernel
theorem dX9_isSafe_45 : decode cX9_isSafe 45 = .ok (.ifCond .ne 5, 3) := by decide +kernel
theorem dX9_isSafe_48 : decode cX9_isSafe 48 = .ok (.iconst 0, 1) := by decide +kernel
theorem dX9_isSafe_49 : decode cX9_isSafe 49 = .ok (.ireturn, 1) := by decide +kernel
theorem dX9_isSafe_50 : decode cX9_isSafe 50 = .ok (.iinc 1 1, 3) := by decide +kernel
theorem dX9_isSafe_53 : decode cX9_isSafe 53 = .ok (.goto (-51), 3) := by decide +kernel
theorem dX9_isSafe_56 : decode cX9_isSafe 56 = .ok (.iconst 1, 1) := by decide +kernel
theorem dX9_isSafe_57 : decode cX9_isSafe 57 = .ok (.ireturn, 1) := by decide +kernel
theorem dX9_hides_0 : decode cX9_hides 0 = .ok (.iconst 0, 1) := by decide +kernel
theorem dX9_hides_1 : decode cX9_hides 1 = .ok (.istore_n 2, 1) := by decide +kernel
theorem dX9_hides_2 : decode cX9_hides 2 = .ok (.iload_n 2, 1) := by decide +kernel
theorem dX9_hides_3 : decode cX9_hides 3 = .ok (.bipush 24, 2) := by decide +kernel
theorem dX9_hides_5 : decode cX9_hides 5 = .ok (.if_icmp .ge 20, 3) := by decide +kernel
theorem dX9_hides_8 : decode cX9_hides 8 = .ok (.aload_n 0, 1) := by decide +kernel
theorem dX9_hides_9 : decode cX9_hides 9 = .ok (.getfield 127, 3) := by decide +kernel
theorem dX9_hides_12 : decode cX9_hides 12 = .ok (.iload_n 2, 1) := by decide +kernel
theorem dX9_hides_13 : decode cX9_hides 13 = .ok (.aload_n 0, 1) := by decide +kernel
theorem dX9_hides_14 : decode cX9_hides 14 = .ok (.iload_n 2, 1) := by decide +kernel
theorem dX9_hides_15 : decode cX9_hides 15 = .ok (.invokevirtual 263, 3) := by decide +kernel
theorem dX9_hides_18 : decode cX9_hides 18 = .ok (.bastore, 1) := by decide +kernel
theorem dX9_hides_19 : decode cX9_hides 19 = .ok (.iinc 2 1, 3) := by decide +kernel
theorem dX9_hides_22 : decode cX9_hides 22 = .ok (.goto (-20), 3) := by decide +kernel
theorem dX9_hides_25 : decode cX9_hides 25 = .ok (.iconst 0, 1) := by decide +kernel
theorem dX9_hides_26 : decode cX9_hides 26 = .ok (.istore_n 2, 1) := by decide +kernel
theorem dX9_hides_27 : decode cX9_hides 27 = .ok (.iload_n 2, 1) := by decide +kernel
theorem dX9_hides_28 : decode cX9_hides 28 = .ok (.iload_n 1, 1) := by decide +kernel
theorem dX9_hides_29 : decode cX9_hides 29 = .ok (.if_icmp .ge 21, 3) := by decide +kernel
theorem dX9_hides_32 : decode cX9_hides 32 = .ok (.aload_n 0, 1) := by decide +kernel
theorem dX9_hides_33 : decode cX9_hides 33 = .ok (.getfield 127, 3) := by decide +kernel
theorem dX9_hides_36 : decode cX9_hides 36 = .ok (.aload_n 0, 1) := by decide +kernel
theorem dX9_hides_37 : decode cX9_hides 37 = .ok (.getfield 136, 3) := by decide +kernel
theorem dX9_hides_40 : decode cX9_hides 40 = .ok (.iload_n 2, 1) := by decide +kernel
theorem dX9_hides_41 : decode cX9_hides 41 = .ok (.iaload, 1) := by decide +kernel
theorem dX9_hides_42 : decode cX9_hides 42 = .ok (.iconst 1, 1) := by decide +kernel
theorem dX9_hides_43 : decode cX9_hides 43 = .ok (.bastore, 1) := by decide +kernel
theorem dX9_hides_44 : decode cX9_hides 44 = .ok (.iinc 2 1, 3) := by decide +kernel
theorem dX9_hides_47 : decode cX9_hides 47 = .ok (.goto (-20), 3) := by decide +kernel
theorem dX9_hides_50 : decode cX9_hides 50 = .ok (.return_, 1) := by decide +kernel
theorem dX9_areOthers_0 : decode cX9_areOthers 0 = .ok (.iconst 0, 1) := by decide +kernel
theorem dX9_areOthers_1 : decode cX9_areOthers 1 = .ok (.istore_n 2, 1) := by decide +kernel
theorem dX9_areOthers_2 : decode cX9_areOthers 2 = .ok (.iload_n 2, 1) := by decide +kernel
theorem dX9_areOthers_3 : decode cX9_areOthers 3 = .ok (.iload_n 1, 1) := by decide +kernel
theorem dX9_areOthers_4 : decode cX9_areOthers 4 = .ok (.if_icmp .ge 24, 3) := by decide +kernel
theorem dX9_areOthers_7 : decode cX9_areOthers 7 = .ok (.aload_n 0, 1) := by decide +kernel
theorem dX9_areOthers_8 : decode cX9_areOthers 8 = .ok (.aload_n 0, 1) := by decide +kernel
theorem dX9_areOthers_9 : decode cX9_areOthers 9 = .ok (.getfield 136, 3) := by decide +kernel
theorem dX9_areOthers_12 : decode cX9_areOthers 12 = .ok (.iload_n 2, 1) := by decide +kernel
theorem dX9_areOthers_13 : decode cX9_areOthers 13 = .ok (.iaload, 1) := by decide +kernel
theorem dX9_areOthers_14 : decode cX9_areOthers 14 = .ok (.invokevirtual 263, 3) := by decide +kernel
theorem dX9_areOthers_17 : decode cX9_areOthers 17 = .ok (.ifCond .eq 5, 3) := by decide +kernel
theorem dX9_areOthers_20 : decode cX9_areOthers 20 = .ok (.iconst 0, 1) := by decide +kernel
theorem dX9_areOthers_21 : decode cX9_areOthers 21 = .ok (.ireturn, 1) := by decide +kernel
theorem dX9_areOthers_22 : decode cX9_areOthers 22 = .ok (.iinc 2 1, 3) := by decide +kernel
theorem dX9_areOthers_25 : decode cX9_areOthers 25 = .ok (.goto (-23), 3) := by decide +kernel
theorem dX9_areOthers_28 : decode cX9_areOthers 28 = .ok (.iconst 1, 1) := by decide +kernel
theorem dX9_areOthers_29 : decode cX9_areOthers 29 = .ok (.ireturn, 1) := by decide +kernel
theorem dX9_nextOthers_0 : decode cX9_nextOthers 0 = .ok (.iload_n 1, 1) := by decide +kernel
theorem dX9_nextOthers_1 : decode cX9_nextOthers 1 = .ok (.iconst 1, 1) := by decide +kernel
theorem dX9_nextOthers_2 : decode cX9_nextOthers 2 = .ok (.isub, 1) := by decide +kernel
theorem dX9_nextOthers_3 : decode cX9_nextOthers 3 = .ok (.istore_n 2, 1) := by decide +kernel
theorem dX9_nextOthers_4 : decode cX9_nextOthers 4 = .ok (.iload_n 2, 1) := by decide +kernel
theorem dX9_nextOthers_5 : decode cX9_nextOthers 5 = .ok (.ifCond .lt 24, 3) := by decide +kernel
theorem dX9_nextOthers_8 : decode cX9_nextOthers 8 = .ok (.aload_n 0, 1) := by decide +kernel
theorem dX9_nextOthers_9 : decode cX9_nextOthers 9 = .ok (.getfield 136, 3) := by decide +kernel
theorem dX9_nextOthers_12 : decode cX9_nextOthers 12 = .ok (.iload_n 2, 1) := by decide +kernel
theorem dX9_nextOthers_13 : decode cX9_nextOthers 13 = .ok (.iaload, 1) := by decide +kernel
theorem dX9_nextOthers_14 : decode cX9_nextOthers 14 = .ok (.bipush 24, 2) := by decide +kernel
theorem dX9_nextOthers_16 : decode cX9_nextOthers 16 = .ok (.iload_n 1, 1) := by decide +kernel
theorem dX9_nextOthers_17 : decode cX9_nextOthers 17 = .ok (.isub, 1) := by decide +kernel
theorem dX9_nextOthers_18 : decode cX9_nextOthers 18 = .ok (.iload_n 2, 1) := by decide +kernel
theorem dX9_nextOthers_19 : decode cX9_nextOthers 19 = .ok (.iadd, 1) := by decide +kernel
theorem dX9_nextOthers_20 : decode cX9_nextOthers 20 = .ok (.if_icmp .ne 9, 3) := by decide +kernel
theorem dX9_nextOthers_23 : decode cX9_nextOthers 23 = .ok (.iinc 2 (-1), 3) := by decide +kernel
theorem dX9_nextOthers_26 : decode cX9_nextOthers 26 = .ok (.goto (-22), 3) := by decide +kernel
theorem dX9_nextOthers_29 : decode cX9_nextOthers 29 = .ok (.iload_n 2, 1) := by decide +kernel
theorem dX9_nextOthers_30 : decode cX9_nextOthers 30 = .ok (.ifCond .ge 5, 3) := by decide +kernel
theorem dX9_nextOthers_33 : decode cX9_nextOthers 33 = .ok (.iconst 0, 1) := by decide +kernel
theorem dX9_nextOthers_34 : decode cX9_nextOthers 34 = .ok (.ireturn, 1) := by decide +kernel
theorem dX9_nextOthers_35 : decode cX9_nextOthers 35 = .ok (.aload_n 0, 1) := by decide +kernel
theorem dX9_nextOthers_36 : decode cX9_nextOthers 36 = .ok (.getfield 136, 3) := by decide +kernel
theorem dX9_nextOthers_39 : decode cX9_nextOthers 39 = .ok (.iload_n 2, 1) := by decide +kernel
theorem dX9_nextOthers_40 : decode cX9_nextOthers 40 = .ok (.dup2, 1) := by decide +kernel
theorem dX9_nextOthers_41 : decode cX9_nextOthers 41 = .ok (.iaload, 1) := by decide +kernel
theorem dX9_nextOthers_42 : decode cX9_nextOthers 42 = .ok (.iconst 1, 1) := by decide +kernel
theorem dX9_nextOthers_43 : decode cX9_nextOthers 43 = .ok (.iadd, 1) := by decide +kernel
theorem dX9_nextOthers_44 : decode cX9_nextOthers 44 = .ok (.iastore, 1) := by decide +kernel
theorem dX9_nextOthers_45 : decode cX9_nextOthers 45 = .ok (.iload_n 2, 1) := by decide +kernel
theorem dX9_nextOthers_46 : decode cX9_nextOthers 46 = .ok (.iconst 1, 1) := by decide +kernel
theorem dX9_nextOthers_47 : decode cX9_nextOthers 47 = .ok (.iadd, 1) := by decide +kernel
theorem dX9_nextOthers_48 : decode cX9_nextOthers 48 = .ok (.istore_n 3, 1) := by decide +kernel
theorem dX9_nextOthers_49 : decode cX9_nextOthers 49 = .ok (.iload_n 3, 1) := by decide +kernel
theorem dX9_nextOthers_50 : decode cX9_nextOthers 50 = .ok (.iload_n 1, 1) := by decide +kernel
theorem dX9_nextOthers_51 : decode cX9_nextOthers 51 = .ok (.if_icmp .ge 25, 3) := by decide +kernel
theorem dX9_nextOthers_54 : decode cX9_nextOthers 54 = .ok (.aload_n 0, 1) := by decide +kernel
theorem dX9_nextOthers_55 : decode cX9_nextOthers 55 = .ok (.getfield 136, 3) := by decide +kernel
theorem dX9_nextOthers_58 : decode cX9_nextOthers 58 = .ok (.iload_n 3, 1) := by decide +kernel
theorem dX9_nextOthers_59 : decode cX9_nextOthers 59 = .ok (.aload_n 0, 1) := by decide +kernel
theorem dX9_nextOthers_60 : decode cX9_nextOthers 60 = .ok (.getfield 136, 3) := by decide +kernel
theorem dX9_nextOthers_63 : decode cX9_nextOthers 63 = .ok (.iload_n 3, 1) := by decide +kernel
theorem dX9_nextOthers_64 : decode cX9_nextOthers 64 = .ok (.iconst 1, 1) := by decide +kernel
theorem dX9_nextOthers_65 : decode cX9_nextOthers 65 = .ok (.isub, 1) := by decide +kernel
theorem dX9_nextOthers_66 : decode cX9_nextOthers 66 = .ok (.iaload, 1) := by decide +kernel
theorem dX9_nextOthers_67 : decode cX9_nextOthers 67 = .ok (.iconst 1, 1) := by decide +kernel
theorem dX9_nextOthers_68 : decode cX9_nextOthers 68 = .ok (.iadd, 1) := by decide +kernel
theorem dX9_nextOthers_69 : decode cX9_nextOthers 69 = .ok (.iastore, 1) := by decide +kernel
theorem dX9_nextOthers_70 : decode cX9_nextOthers 70 = .ok (.iinc 3 1, 3) := by decide +kernel
theorem dX9_nextOthers_73 : decode cX9_nextOthers 73 = .ok (.goto (-24), 3) := by decide +kernel
theorem dX9_nextOthers_76 : decode cX9_nextOthers 76 = .ok (.iconst 1, 1) := by decide +kernel
theorem dX9_nextOthers_77 : decode cX9_nextOthers 77 = .ok (.ireturn, 1) := by decide +kernel
theorem dX9_findOthers_0 : decode cX9_findOthers 0 = .ok (.iconst 0, 1) := by decide +kernel
theorem dX9_findOthers_1 : decode cX9_findOthers 1 = .ok (.istore_n 2, 1) := by decide +kernel
theorem dX9_findOthers_2 : decode cX9_findOthers 2 = .ok (.iload_n 2, 1) := by decide +kernel
theorem dX9_findOthers_3 : decode cX9_findOthers 3 = .ok (.iload_n 1, 1) := by decide +kernel
theorem dX9_findOthers_4 : decode cX9_findOthers 4 = .ok (.if_icmp .ge 16, 3) := by decide +kernel
theorem dX9_findOthers_7 : decode cX9_findOthers 7 = .ok (.aload_n 0, 1) := by decide +kernel
theorem dX9_findOthers_8 : decode cX9_findOthers 8 = .ok (.getfield 136, 3) := by decide +kernel
theorem dX9_findOthers_11 : decode cX9_findOthers 11 = .ok (.iload_n 2, 1) := by decide +kernel
theorem dX9_findOthers_12 : decode cX9_findOthers 12 = .ok (.iload_n 2, 1) := by decide +kernel
theorem dX9_findOthers_13 : decode cX9_findOthers 13 = .ok (.iastore, 1) := by decide +kernel
theorem dX9_findOthers_14 : decode cX9_findOthers 14 = .ok (.iinc 2 1, 3) := by decide +kernel
theorem dX9_findOthers_17 : decode cX9_findOthers 17 = .ok (.goto (-15), 3) := by decide +kernel
theorem dX9_findOthers_20 : decode cX9_findOthers 20 = .ok (.iconst 1, 1) := by decide +kernel
theorem dX9_findOthers_21 : decode cX9_findOthers 21 = .ok (.istore_n 2, 1) := by decide +kernel
theorem dX9_findOthers_22 : decode cX9_findOthers 22 = .ok (.iload_n 2, 1) := by decide +kernel
theorem dX9_findOthers_23 : decode cX9_findOthers 23 = .ok (.ifCond .eq 34, 3) := by decide +kernel
theorem dX9_findOthers_26 : decode cX9_findOthers 26 = .ok (.aload_n 0, 1) := by decide +kernel
theorem dX9_findOthers_27 : decode cX9_findOthers 27 = .ok (.iload_n 1, 1) := by decide +kernel
theorem dX9_findOthers_28 : decode cX9_findOthers 28 = .ok (.invokevirtual 273, 3) := by decide +kernel
theorem dX9_findOthers_31 : decode cX9_findOthers 31 = .ok (.ifCond .eq 17, 3) := by decide +kernel
theorem dX9_findOthers_34 : decode cX9_findOthers 34 = .ok (.aload_n 0, 1) := by decide +kernel
theorem dX9_findOthers_35 : decode cX9_findOthers 35 = .ok (.iload_n 1, 1) := by decide +kernel
theorem dX9_findOthers_36 : decode cX9_findOthers 36 = .ok (.invokevirtual 276, 3) := by decide +kernel
theorem dX9_findOthers_39 : decode cX9_findOthers 39 = .ok (.aload_n 0, 1) := by decide +kernel
theorem dX9_findOthers_40 : decode cX9_findOthers 40 = .ok (.invokevirtual 280, 3) := by decide +kernel
theorem dX9_findOthers_43 : decode cX9_findOthers 43 = .ok (.ifCond .eq 5, 3) := by decide +kernel
theorem dX9_findOthers_46 : decode cX9_findOthers 46 = .ok (.iconst 1, 1) := by decide +kernel
theorem dX9_findOthers_47 : decode cX9_findOthers 47 = .ok (.ireturn, 1) := by decide +kernel
theorem dX9_findOthers_48 : decode cX9_findOthers 48 = .ok (.aload_n 0, 1) := by decide +kernel
theorem dX9_findOthers_49 : decode cX9_findOthers 49 = .ok (.iload_n 1, 1) := by decide +kernel
theorem dX9_findOthers_50 : decode cX9_findOthers 50 = .ok (.invokevirtual 283, 3) := by decide +kernel
theorem dX9_findOthers_53 : decode cX9_findOthers 53 = .ok (.istore_n 2, 1) := by decide +kernel
theorem dX9_findOthers_54 : decode cX9_findOthers 54 = .ok (.goto (-32), 3) := by decide +kernel
theorem dX9_findOthers_57 : decode cX9_findOthers 57 = .ok (.iconst 0, 1) := by decide +kernel
theorem dX9_findOthers_58 : decode cX9_findOthers 58 = .ok (.ireturn, 1) := by decide +kernel
theorem dX9_table_0 : decode cX9_table 0 = .ok (.aload_n 0, 1) := by decide +kernel
theorem dX9_table_1 : decode cX9_table 1 = .ok (.getfield 158, 3) := by decide +kernel
theorem dX9_table_4 : decode cX9_table 4 = .ok (.ifCond .ne 10, 3) := by decide +kernel
theorem dX9_table_7 : decode cX9_table 7 = .ok (.aload_n 0, 1) := by decide +kernel
theorem dX9_table_8 : decode cX9_table 8 = .ok (.bipush (-6), 2) := by decide +kernel
theorem dX9_table_10 : decode cX9_table 10 = .ok (.invokevirtual 146, 3) := by decide +kernel
theorem dX9_table_13 : decode cX9_table 13 = .ok (.ireturn, 1) := by decide +kernel
theorem dX9_table_14 : decode cX9_table 14 = .ok (.iconst 0, 1) := by decide +kernel
theorem dX9_table_15 : decode cX9_table 15 = .ok (.istore_n 1, 1) := by decide +kernel
theorem dX9_table_16 : decode cX9_table 16 = .ok (.iload_n 1, 1) := by decide +kernel
theorem dX9_table_17 : decode cX9_table 17 = .ok (.bipush 24, 2) := by decide +kernel
theorem dX9_table_19 : decode cX9_table 19 = .ok (.if_icmp .ge 26, 3) := by decide +kernel
theorem dX9_table_22 : decode cX9_table 22 = .ok (.aload_n 0, 1) := by decide +kernel
theorem dX9_table_23 : decode cX9_table 23 = .ok (.getfield 118, 3) := by decide +kernel
theorem dX9_table_26 : decode cX9_table 26 = .ok (.iload_n 1, 1) := by decide +kernel
theorem dX9_table_27 : decode cX9_table 27 = .ok (.aload_n 0, 1) := by decide +kernel
theorem dX9_table_28 : decode cX9_table 28 = .ok (.iload_n 1, 1) := by decide +kernel
theorem dX9_table_29 : decode cX9_table 29 = .ok (.iconst 4, 1) := by decide +kernel
theorem dX9_table_30 : decode cX9_table 30 = .ok (.idiv, 1) := by decide +kernel
theorem dX9_table_31 : decode cX9_table 31 = .ok (.iload_n 1, 1) := by decide +kernel
theorem dX9_table_32 : decode cX9_table 32 = .ok (.iconst 4, 1) := by decide +kernel
theorem dX9_table_33 : decode cX9_table 33 = .ok (.irem, 1) := by decide +kernel
theorem dX9_table_34 : decode cX9_table 34 = .ok (.iconst 1, 1) := by decide +kernel
theorem dX9_table_35 : decode cX9_table 35 = .ok (.invokevirtual 220, 3) := by decide +kernel
theorem dX9_table_38 : decode cX9_table 38 = .ok (.iastore, 1) := by decide +kernel
theorem dX9_table_39 : decode cX9_table 39 = .ok (.iinc 1 1, 3) := by decide +kernel
theorem dX9_table_42 : decode cX9_table 42 = .ok (.goto (-26), 3) := by decide +kernel
theorem dX9_table_45 : decode cX9_table 45 = .ok (.iconst 0, 1) := by decide +kernel
theorem dX9_table_46 : decode cX9_table 46 = .ok (.istore_n 1, 1) := by decide +kernel
theorem dX9_table_47 : decode cX9_table 47 = .ok (.iload_n 1, 1) := by decide +kernel
theorem dX9_table_48 : decode cX9_table 48 = .ok (.iconst 4, 1) := by decide +kernel
theorem dX9_table_49 : decode cX9_table 49 = .ok (.if_icmp .gt 17, 3) := by decide +kernel
theorem dX9_table_52 : decode cX9_table 52 = .ok (.aload_n 0, 1) := by decide +kernel
theorem dX9_table_53 : decode cX9_table 53 = .ok (.iload_n 1, 1) := by decide +kernel
theorem dX9_table_54 : decode cX9_table 54 = .ok (.invokevirtual 286, 3) := by decide +kernel
theorem dX9_table_57 : decode cX9_table 57 = .ok (.ifCond .ne 9, 3) := by decide +kernel
theorem dX9_table_60 : decode cX9_table 60 = .ok (.iinc 1 1, 3) := by decide +kernel
theorem dX9_table_63 : decode cX9_table 63 = .ok (.goto (-16), 3) := by decide +kernel
theorem dX9_table_66 : decode cX9_table 66 = .ok (.iload_n 1, 1) := by decide +kernel
theorem dX9_table_67 : decode cX9_table 67 = .ok (.iconst 4, 1) := by decide +kernel
theorem dX9_table_68 : decode cX9_table 68 = .ok (.if_icmp .le 10, 3) := by decide +kernel
theorem dX9_table_71 : decode cX9_table 71 = .ok (.aload_n 0, 1) := by decide +kernel
theorem dX9_table_72 : decode cX9_table 72 = .ok (.bipush (-6), 2) := by decide +kernel
theorem dX9_table_74 : decode cX9_table 74 = .ok (.invokevirtual 146, 3) := by decide +kernel
theorem dX9_table_77 : decode cX9_table 77 = .ok (.ireturn, 1) := by decide +kernel
theorem dX9_table_78 : decode cX9_table 78 = .ok (.iconst 0, 1) := by decide +kernel
theorem dX9_table_79 : decode cX9_table 79 = .ok (.istore_n 2, 1) := by decide +kernel
theorem dX9_table_80 : decode cX9_table 80 = .ok (.iconst 0, 1) := by decide +kernel
theorem dX9_table_81 : decode cX9_table 81 = .ok (.istore_n 3, 1) := by decide +kernel
theorem dX9_table_82 : decode cX9_table 82 = .ok (.iload_n 3, 1) := by decide +kernel
theorem dX9_table_83 : decode cX9_table 83 = .ok (.bipush 24, 2) := by decide +kernel
theorem dX9_table_85 : decode cX9_table 85 = .ok (.if_icmp .ge 50, 3) := by decide +kernel
theorem dX9_table_88 : decode cX9_table 88 = .ok (.aload_n 0, 1) := by decide +kernel
theorem dX9_table_89 : decode cX9_table 89 = .ok (.getfield 115, 3) := by decide +kernel
theorem dX9_table_92 : decode cX9_table 92 = .ok (.iload_n 3, 1) := by decide +kernel
theorem dX9_table_93 : decode cX9_table 93 = .ok (.aload_n 0, 1) := by decide +kernel
theorem dX9_table_94 : decode cX9_table 94 = .ok (.getfield 118, 3) := by decide +kernel
theorem dX9_table_97 : decode cX9_table 97 = .ok (.iload_n 3, 1) := by decide +kernel
theorem dX9_table_98 : decode cX9_table 98 = .ok (.iaload, 1) := by decide +kernel
theorem dX9_table_99 : decode cX9_table 99 = .ok (.iastore, 1) := by decide +kernel
theorem dX9_table_100 : decode cX9_table 100 = .ok (.aload_n 0, 1) := by decide +kernel
theorem dX9_table_101 : decode cX9_table 101 = .ok (.getfield 124, 3) := by decide +kernel
theorem dX9_table_104 : decode cX9_table 104 = .ok (.iload_n 3, 1) := by decide +kernel
theorem dX9_table_105 : decode cX9_table 105 = .ok (.aload_n 0, 1) := by decide +kernel
theorem dX9_table_106 : decode cX9_table 106 = .ok (.getfield 127, 3) := by decide +kernel
theorem dX9_table_109 : decode cX9_table 109 = .ok (.iload_n 3, 1) := by decide +kernel
theorem dX9_table_110 : decode cX9_table 110 = .ok (.baload, 1) := by decide +kernel
theorem dX9_table_111 : decode cX9_table 111 = .ok (.bastore, 1) := by decide +kernel
theorem dX9_table_112 : decode cX9_table 112 = .ok (.iload_n 2, 1) := by decide +kernel
theorem dX9_table_113 : decode cX9_table 113 = .ok (.aload_n 0, 1) := by decide +kernel
theorem dX9_table_114 : decode cX9_table 114 = .ok (.getfield 127, 3) := by decide +kernel
theorem dX9_table_117 : decode cX9_table 117 = .ok (.iload_n 3, 1) := by decide +kernel
theorem dX9_table_118 : decode cX9_table 118 = .ok (.baload, 1) := by decide +kernel
theorem dX9_table_119 : decode cX9_table 119 = .ok (.ifCond .eq 7, 3) := by decide +kernel
theorem dX9_table_122 : decode cX9_table 122 = .ok (.iconst 1, 1) := by decide +kernel
theorem dX9_table_123 : decode cX9_table 123 = .ok (.goto 4, 3) := by decide +kernel
theorem dX9_table_126 : decode cX9_table 126 = .ok (.iconst 0, 1) := by decide +kernel
theorem dX9_table_127 : decode cX9_table 127 = .ok (.iadd, 1) := by decide +kernel
theorem dX9_table_128 : decode cX9_table 128 = .ok (.istore_n 2, 1) := by decide +kernel
theorem dX9_table_129 : decode cX9_table 129 = .ok (.iinc 3 1, 3) := by decide +kernel
theorem dX9_table_132 : decode cX9_table 132 = .ok (.goto (-50), 3) := by decide +kernel
theorem dX9_table_135 : decode cX9_table 135 = .ok (.aload_n 0, 1) := by decide +kernel
theorem dX9_table_136 : decode cX9_table 136 = .ok (.iconst 1, 1) := by decide +kernel
theorem dX9_table_137 : decode cX9_table 137 = .ok (.putfield 289, 3) := by decide +kernel
theorem dX9_table_140 : decode cX9_table 140 = .ok (.iload_n 2, 1) := by decide +kernel
theorem dX9_table_141 : decode cX9_table 141 = .ok (.ireturn, 1) := by decide +kernel
theorem dX9_told_0 : decode cX9_told 0 = .ok (.aload_n 0, 1) := by decide +kernel
theorem dX9_told_1 : decode cX9_told 1 = .ok (.getfield 289, 3) := by decide +kernel
theorem dX9_told_4 : decode cX9_told 4 = .ok (.ifCond .eq 27, 3) := by decide +kernel
theorem dX9_told_7 : decode cX9_told 7 = .ok (.iload_n 1, 1) := by decide +kernel
theorem dX9_told_8 : decode cX9_told 8 = .ok (.i2l, 1) := by decide +kernel
theorem dX9_told_9 : decode cX9_told 9 = .ok (.lconst 0, 1) := by decide +kernel
theorem dX9_told_10 : decode cX9_told 10 = .ok (.ldc2_w 292, 3) := by decide +kernel
theorem dX9_told_13 : decode cX9_told 13 = .ok (.invokestatic 152, 3) := by decide +kernel
theorem dX9_told_16 : decode cX9_told 16 = .ok (.ifCond .eq 15, 3) := by decide +kernel
theorem dX9_told_19 : decode cX9_told 19 = .ok (.iload_n 2, 1) := by decide +kernel
theorem dX9_told_20 : decode cX9_told 20 = .ok (.i2l, 1) := by decide +kernel
theorem dX9_told_21 : decode cX9_told 21 = .ok (.lconst 0, 1) := by decide +kernel
theorem dX9_told_22 : decode cX9_told 22 = .ok (.ldc2_w 294, 3) := by decide +kernel
theorem dX9_told_25 : decode cX9_told 25 = .ok (.invokestatic 152, 3) := by decide +kernel
theorem dX9_told_28 : decode cX9_told 28 = .ok (.ifCond .ne 5, 3) := by decide +kernel
theorem dX9_told_31 : decode cX9_told 31 = .ok (.iconst (-1), 1) := by decide +kernel
theorem dX9_told_32 : decode cX9_told 32 = .ok (.ireturn, 1) := by decide +kernel
theorem dX9_told_33 : decode cX9_told 33 = .ok (.iload_n 1, 1) := by decide +kernel
theorem dX9_told_34 : decode cX9_told 34 = .ok (.bipush 6, 2) := by decide +kernel
theorem dX9_told_36 : decode cX9_told 36 = .ok (.if_icmp .ge 37, 3) := by decide +kernel
theorem dX9_told_39 : decode cX9_told 39 = .ok (.iload_n 2, 1) := by decide +kernel
theorem dX9_told_40 : decode cX9_told 40 = .ok (.iconst 4, 1) := by decide +kernel
theorem dX9_told_41 : decode cX9_told 41 = .ok (.if_icmp .ge 32, 3) := by decide +kernel
theorem dX9_told_44 : decode cX9_told 44 = .ok (.aload_n 0, 1) := by decide +kernel
theorem dX9_told_45 : decode cX9_told 45 = .ok (.getfield 124, 3) := by decide +kernel
theorem dX9_told_48 : decode cX9_told 48 = .ok (.iconst 4, 1) := by decide +kernel
theorem dX9_told_49 : decode cX9_told 49 = .ok (.iload_n 1, 1) := by decide +kernel
theorem dX9_told_50 : decode cX9_told 50 = .ok (.imul, 1) := by decide +kernel
theorem dX9_told_51 : decode cX9_told 51 = .ok (.iload_n 2, 1) := by decide +kernel
theorem dX9_told_52 : decode cX9_told 52 = .ok (.iadd, 1) := by decide +kernel
theorem dX9_told_53 : decode cX9_told 53 = .ok (.baload, 1) := by decide +kernel
theorem dX9_told_54 : decode cX9_told 54 = .ok (.ifCond .eq 8, 3) := by decide +kernel
theorem dX9_told_57 : decode cX9_told 57 = .ok (.bipush (-2), 2) := by decide +kernel
theorem dX9_told_59 : decode cX9_told 59 = .ok (.goto 13, 3) := by decide +kernel
theorem dX9_told_62 : decode cX9_told 62 = .ok (.aload_n 0, 1) := by decide +kernel
theorem dX9_told_63 : decode cX9_told 63 = .ok (.getfield 115, 3) := by decide +kernel
theorem dX9_told_66 : decode cX9_told 66 = .ok (.iconst 4, 1) := by decide +kernel
theorem dX9_told_67 : decode cX9_told 67 = .ok (.iload_n 1, 1) := by decide +kernel
theorem dX9_told_68 : decode cX9_told 68 = .ok (.imul, 1) := by decide +kernel
theorem dX9_told_69 : decode cX9_told 69 = .ok (.iload_n 2, 1) := by decide +kernel
theorem dX9_told_70 : decode cX9_told 70 = .ok (.iadd, 1) := by decide +kernel
theorem dX9_told_71 : decode cX9_told 71 = .ok (.iaload, 1) := by decide +kernel
theorem dX9_told_72 : decode cX9_told 72 = .ok (.ireturn, 1) := by decide +kernel
theorem dX9_told_73 : decode cX9_told 73 = .ok (.iconst 0, 1) := by decide +kernel
theorem dX9_told_74 : decode cX9_told 74 = .ok (.istore_n 3, 1) := by decide +kernel
theorem dX9_told_75 : decode cX9_told 75 = .ok (.iconst 0, 1) := by decide +kernel
theorem dX9_told_76 : decode cX9_told 76 = .ok (.istore 4, 2) := by decide +kernel
theorem dX9_told_78 : decode cX9_told 78 = .ok (.iload 4, 2) := by decide +kernel
theorem dX9_told_80 : decode cX9_told 80 = .ok (.bipush 24, 2) := by decide +kernel
theorem dX9_told_82 : decode cX9_told 82 = .ok (.if_icmp .ge 50, 3) := by decide +kernel
theorem dX9_told_85 : decode cX9_told 85 = .ok (.iload_n 3, 1) := by decide +kernel
theorem dX9_told_86 : decode cX9_told 86 = .ok (.iload_n 1, 1) := by decide +kernel
theorem dX9_told_87 : decode cX9_told 87 = .ok (.bipush 6, 2) := by decide +kernel
theorem dX9_told_89 : decode cX9_told 89 = .ok (.if_icmp .eq 11, 3) := by decide +kernel
theorem dX9_told_92 : decode cX9_told 92 = .ok (.iload 4, 2) := by decide +kernel
theorem dX9_told_94 : decode cX9_told 94 = .ok (.iconst 4, 1) := by decide +kernel
theorem dX9_told_95 : decode cX9_told 95 = .ok (.idiv, 1) := by decide +kernel
theorem dX9_told_96 : decode cX9_told 96 = .ok (.iload_n 1, 1) := by decide +kernel
theorem dX9_told_97 : decode cX9_told 97 = .ok (.if_icmp .ne 26, 3) := by decide +kernel
theorem dX9_told_100 : decode cX9_told 100 = .ok (.iload_n 2, 1) := by decide +kernel
theorem dX9_told_101 : decode cX9_told 101 = .ok (.iconst 4, 1) := by decide +kernel
theorem dX9_told_102 : decode cX9_told 102 = .ok (.if_icmp .eq 11, 3) := by decide +kernel
theorem dX9_told_105 : decode cX9_told 105 = .ok (.iload 4, 2) := by decide +kernel
theorem dX9_told_107 : decode cX9_told 107 = .ok (.iconst 4, 1) := by decide +kernel
theorem dX9_told_108 : decode cX9_told 108 = .ok (.irem, 1) := by decide +kernel
theorem dX9_told_109 : decode cX9_told 109 = .ok (.iload_n 2, 1) := by decide +kernel
theorem dX9_told_110 : decode cX9_told 110 = .ok (.if_icmp .ne 13, 3) := by decide +kernel
theorem dX9_told_113 : decode cX9_told 113 = .ok (.aload_n 0, 1) := by decide +kernel
theorem dX9_told_114 : decode cX9_told 114 = .ok (.getfield 115, 3) := by decide +kernel
theorem dX9_told_117 : decode cX9_told 117 = .ok (.iload 4, 2) := by decide +kernel
theorem dX9_told_119 : decode cX9_told 119 = .ok (.iaload, 1) := by decide +kernel
theorem dX9_told_120 : decode cX9_told 120 = .ok (.goto 4, 3) := by decide +kernel
theorem dX9_told_123 : decode cX9_told 123 = .ok (.iconst 0, 1) := by decide +kernel
theorem dX9_told_124 : decode cX9_told 124 = .ok (.iadd, 1) := by decide +kernel
theorem dX9_told_125 : decode cX9_told 125 = .ok (.istore_n 3, 1) := by decide +kernel
theorem dX9_told_126 : decode cX9_told 126 = .ok (.iinc 4 1, 3) := by decide +kernel
theorem dX9_told_129 : decode cX9_told 129 = .ok (.goto (-51), 3) := by decide +kernel
theorem dX9_told_132 : decode cX9_told 132 = .ok (.iload_n 3, 1) := by decide +kernel
theorem dX9_told_133 : decode cX9_told 133 = .ok (.ireturn, 1) := by decide +kernel
theorem dX9_moves_0 : decode cX9_moves 0 = .ok (.iload_n 2, 1) := by decide +kernel
theorem dX9_moves_1 : decode cX9_moves 1 = .ok (.ifCond .eq 9, 3) := by decide +kernel
theorem dX9_moves_4 : decode cX9_moves 4 = .ok (.iload_n 1, 1) := by decide +kernel
theorem dX9_moves_5 : decode cX9_moves 5 = .ok (.iconst 4, 1) := by decide +kernel
theorem dX9_moves_6 : decode cX9_moves 6 = .ok (.idiv, 1) := by decide +kernel
theorem dX9_moves_7 : decode cX9_moves 7 = .ok (.goto 9, 3) := by decide +kernel
theorem dX9_moves_10 : decode cX9_moves 10 = .ok (.bipush 6, 2) := by decide +kernel
theorem dX9_moves_12 : decode cX9_moves 12 = .ok (.iload_n 1, 1) := by decide +kernel
theorem dX9_moves_13 : decode cX9_moves 13 = .ok (.iconst 4, 1) := by decide +kernel
theorem dX9_moves_14 : decode cX9_moves 14 = .ok (.irem, 1) := by decide +kernel
theorem dX9_moves_15 : decode cX9_moves 15 = .ok (.iadd, 1) := by decide +kernel
theorem dX9_moves_16 : decode cX9_moves 16 = .ok (.istore_n 3, 1) := by decide +kernel
theorem dX9_moves_17 : decode cX9_moves 17 = .ok (.iload_n 2, 1) := by decide +kernel
theorem dX9_moves_18 : decode cX9_moves 18 = .ok (.ifCond .eq 12, 3) := by decide +kernel
theorem dX9_moves_21 : decode cX9_moves 21 = .ok (.bipush 6, 2) := by decide +kernel
theorem dX9_moves_23 : decode cX9_moves 23 = .ok (.iload_n 1, 1) := by decide +kernel
theorem dX9_moves_24 : decode cX9_moves 24 = .ok (.iconst 4, 1) := by decide +kernel
theorem dX9_moves_25 : decode cX9_moves 25 = .ok (.irem, 1) := by decide +kernel
theorem dX9_moves_26 : decode cX9_moves 26 = .ok (.iadd, 1) := by decide +kernel
theorem dX9_moves_27 : decode cX9_moves 27 = .ok (.goto 6, 3) := by decide +kernel
theorem dX9_moves_30 : decode cX9_moves 30 = .ok (.iload_n 1, 1) := by decide +kernel
theorem dX9_moves_31 : decode cX9_moves 31 = .ok (.iconst 4, 1) := by decide +kernel
theorem dX9_moves_32 : decode cX9_moves 32 = .ok (.idiv, 1) := by decide +kernel
theorem dX9_moves_33 : decode cX9_moves 33 = .ok (.istore 4, 2) := by decide +kernel
theorem dX9_moves_35 : decode cX9_moves 35 = .ok (.aload_n 0, 1) := by decide +kernel
theorem dX9_moves_36 : decode cX9_moves 36 = .ok (.getfield 121, 3) := by decide +kernel
theorem dX9_moves_39 : decode cX9_moves 39 = .ok (.iload_n 1, 1) := by decide +kernel
theorem dX9_moves_40 : decode cX9_moves 40 = .ok (.dup2, 1) := by decide +kernel
theorem dX9_moves_41 : decode cX9_moves 41 = .ok (.iaload, 1) := by decide +kernel
theorem dX9_moves_42 : decode cX9_moves 42 = .ok (.iload_n 2, 1) := by decide +kernel
theorem dX9_moves_43 : decode cX9_moves 43 = .ok (.ifCond .eq 7, 3) := by decide +kernel
theorem dX9_moves_46 : decode cX9_moves 46 = .ok (.iconst 1, 1) := by decide +kernel
theorem dX9_moves_47 : decode cX9_moves 47 = .ok (.goto 4, 3) := by decide +kernel
theorem dX9_moves_50 : decode cX9_moves 50 = .ok (.iconst (-1), 1) := by decide +kernel
theorem dX9_moves_51 : decode cX9_moves 51 = .ok (.iadd, 1) := by decide +kernel
theorem dX9_moves_52 : decode cX9_moves 52 = .ok (.iastore, 1) := by decide +kernel
theorem dX9_moves_53 : decode cX9_moves 53 = .ok (.iload_n 3, 1) := by decide +kernel
theorem dX9_moves_54 : decode cX9_moves 54 = .ok (.istore 5, 2) := by decide +kernel
theorem dX9_moves_56 : decode cX9_moves 56 = .ok (.iload 5, 2) := by decide +kernel
theorem dX9_moves_58 : decode cX9_moves 58 = .ok (.iload 4, 2) := by decide +kernel
theorem dX9_moves_60 : decode cX9_moves 60 = .ok (.if_icmp .eq 72, 3) := by decide +kernel
theorem dX9_moves_63 : decode cX9_moves 63 = .ok (.aload_n 0, 1) := by decide +kernel
theorem dX9_moves_64 : decode cX9_moves 64 = .ok (.getfield 130, 3) := by decide +kernel
theorem dX9_moves_67 : decode cX9_moves 67 = .ok (.iload 5, 2) := by decide +kernel
theorem dX9_moves_69 : decode cX9_moves 69 = .ok (.iaload, 1) := by decide +kernel
theorem dX9_moves_70 : decode cX9_moves 70 = .ok (.istore 6, 2) := by decide +kernel
theorem dX9_moves_72 : decode cX9_moves 72 = .ok (.iload 6, 2) := by decide +kernel
theorem dX9_moves_74 : decode cX9_moves 74 = .ok (.bipush 6, 2) := by decide +kernel
theorem dX9_moves_76 : decode cX9_moves 76 = .ok (.if_icmp .ge 25, 3) := by decide +kernel
theorem dX9_moves_79 : decode cX9_moves 79 = .ok (.aload_n 0, 1) := by decide +kernel
theorem dX9_moves_80 : decode cX9_moves 80 = .ok (.getfield 121, 3) := by decide +kernel
theorem dX9_moves_83 : decode cX9_moves 83 = .ok (.iconst 4, 1) := by decide +kernel
theorem dX9_moves_84 : decode cX9_moves 84 = .ok (.iload 6, 2) := by decide +kernel
theorem dX9_moves_86 : decode cX9_moves 86 = .ok (.imul, 1) := by decide +kernel
theorem dX9_moves_87 : decode cX9_moves 87 = .ok (.iload 5, 2) := by decide +kernel
theorem dX9_moves_89 : decode cX9_moves 89 = .ok (.iadd, 1) := by decide +kernel
theorem dX9_moves_90 : decode cX9_moves 90 = .ok (.bipush 6, 2) := by decide +kernel
theorem dX9_moves_92 : decode cX9_moves 92 = .ok (.isub, 1) := by decide +kernel
theorem dX9_moves_93 : decode cX9_moves 93 = .ok (.dup2, 1) := by decide +kernel
theorem dX9_moves_94 : decode cX9_moves 94 = .ok (.iaload, 1) := by decide +kernel
theorem dX9_moves_95 : decode cX9_moves 95 = .ok (.iconst 1, 1) := by decide +kernel
theorem dX9_moves_96 : decode cX9_moves 96 = .ok (.iadd, 1) := by decide +kernel
theorem dX9_moves_97 : decode cX9_moves 97 = .ok (.iastore, 1) := by decide +kernel
theorem dX9_moves_98 : decode cX9_moves 98 = .ok (.goto 22, 3) := by decide +kernel
theorem dX9_moves_101 : decode cX9_moves 101 = .ok (.aload_n 0, 1) := by decide +kernel
theorem dX9_moves_102 : decode cX9_moves 102 = .ok (.getfield 121, 3) := by decide +kernel
theorem dX9_moves_105 : decode cX9_moves 105 = .ok (.iconst 4, 1) := by decide +kernel
theorem dX9_moves_106 : decode cX9_moves 106 = .ok (.iload 5, 2) := by decide +kernel
theorem dX9_moves_108 : decode cX9_moves 108 = .ok (.imul, 1) := by decide +kernel
theorem dX9_moves_109 : decode cX9_moves 109 = .ok (.iload 6, 2) := by decide +kernel
theorem dX9_moves_111 : decode cX9_moves 111 = .ok (.iadd, 1) := by decide +kernel
theorem dX9_moves_112 : decode cX9_moves 112 = .ok (.bipush 6, 2) := by decide +kernel
theorem dX9_moves_114 : decode cX9_moves 114 = .ok (.isub, 1) := by decide +kernel
theorem dX9_moves_115 : decode cX9_moves 115 = .ok (.dup2, 1) := by decide +kernel
theorem dX9_moves_116 : decode cX9_moves 116 = .ok (.iaload, 1) := by decide +kernel
theorem dX9_moves_117 : decode cX9_moves 117 = .ok (.iconst 1, 1) := by decide +kernel
theorem dX9_moves_118 : decode cX9_moves 118 = .ok (.isub, 1) := by decide +kernel
theorem dX9_moves_119 : decode cX9_moves 119 = .ok (.iastore, 1) := by decide +kernel
theorem dX9_moves_120 : decode cX9_moves 120 = .ok (.aload_n 0, 1) := by decide +kernel
theorem dX9_moves_121 : decode cX9_moves 121 = .ok (.getfield 130, 3) := by decide +kernel
theorem dX9_moves_124 : decode cX9_moves 124 = .ok (.iload 5, 2) := by decide +kernel
theorem dX9_moves_126 : decode cX9_moves 126 = .ok (.iaload, 1) := by decide +kernel
theorem dX9_moves_127 : decode cX9_moves 127 = .ok (.istore 5, 2) := by decide +kernel
theorem dX9_moves_129 : decode cX9_moves 129 = .ok (.goto (-73), 3) := by decide +kernel
theorem dX9_moves_132 : decode cX9_moves 132 = .ok (.return_, 1) := by decide +kernel
theorem dX9_could_0 : decode cX9_could 0 = .ok (.aload_n 0, 1) := by decide +kernel
theorem dX9_could_1 : decode cX9_could 1 = .ok (.getfield 289, 3) := by decide +kernel
theorem dX9_could_4 : decode cX9_could 4 = .ok (.ifCond .eq 27, 3) := by decide +kernel
theorem dX9_could_7 : decode cX9_could 7 = .ok (.iload_n 1, 1) := by decide +kernel
theorem dX9_could_8 : decode cX9_could 8 = .ok (.i2l, 1) := by decide +kernel
theorem dX9_could_9 : decode cX9_could 9 = .ok (.lconst 0, 1) := by decide +kernel
theorem dX9_could_10 : decode cX9_could 10 = .ok (.ldc2_w 296, 3) := by decide +kernel
theorem dX9_could_13 : decode cX9_could 13 = .ok (.invokestatic 152, 3) := by decide +kernel
theorem dX9_could_16 : decode cX9_could 16 = .ok (.ifCond .eq 15, 3) := by decide +kernel
theorem dX9_could_19 : decode cX9_could 19 = .ok (.iload_n 2, 1) := by decide +kernel
theorem dX9_could_20 : decode cX9_could 20 = .ok (.i2l, 1) := by decide +kernel
theorem dX9_could_21 : decode cX9_could 21 = .ok (.lconst 0, 1) := by decide +kernel
theorem dX9_could_22 : decode cX9_could 22 = .ok (.ldc2_w 150, 3) := by decide +kernel
theorem dX9_could_25 : decode cX9_could 25 = .ok (.invokestatic 152, 3) := by decide +kernel
theorem dX9_could_28 : decode cX9_could 28 = .ok (.ifCond .ne 5, 3) := by decide +kernel
theorem dX9_could_31 : decode cX9_could 31 = .ok (.iconst (-1), 1) := by decide +kernel
theorem dX9_could_32 : decode cX9_could 32 = .ok (.ireturn, 1) := by decide +kernel
theorem dX9_could_33 : decode cX9_could 33 = .ok (.iconst 4, 1) := by decide +kernel
theorem dX9_could_34 : decode cX9_could 34 = .ok (.iload_n 1, 1) := by decide +kernel
theorem dX9_could_35 : decode cX9_could 35 = .ok (.imul, 1) := by decide +kernel
theorem dX9_could_36 : decode cX9_could 36 = .ok (.iload_n 2, 1) := by decide +kernel
theorem dX9_could_37 : decode cX9_could 37 = .ok (.iadd, 1) := by decide +kernel
theorem dX9_could_38 : decode cX9_could 38 = .ok (.istore 4, 2) := by decide +kernel
theorem dX9_could_40 : decode cX9_could 40 = .ok (.iconst 0, 1) := by decide +kernel
theorem dX9_could_41 : decode cX9_could 41 = .ok (.istore 5, 2) := by decide +kernel
theorem dX9_could_43 : decode cX9_could 43 = .ok (.iload 5, 2) := by decide +kernel
theorem dX9_could_45 : decode cX9_could 45 = .ok (.bipush 24, 2) := by decide +kernel
theorem dX9_could_47 : decode cX9_could 47 = .ok (.if_icmp .ge 23, 3) := by decide +kernel
theorem dX9_could_50 : decode cX9_could 50 = .ok (.aload_n 0, 1) := by decide +kernel
theorem dX9_could_51 : decode cX9_could 51 = .ok (.getfield 121, 3) := by decide +kernel
theorem dX9_could_54 : decode cX9_could 54 = .ok (.iload 5, 2) := by decide +kernel
theorem dX9_could_56 : decode cX9_could 56 = .ok (.aload_n 0, 1) := by decide +kernel
theorem dX9_could_57 : decode cX9_could 57 = .ok (.getfield 115, 3) := by decide +kernel
theorem dX9_could_60 : decode cX9_could 60 = .ok (.iload 5, 2) := by decide +kernel
theorem dX9_could_62 : decode cX9_could 62 = .ok (.iaload, 1) := by decide +kernel
theorem dX9_could_63 : decode cX9_could 63 = .ok (.iastore, 1) := by decide +kernel
theorem dX9_could_64 : decode cX9_could 64 = .ok (.iinc 5 1, 3) := by decide +kernel
theorem dX9_could_67 : decode cX9_could 67 = .ok (.goto (-24), 3) := by decide +kernel
theorem dX9_could_70 : decode cX9_could 70 = .ok (.aload_n 0, 1) := by decide +kernel
theorem dX9_could_71 : decode cX9_could 71 = .ok (.getfield 124, 3) := by decide +kernel
theorem dX9_could_74 : decode cX9_could 74 = .ok (.iload 4, 2) := by decide +kernel
theorem dX9_could_76 : decode cX9_could 76 = .ok (.baload, 1) := by decide +kernel
theorem dX9_could_77 : decode cX9_could 77 = .ok (.ifCond .eq 54, 3) := by decide +kernel
theorem dX9_could_80 : decode cX9_could 80 = .ok (.iload_n 3, 1) := by decide +kernel
theorem dX9_could_81 : decode cX9_could 81 = .ok (.ifCond .eq 23, 3) := by decide +kernel
theorem dX9_could_84 : decode cX9_could 84 = .ok (.aload_n 0, 1) := by decide +kernel
theorem dX9_could_85 : decode cX9_could 85 = .ok (.iload 4, 2) := by decide +kernel
theorem dX9_could_87 : decode cX9_could 87 = .ok (.aload_n 0, 1) := by decide +kernel
theorem dX9_could_88 : decode cX9_could 88 = .ok (.getfield 124, 3) := by decide +kernel
theorem dX9_could_91 : decode cX9_could 91 = .ok (.aload_n 0, 1) := by decide +kernel
theorem dX9_could_92 : decode cX9_could 92 = .ok (.getfield 121, 3) := by decide +kernel
theorem dX9_could_95 : decode cX9_could 95 = .ok (.invokevirtual 266, 3) := by decide +kernel
theorem dX9_could_98 : decode cX9_could 98 = .ok (.ifCond .eq 33, 3) := by decide +kernel
theorem dX9_could_101 : decode cX9_could 101 = .ok (.goto 20, 3) := by decide +kernel
theorem dX9_could_104 : decode cX9_could 104 = .ok (.aload_n 0, 1) := by decide +kernel
theorem dX9_could_105 : decode cX9_could 105 = .ok (.iload 4, 2) := by decide +kernel
theorem dX9_could_107 : decode cX9_could 107 = .ok (.aload_n 0, 1) := by decide +kernel
theorem dX9_could_108 : decode cX9_could 108 = .ok (.getfield 124, 3) := by decide +kernel
theorem dX9_could_111 : decode cX9_could 111 = .ok (.aload_n 0, 1) := by decide +kernel
theorem dX9_could_112 : decode cX9_could 112 = .ok (.getfield 121, 3) := by decide +kernel
theorem dX9_could_115 : decode cX9_could 115 = .ok (.invokevirtual 270, 3) := by decide +kernel
theorem dX9_could_118 : decode cX9_could 118 = .ok (.ifCond .eq 13, 3) := by decide +kernel
theorem dX9_could_121 : decode cX9_could 121 = .ok (.aload_n 0, 1) := by decide +kernel
theorem dX9_could_122 : decode cX9_could 122 = .ok (.iload 4, 2) := by decide +kernel
theorem dX9_could_124 : decode cX9_could 124 = .ok (.iload_n 3, 1) := by decide +kernel
theorem dX9_could_125 : decode cX9_could 125 = .ok (.invokevirtual 298, 3) := by decide +kernel
theorem dX9_could_128 : decode cX9_could 128 = .ok (.goto (-58), 3) := by decide +kernel
theorem dX9_could_131 : decode cX9_could 131 = .ok (.aload_n 0, 1) := by decide +kernel
theorem dX9_could_132 : decode cX9_could 132 = .ok (.getfield 121, 3) := by decide +kernel
theorem dX9_could_135 : decode cX9_could 135 = .ok (.iload 4, 2) := by decide +kernel
theorem dX9_could_137 : decode cX9_could 137 = .ok (.iaload, 1) := by decide +kernel
theorem dX9_could_138 : decode cX9_could 138 = .ok (.ireturn, 1) := by decide +kernel
theorem dX9_status_0 : decode cX9_status 0 = .ok (.iload_n 1, 1) := by decide +kernel
theorem dX9_status_1 : decode cX9_status 1 = .ok (.i2l, 1) := by decide +kernel
theorem dX9_status_2 : decode cX9_status 2 = .ok (.ldc2_w 302, 3) := by decide +kernel
theorem dX9_status_5 : decode cX9_status 5 = .ok (.ldc2_w 304, 3) := by decide +kernel
theorem dX9_status_8 : decode cX9_status 8 = .ok (.invokestatic 152, 3) := by decide +kernel
theorem dX9_status_11 : decode cX9_status 11 = .ok (.ifCond .eq 13, 3) := by decide +kernel
theorem dX9_status_14 : decode cX9_status 14 = .ok (.aload_n 0, 1) := by decide +kernel
theorem dX9_status_15 : decode cX9_status 15 = .ok (.getfield 81, 3) := by decide +kernel
theorem dX9_status_18 : decode cX9_status 18 = .ok (.iload_n 1, 1) := by decide +kernel
theorem dX9_status_19 : decode cX9_status 19 = .ok (.bipush 10, 2) := by decide +kernel
theorem dX9_status_21 : decode cX9_status 21 = .ok (.isub, 1) := by decide +kernel
theorem dX9_status_22 : decode cX9_status 22 = .ok (.iaload, 1) := by decide +kernel
theorem dX9_status_23 : decode cX9_status 23 = .ok (.ireturn, 1) := by decide +kernel
theorem dX9_status_24 : decode cX9_status 24 = .ok (.iconst 0, 1) := by decide +kernel
theorem dX9_status_25 : decode cX9_status 25 = .ok (.istore_n 2, 1) := by decide +kernel
theorem dX9_status_26 : decode cX9_status 26 = .ok (.iload_n 1, 1) := by decide +kernel
theorem dX9_status_27 : decode cX9_status 27 = .ok (.tableswitch 349 0 20 #[97, 102, 137, 173, 178, 204, 229, 254, 267, 301, 349, 349, 349, 349, 349, 349, 349, 349, 334, 339, 344], 97) := by decide +kernel
theorem dX9_status_124 : decode cX9_status 124 = .ok (.aload_n 0, 1) := by decide +kernel
theorem dX9_status_125 : decode cX9_status 125 = .ok (.getfield 139, 3) := by decide +kernel
theorem dX9_status_128 : decode cX9_status 128 = .ok (.ireturn, 1) := by decide +kernel
theorem dX9_status_129 : decode cX9_status 129 = .ok (.iconst 0, 1) := by decide +kernel
theorem dX9_status_130 : decode cX9_status 130 = .ok (.istore_n 3, 1) := by decide +kernel
theorem dX9_status_131 : decode cX9_status 131 = .ok (.iload_n 3, 1) := by decide +kernel
theorem dX9_status_132 : decode cX9_status 132 = .ok (.aload_n 0, 1) := by decide +kernel
theorem dX9_status_133 : decode cX9_status 133 = .ok (.getfield 139, 3) := by decide +kernel
theorem dX9_status_136 : decode cX9_status 136 = .ok (.if_icmp .ge 26, 3) := by decide +kernel
theorem dX9_status_139 : decode cX9_status 139 = .ok (.iload_n 2, 1) := by decide +kernel
theorem dX9_status_140 : decode cX9_status 140 = .ok (.aload_n 0, 1) := by decide +kernel
theorem dX9_status_141 : decode cX9_status 141 = .ok (.getfield 25, 3) := by decide +kernel
theorem dX9_status_144 : decode cX9_status 144 = .ok (.iload_n 3, 1) := by decide +kernel
theorem dX9_status_145 : decode cX9_status 145 = .ok (.iaload, 1) := by decide +kernel
theorem dX9_status_146 : decode cX9_status 146 = .ok (.ifCond .eq 7, 3) := by decide +kernel
theorem dX9_status_149 : decode cX9_status 149 = .ok (.iconst 1, 1) := by decide +kernel
theorem dX9_status_150 : decode cX9_status 150 = .ok (.goto 4, 3) := by decide +kernel
theorem dX9_status_153 : decode cX9_status 153 = .ok (.iconst 0, 1) := by decide +kernel
theorem dX9_status_154 : decode cX9_status 154 = .ok (.iadd, 1) := by decide +kernel
theorem dX9_status_155 : decode cX9_status 155 = .ok (.istore_n 2, 1) := by decide +kernel
theorem dX9_status_156 : decode cX9_status 156 = .ok (.iinc 3 1, 3) := by decide +kernel
theorem dX9_status_159 : decode cX9_status 159 = .ok (.goto (-28), 3) := by decide +kernel
theorem dX9_status_162 : decode cX9_status 162 = .ok (.iload_n 2, 1) := by decide +kernel
theorem dX9_status_163 : decode cX9_status 163 = .ok (.ireturn, 1) := by decide +kernel
theorem dX9_status_164 : decode cX9_status 164 = .ok (.iconst 0, 1) := by decide +kernel
theorem dX9_status_165 : decode cX9_status 165 = .ok (.istore_n 3, 1) := by decide +kernel
theorem dX9_status_166 : decode cX9_status 166 = .ok (.iload_n 3, 1) := by decide +kernel
theorem dX9_status_167 : decode cX9_status 167 = .ok (.aload_n 0, 1) := by decide +kernel
theorem dX9_status_168 : decode cX9_status 168 = .ok (.getfield 139, 3) := by decide +kernel
theorem dX9_status_171 : decode cX9_status 171 = .ok (.if_icmp .ge 27, 3) := by decide +kernel
theorem dX9_status_174 : decode cX9_status 174 = .ok (.iload_n 2, 1) := by decide +kernel
theorem dX9_status_175 : decode cX9_status 175 = .ok (.aload_n 0, 1) := by decide +kernel
theorem dX9_status_176 : decode cX9_status 176 = .ok (.getfield 25, 3) := by decide +kernel
theorem dX9_status_179 : decode cX9_status 179 = .ok (.iload_n 3, 1) := by decide +kernel
theorem dX9_status_180 : decode cX9_status 180 = .ok (.iaload, 1) := by decide +kernel
theorem dX9_status_181 : decode cX9_status 181 = .ok (.iconst 4, 1) := by decide +kernel
theorem dX9_status_182 : decode cX9_status 182 = .ok (.if_icmp .ne 7, 3) := by decide +kernel
theorem dX9_status_185 : decode cX9_status 185 = .ok (.iconst 1, 1) := by decide +kernel
theorem dX9_status_186 : decode cX9_status 186 = .ok (.goto 4, 3) := by decide +kernel
theorem dX9_status_189 : decode cX9_status 189 = .ok (.iconst 0, 1) := by decide +kernel
theorem dX9_status_190 : decode cX9_status 190 = .ok (.iadd, 1) := by decide +kernel
theorem dX9_status_191 : decode cX9_status 191 = .ok (.istore_n 2, 1) := by decide +kernel
theorem dX9_status_192 : decode cX9_status 192 = .ok (.iinc 3 1, 3) := by decide +kernel
theorem dX9_status_195 : decode cX9_status 195 = .ok (.goto (-29), 3) := by decide +kernel
theorem dX9_status_198 : decode cX9_status 198 = .ok (.iload_n 2, 1) := by decide +kernel
theorem dX9_status_199 : decode cX9_status 199 = .ok (.ireturn, 1) := by decide +kernel
theorem dX9_status_200 : decode cX9_status 200 = .ok (.aload_n 0, 1) := by decide +kernel
theorem dX9_status_201 : decode cX9_status 201 = .ok (.invokevirtual 247, 3) := by decide +kernel
theorem dX9_status_204 : decode cX9_status 204 = .ok (.ireturn, 1) := by decide +kernel
theorem dX9_status_205 : decode cX9_status 205 = .ok (.iconst 0, 1) := by decide +kernel
theorem dX9_status_206 : decode cX9_status 206 = .ok (.istore_n 3, 1) := by decide +kernel
theorem dX9_status_207 : decode cX9_status 207 = .ok (.iload_n 3, 1) := by decide +kernel
theorem dX9_status_208 : decode cX9_status 208 = .ok (.aload_n 0, 1) := by decide +kernel
theorem dX9_status_209 : decode cX9_status 209 = .ok (.getfield 139, 3) := by decide +kernel
theorem dX9_status_212 : decode cX9_status 212 = .ok (.if_icmp .ge 17, 3) := by decide +kernel
theorem dX9_status_215 : decode cX9_status 215 = .ok (.iload_n 2, 1) := by decide +kernel
theorem dX9_status_216 : decode cX9_status 216 = .ok (.aload_n 0, 1) := by decide +kernel
theorem dX9_status_217 : decode cX9_status 217 = .ok (.iload_n 3, 1) := by decide +kernel
theorem dX9_status_218 : decode cX9_status 218 = .ok (.invokevirtual 214, 3) := by decide +kernel
theorem dX9_status_221 : decode cX9_status 221 = .ok (.iadd, 1) := by decide +kernel
theorem dX9_status_222 : decode cX9_status 222 = .ok (.istore_n 2, 1) := by decide +kernel
theorem dX9_status_223 : decode cX9_status 223 = .ok (.iinc 3 1, 3) := by decide +kernel
theorem dX9_status_226 : decode cX9_status 226 = .ok (.goto (-19), 3) := by decide +kernel
theorem dX9_status_229 : decode cX9_status 229 = .ok (.iload_n 2, 1) := by decide +kernel
theorem dX9_status_230 : decode cX9_status 230 = .ok (.ireturn, 1) := by decide +kernel
theorem dX9_status_231 : decode cX9_status 231 = .ok (.iconst 0, 1) := by decide +kernel
theorem dX9_status_232 : decode cX9_status 232 = .ok (.istore_n 3, 1) := by decide +kernel
theorem dX9_status_233 : decode cX9_status 233 = .ok (.iload_n 3, 1) := by decide +kernel
theorem dX9_status_234 : decode cX9_status 234 = .ok (.bipush 40, 2) := by decide +kernel
theorem dX9_status_236 : decode cX9_status 236 = .ok (.if_icmp .ge 18, 3) := by decide +kernel
theorem dX9_status_239 : decode cX9_status 239 = .ok (.iload_n 2, 1) := by decide +kernel
theorem dX9_status_240 : decode cX9_status 240 = .ok (.aload_n 0, 1) := by decide +kernel
theorem dX9_status_241 : decode cX9_status 241 = .ok (.getfield 75, 3) := by decide +kernel
theorem dX9_status_244 : decode cX9_status 244 = .ok (.iload_n 3, 1) := by decide +kernel
theorem dX9_status_245 : decode cX9_status 245 = .ok (.iaload, 1) := by decide +kernel
theorem dX9_status_246 : decode cX9_status 246 = .ok (.iadd, 1) := by decide +kernel
theorem dX9_status_247 : decode cX9_status 247 = .ok (.istore_n 2, 1) := by decide +kernel
theorem dX9_status_248 : decode cX9_status 248 = .ok (.iinc 3 1, 3) := by decide +kernel
theorem dX9_status_251 : decode cX9_status 251 = .ok (.goto (-18), 3) := by decide +kernel
theorem dX9_status_254 : decode cX9_status 254 = .ok (.iload_n 2, 1) := by decide +kernel
theorem dX9_status_255 : decode cX9_status 255 = .ok (.ireturn, 1) := by decide +kernel
theorem dX9_status_256 : decode cX9_status 256 = .ok (.iconst 0, 1) := by decide +kernel
theorem dX9_status_257 : decode cX9_status 257 = .ok (.istore_n 3, 1) := by decide +kernel
theorem dX9_status_258 : decode cX9_status 258 = .ok (.iload_n 3, 1) := by decide +kernel
theorem dX9_status_259 : decode cX9_status 259 = .ok (.bipush 40, 2) := by decide +kernel
theorem dX9_status_261 : decode cX9_status 261 = .ok (.if_icmp .ge 18, 3) := by decide +kernel
theorem dX9_status_264 : decode cX9_status 264 = .ok (.iload_n 2, 1) := by decide +kernel
theorem dX9_status_265 : decode cX9_status 265 = .ok (.aload_n 0, 1) := by decide +kernel
theorem dX9_status_266 : decode cX9_status 266 = .ok (.getfield 78, 3) := by decide +kernel
theorem dX9_status_269 : decode cX9_status 269 = .ok (.iload_n 3, 1) := by decide +kernel
theorem dX9_status_270 : decode cX9_status 270 = .ok (.iaload, 1) := by decide +kernel
theorem dX9_status_271 : decode cX9_status 271 = .ok (.iadd, 1) := by decide +kernel
theorem dX9_status_272 : decode cX9_status 272 = .ok (.istore_n 2, 1) := by decide +kernel
theorem dX9_status_273 : decode cX9_status 273 = .ok (.iinc 3 1, 3) := by decide +kernel
theorem dX9_status_276 : decode cX9_status 276 = .ok (.goto (-18), 3) := by decide +kernel
theorem dX9_status_279 : decode cX9_status 279 = .ok (.iload_n 2, 1) := by decide +kernel
theorem dX9_status_280 : decode cX9_status 280 = .ok (.ireturn, 1) := by decide +kernel
theorem dX9_status_281 : decode cX9_status 281 = .ok (.aload_n 0, 1) := by decide +kernel
theorem dX9_status_282 : decode cX9_status 282 = .ok (.getfield 158, 3) := by decide +kernel
theorem dX9_status_285 : decode cX9_status 285 = .ok (.ifCond .eq 7, 3) := by decide +kernel
theorem dX9_status_288 : decode cX9_status 288 = .ok (.iconst 1, 1) := by decide +kernel
theorem dX9_status_289 : decode cX9_status 289 = .ok (.goto 4, 3) := by decide +kernel
theorem dX9_status_292 : decode cX9_status 292 = .ok (.iconst 0, 1) := by decide +kernel
theorem dX9_status_293 : decode cX9_status 293 = .ok (.ireturn, 1) := by decide +kernel
theorem dX9_status_294 : decode cX9_status 294 = .ok (.iconst 0, 1) := by decide +kernel
theorem dX9_status_295 : decode cX9_status 295 = .ok (.istore_n 3, 1) := by decide +kernel
theorem dX9_status_296 : decode cX9_status 296 = .ok (.iload_n 3, 1) := by decide +kernel
theorem dX9_status_297 : decode cX9_status 297 = .ok (.aload_n 0, 1) := by decide +kernel
theorem dX9_status_298 : decode cX9_status 298 = .ok (.getfield 139, 3) := by decide +kernel
theorem dX9_status_301 : decode cX9_status 301 = .ok (.if_icmp .ge 25, 3) := by decide +kernel
theorem dX9_status_304 : decode cX9_status 304 = .ok (.iload_n 2, 1) := by decide +kernel
theorem dX9_status_305 : decode cX9_status 305 = .ok (.aload_n 0, 1) := by decide +kernel
theorem dX9_status_306 : decode cX9_status 306 = .ok (.iload_n 3, 1) := by decide +kernel
theorem dX9_status_307 : decode cX9_status 307 = .ok (.invokevirtual 196, 3) := by decide +kernel
theorem dX9_status_310 : decode cX9_status 310 = .ok (.ifCond .eq 7, 3) := by decide +kernel
theorem dX9_status_313 : decode cX9_status 313 = .ok (.iconst 1, 1) := by decide +kernel
theorem dX9_status_314 : decode cX9_status 314 = .ok (.goto 4, 3) := by decide +kernel
theorem dX9_status_317 : decode cX9_status 317 = .ok (.iconst 0, 1) := by decide +kernel
theorem dX9_status_318 : decode cX9_status 318 = .ok (.iadd, 1) := by decide +kernel
theorem dX9_status_319 : decode cX9_status 319 = .ok (.istore_n 2, 1) := by decide +kernel
theorem dX9_status_320 : decode cX9_status 320 = .ok (.iinc 3 1, 3) := by decide +kernel
theorem dX9_status_323 : decode cX9_status 323 = .ok (.goto (-27), 3) := by decide +kernel
theorem dX9_status_326 : decode cX9_status 326 = .ok (.iload_n 2, 1) := by decide +kernel
theorem dX9_status_327 : decode cX9_status 327 = .ok (.ireturn, 1) := by decide +kernel
theorem dX9_status_328 : decode cX9_status 328 = .ok (.iconst 0, 1) := by decide +kernel
theorem dX9_status_329 : decode cX9_status 329 = .ok (.istore_n 3, 1) := by decide +kernel
theorem dX9_status_330 : decode cX9_status 330 = .ok (.iload_n 3, 1) := by decide +kernel
theorem dX9_status_331 : decode cX9_status 331 = .ok (.bipush 6, 2) := by decide +kernel
theorem dX9_status_333 : decode cX9_status 333 = .ok (.if_icmp .ge 26, 3) := by decide +kernel
theorem dX9_status_336 : decode cX9_status 336 = .ok (.iload_n 2, 1) := by decide +kernel
theorem dX9_status_337 : decode cX9_status 337 = .ok (.aload_n 0, 1) := by decide +kernel
theorem dX9_status_338 : decode cX9_status 338 = .ok (.getfield 56, 3) := by decide +kernel
theorem dX9_status_341 : decode cX9_status 341 = .ok (.iload_n 3, 1) := by decide +kernel
theorem dX9_status_342 : decode cX9_status 342 = .ok (.baload, 1) := by decide +kernel
theorem dX9_status_343 : decode cX9_status 343 = .ok (.ifCond .eq 7, 3) := by decide +kernel
theorem dX9_status_346 : decode cX9_status 346 = .ok (.iconst 1, 1) := by decide +kernel
theorem dX9_status_347 : decode cX9_status 347 = .ok (.goto 4, 3) := by decide +kernel
theorem dX9_status_350 : decode cX9_status 350 = .ok (.iconst 0, 1) := by decide +kernel
theorem dX9_status_351 : decode cX9_status 351 = .ok (.iadd, 1) := by decide +kernel
theorem dX9_status_352 : decode cX9_status 352 = .ok (.istore_n 2, 1) := by decide +kernel
theorem dX9_status_353 : decode cX9_status 353 = .ok (.iinc 3 1, 3) := by decide +kernel
theorem dX9_status_356 : decode cX9_status 356 = .ok (.goto (-26), 3) := by decide +kernel
theorem dX9_status_359 : decode cX9_status 359 = .ok (.iload_n 2, 1) := by decide +kernel
theorem dX9_status_360 : decode cX9_status 360 = .ok (.ireturn, 1) := by decide +kernel
theorem dX9_status_361 : decode cX9_status 361 = .ok (.aload_n 0, 1) := by decide +kernel
theorem dX9_status_362 : decode cX9_status 362 = .ok (.getfield 62, 3) := by decide +kernel
theorem dX9_status_365 : decode cX9_status 365 = .ok (.ireturn, 1) := by decide +kernel
theorem dX9_status_366 : decode cX9_status 366 = .ok (.aload_n 0, 1) := by decide +kernel
theorem dX9_status_367 : decode cX9_status 367 = .ok (.getfield 66, 3) := by decide +kernel
theorem dX9_status_370 : decode cX9_status 370 = .ok (.ireturn, 1) := by decide +kernel
theorem dX9_status_371 : decode cX9_status 371 = .ok (.aload_n 0, 1) := by decide +kernel
theorem dX9_status_372 : decode cX9_status 372 = .ok (.getfield 69, 3) := by decide +kernel
theorem dX9_status_375 : decode cX9_status 375 = .ok (.ireturn, 1) := by decide +kernel
theorem dX9_status_376 : decode cX9_status 376 = .ok (.iconst (-1), 1) := by decide +kernel
theorem dX9_status_377 : decode cX9_status 377 = .ok (.ireturn, 1) := by decide +kernel
end
section
theorem dL_law_0 : decode cL_law 0 = .ok (.new 7, 3) := by decide +kernel
theorem dL_law_3 : decode cL_law 3 = .ok (.dup, 1) := by decide +kernel
theorem dL_law_4 : decode cL_law 4 = .ok (.invokespecial 9, 3) := by decide +kernel
theorem dL_law_7 : decode cL_law 7 = .ok (.astore_n 1, 1) := by decide +kernel
theorem dL_law_8 : decode cL_law 8 = .ok (.new 10, 3) := by decide +kernel
theorem dL_law_11 : decode cL_law 11 = .ok (.dup, 1) := by decide +kernel
theorem dL_law_12 : decode cL_law 12 = .ok (.invokespecial 12, 3) := by decide +kernel
theorem dL_law_15 : decode cL_law 15 = .ok (.astore_n 2, 1) := by decide +kernel
theorem dL_law_16 : decode cL_law 16 = .ok (.iconst 0, 1) := by decide +kernel
theorem dL_law_17 : decode cL_law 17 = .ok (.istore_n 3, 1) := by decide +kernel
theorem dL_law_18 : decode cL_law 18 = .ok (.iload_n 3, 1) := by decide +kernel
theorem dL_law_19 : decode cL_law 19 = .ok (.aload_n 0, 1) := by decide +kernel
theorem dL_law_20 : decode cL_law 20 = .ok (.arraylength, 1) := by decide +kernel
theorem dL_law_21 : decode cL_law 21 = .ok (.bipush 6, 2) := by decide +kernel
theorem dL_law_23 : decode cL_law 23 = .ok (.isub, 1) := by decide +kernel
theorem dL_law_24 : decode cL_law 24 = .ok (.if_icmp .gt 1177, 3) := by decide +kernel
theorem dL_law_27 : decode cL_law 27 = .ok (.aload_n 0, 1) := by decide +kernel
theorem dL_law_28 : decode cL_law 28 = .ok (.iload_n 3, 1) := by decide +kernel
theorem dL_law_29 : decode cL_law 29 = .ok (.iaload, 1) := by decide +kernel
theorem dL_law_30 : decode cL_law 30 = .ok (.bipush 31, 2) := by decide +kernel
theorem dL_law_32 : decode cL_law 32 = .ok (.iand, 1) := by decide +kernel
theorem dL_law_33 : decode cL_law 33 = .ok (.tableswitch 1162 0 30 #[139, 182, 215, 258, 331, 394, 428, 461, 484, 507, 530, 543, 576, 599, 632, 665, 718, 731, 754, 787, 820, 879, 902, 925, 948, 981, 1021, 1034, 1047, 1080, 1139], 139) := by decide +kernel
theorem dL_law_172 : decode cL_law 172 = .ok (.aload_n 1, 1) := by decide +kernel
theorem dL_law_173 : decode cL_law 173 = .ok (.aload_n 0, 1) := by decide +kernel
theorem dL_law_174 : decode cL_law 174 = .ok (.iload_n 3, 1) := by decide +kernel
theorem dL_law_175 : decode cL_law 175 = .ok (.iconst 1, 1) := by decide +kernel
theorem dL_law_176 : decode cL_law 176 = .ok (.iadd, 1) := by decide +kernel
theorem dL_law_177 : decode cL_law 177 = .ok (.iaload, 1) := by decide +kernel
theorem dL_law_178 : decode cL_law 178 = .ok (.aload_n 0, 1) := by decide +kernel
theorem dL_law_179 : decode cL_law 179 = .ok (.iload_n 3, 1) := by decide +kernel
theorem dL_law_180 : decode cL_law 180 = .ok (.iconst 2, 1) := by decide +kernel
theorem dL_law_181 : decode cL_law 181 = .ok (.iadd, 1) := by decide +kernel
theorem dL_law_182 : decode cL_law 182 = .ok (.iaload, 1) := by decide +kernel
theorem dL_law_183 : decode cL_law 183 = .ok (.aload_n 0, 1) := by decide +kernel
theorem dL_law_184 : decode cL_law 184 = .ok (.iload_n 3, 1) := by decide +kernel
theorem dL_law_185 : decode cL_law 185 = .ok (.iconst 3, 1) := by decide +kernel
theorem dL_law_186 : decode cL_law 186 = .ok (.iadd, 1) := by decide +kernel
theorem dL_law_187 : decode cL_law 187 = .ok (.iaload, 1) := by decide +kernel
theorem dL_law_188 : decode cL_law 188 = .ok (.invokevirtual 13, 3) := by decide +kernel
theorem dL_law_191 : decode cL_law 191 = .ok (.aload_n 2, 1) := by decide +kernel
theorem dL_law_192 : decode cL_law 192 = .ok (.aload_n 0, 1) := by decide +kernel
theorem dL_law_193 : decode cL_law 193 = .ok (.iload_n 3, 1) := by decide +kernel
theorem dL_law_194 : decode cL_law 194 = .ok (.iconst 1, 1) := by decide +kernel
theorem dL_law_195 : decode cL_law 195 = .ok (.iadd, 1) := by decide +kernel
theorem dL_law_196 : decode cL_law 196 = .ok (.iaload, 1) := by decide +kernel
theorem dL_law_197 : decode cL_law 197 = .ok (.aload_n 0, 1) := by decide +kernel
theorem dL_law_198 : decode cL_law 198 = .ok (.iload_n 3, 1) := by decide +kernel
theorem dL_law_199 : decode cL_law 199 = .ok (.iconst 2, 1) := by decide +kernel
theorem dL_law_200 : decode cL_law 200 = .ok (.iadd, 1) := by decide +kernel
theorem dL_law_201 : decode cL_law 201 = .ok (.iaload, 1) := by decide +kernel
theorem dL_law_202 : decode cL_law 202 = .ok (.aload_n 0, 1) := by decide +kernel
theorem dL_law_203 : decode cL_law 203 = .ok (.iload_n 3, 1) := by decide +kernel
theorem dL_law_204 : decode cL_law 204 = .ok (.iconst 3, 1) := by decide +kernel
theorem dL_law_205 : decode cL_law 205 = .ok (.iadd, 1) := by decide +kernel
theorem dL_law_206 : decode cL_law 206 = .ok (.iaload, 1) := by decide +kernel
theorem dL_law_207 : decode cL_law 207 = .ok (.invokevirtual 17, 3) := by decide +kernel
theorem dL_law_210 : decode cL_law 210 = .ok (.if_icmp .eq 985, 3) := by decide +kernel
theorem dL_law_213 : decode cL_law 213 = .ok (.iconst 0, 1) := by decide +kernel
theorem dL_law_214 : decode cL_law 214 = .ok (.ireturn, 1) := by decide +kernel
theorem dL_law_215 : decode cL_law 215 = .ok (.aload_n 1, 1) := by decide +kernel
theorem dL_law_216 : decode cL_law 216 = .ok (.aload_n 0, 1) := by decide +kernel
theorem dL_law_217 : decode cL_law 217 = .ok (.iload_n 3, 1) := by decide +kernel
theorem dL_law_218 : decode cL_law 218 = .ok (.iconst 1, 1) := by decide +kernel
theorem dL_law_219 : decode cL_law 219 = .ok (.iadd, 1) := by decide +kernel
theorem dL_law_220 : decode cL_law 220 = .ok (.iaload, 1) := by decide +kernel
theorem dL_law_221 : decode cL_law 221 = .ok (.aload_n 0, 1) := by decide +kernel
theorem dL_law_222 : decode cL_law 222 = .ok (.iload_n 3, 1) := by decide +kernel
theorem dL_law_223 : decode cL_law 223 = .ok (.iconst 2, 1) := by decide +kernel
theorem dL_law_224 : decode cL_law 224 = .ok (.iadd, 1) := by decide +kernel
theorem dL_law_225 : decode cL_law 225 = .ok (.iaload, 1) := by decide +kernel
theorem dL_law_226 : decode cL_law 226 = .ok (.invokevirtual 18, 3) := by decide +kernel
theorem dL_law_229 : decode cL_law 229 = .ok (.aload_n 2, 1) := by decide +kernel
theorem dL_law_230 : decode cL_law 230 = .ok (.aload_n 0, 1) := by decide +kernel
theorem dL_law_231 : decode cL_law 231 = .ok (.iload_n 3, 1) := by decide +kernel
theorem dL_law_232 : decode cL_law 232 = .ok (.iconst 1, 1) := by decide +kernel
theorem dL_law_233 : decode cL_law 233 = .ok (.iadd, 1) := by decide +kernel
theorem dL_law_234 : decode cL_law 234 = .ok (.iaload, 1) := by decide +kernel
theorem dL_law_235 : decode cL_law 235 = .ok (.aload_n 0, 1) := by decide +kernel
theorem dL_law_236 : decode cL_law 236 = .ok (.iload_n 3, 1) := by decide +kernel
theorem dL_law_237 : decode cL_law 237 = .ok (.iconst 2, 1) := by decide +kernel
theorem dL_law_238 : decode cL_law 238 = .ok (.iadd, 1) := by decide +kernel
theorem dL_law_239 : decode cL_law 239 = .ok (.iaload, 1) := by decide +kernel
theorem dL_law_240 : decode cL_law 240 = .ok (.invokevirtual 22, 3) := by decide +kernel
theorem dL_law_243 : decode cL_law 243 = .ok (.if_icmp .eq 952, 3) := by decide +kernel
theorem dL_law_246 : decode cL_law 246 = .ok (.iconst 0, 1) := by decide +kernel
theorem dL_law_247 : decode cL_law 247 = .ok (.ireturn, 1) := by decide +kernel
theorem dL_law_248 : decode cL_law 248 = .ok (.aload_n 1, 1) := by decide +kernel
theorem dL_law_249 : decode cL_law 249 = .ok (.aload_n 0, 1) := by decide +kernel
theorem dL_law_250 : decode cL_law 250 = .ok (.iload_n 3, 1) := by decide +kernel
theorem dL_law_251 : decode cL_law 251 = .ok (.iconst 1, 1) := by decide +kernel
theorem dL_law_252 : decode cL_law 252 = .ok (.iadd, 1) := by decide +kernel
theorem dL_law_253 : decode cL_law 253 = .ok (.iaload, 1) := by decide +kernel
theorem dL_law_254 : decode cL_law 254 = .ok (.aload_n 0, 1) := by decide +kernel
theorem dL_law_255 : decode cL_law 255 = .ok (.iload_n 3, 1) := by decide +kernel
theorem dL_law_256 : decode cL_law 256 = .ok (.iconst 2, 1) := by decide +kernel
theorem dL_law_257 : decode cL_law 257 = .ok (.iadd, 1) := by decide +kernel
theorem dL_law_258 : decode cL_law 258 = .ok (.iaload, 1) := by decide +kernel
theorem dL_law_259 : decode cL_law 259 = .ok (.aload_n 0, 1) := by decide +kernel
theorem dL_law_260 : decode cL_law 260 = .ok (.iload_n 3, 1) := by decide +kernel
theorem dL_law_261 : decode cL_law 261 = .ok (.iconst 3, 1) := by decide +kernel
theorem dL_law_262 : decode cL_law 262 = .ok (.iadd, 1) := by decide +kernel
theorem dL_law_263 : decode cL_law 263 = .ok (.iaload, 1) := by decide +kernel
theorem dL_law_264 : decode cL_law 264 = .ok (.invokevirtual 23, 3) := by decide +kernel
theorem dL_law_267 : decode cL_law 267 = .ok (.aload_n 2, 1) := by decide +kernel
theorem dL_law_268 : decode cL_law 268 = .ok (.aload_n 0, 1) := by decide +kernel
theorem dL_law_269 : decode cL_law 269 = .ok (.iload_n 3, 1) := by decide +kernel
theorem dL_law_270 : decode cL_law 270 = .ok (.iconst 1, 1) := by decide +kernel
theorem dL_law_271 : decode cL_law 271 = .ok (.iadd, 1) := by decide +kernel
theorem dL_law_272 : decode cL_law 272 = .ok (.iaload, 1) := by decide +kernel
theorem dL_law_273 : decode cL_law 273 = .ok (.aload_n 0, 1) := by decide +kernel
theorem dL_law_274 : decode cL_law 274 = .ok (.iload_n 3, 1) := by decide +kernel
theorem dL_law_275 : decode cL_law 275 = .ok (.iconst 2, 1) := by decide +kernel
theorem dL_law_276 : decode cL_law 276 = .ok (.iadd, 1) := by decide +kernel
theorem dL_law_277 : decode cL_law 277 = .ok (.iaload, 1) := by decide +kernel
theorem dL_law_278 : decode cL_law 278 = .ok (.aload_n 0, 1) := by decide +kernel
theorem dL_law_279 : decode cL_law 279 = .ok (.iload_n 3, 1) := by decide +kernel
theorem dL_law_280 : decode cL_law 280 = .ok (.iconst 3, 1) := by decide +kernel
theorem dL_law_281 : decode cL_law 281 = .ok (.iadd, 1) := by decide +kernel
theorem dL_law_282 : decode cL_law 282 = .ok (.iaload, 1) := by decide +kernel
theorem dL_law_283 : decode cL_law 283 = .ok (.invokevirtual 26, 3) := by decide +kernel
theorem dL_law_286 : decode cL_law 286 = .ok (.if_icmp .eq 909, 3) := by decide +kernel
theorem dL_law_289 : decode cL_law 289 = .ok (.iconst 0, 1) := by decide +kernel
theorem dL_law_290 : decode cL_law 290 = .ok (.ireturn, 1) := by decide +kernel
theorem dL_law_291 : decode cL_law 291 = .ok (.aload_n 1, 1) := by decide +kernel
theorem dL_law_292 : decode cL_law 292 = .ok (.aload_n 0, 1) := by decide +kernel
theorem dL_law_293 : decode cL_law 293 = .ok (.iload_n 3, 1) := by decide +kernel
theorem dL_law_294 : decode cL_law 294 = .ok (.iconst 1, 1) := by decide +kernel
theorem dL_law_295 : decode cL_law 295 = .ok (.iadd, 1) := by decide +kernel
theorem dL_law_296 : decode cL_law 296 = .ok (.iaload, 1) := by decide +kernel
theorem dL_law_297 : decode cL_law 297 = .ok (.aload_n 0, 1) := by decide +kernel
theorem dL_law_298 : decode cL_law 298 = .ok (.iload_n 3, 1) := by decide +kernel
theorem dL_law_299 : decode cL_law 299 = .ok (.iconst 2, 1) := by decide +kernel
theorem dL_law_300 : decode cL_law 300 = .ok (.iadd, 1) := by decide +kernel
theorem dL_law_301 : decode cL_law 301 = .ok (.iaload, 1) := by decide +kernel
theorem dL_law_302 : decode cL_law 302 = .ok (.aload_n 0, 1) := by decide +kernel
theorem dL_law_303 : decode cL_law 303 = .ok (.iload_n 3, 1) := by decide +kernel
theorem dL_law_304 : decode cL_law 304 = .ok (.iconst 3, 1) := by decide +kernel
theorem dL_law_305 : decode cL_law 305 = .ok (.iadd, 1) := by decide +kernel
theorem dL_law_306 : decode cL_law 306 = .ok (.iaload, 1) := by decide +kernel
theorem dL_law_307 : decode cL_law 307 = .ok (.i2l, 1) := by decide +kernel
theorem dL_law_308 : decode cL_law 308 = .ok (.bipush 32, 2) := by decide +kernel
theorem dL_law_310 : decode cL_law 310 = .ok (.lshl, 1) := by decide +kernel
theorem dL_law_311 : decode cL_law 311 = .ok (.aload_n 0, 1) := by decide +kernel
theorem dL_law_312 : decode cL_law 312 = .ok (.iload_n 3, 1) := by decide +kernel
theorem dL_law_313 : decode cL_law 313 = .ok (.iconst 4, 1) := by decide +kernel
theorem dL_law_314 : decode cL_law 314 = .ok (.iadd, 1) := by decide +kernel
theorem dL_law_315 : decode cL_law 315 = .ok (.iaload, 1) := by decide +kernel
theorem dL_law_316 : decode cL_law 316 = .ok (.i2l, 1) := by decide +kernel
theorem dL_law_317 : decode cL_law 317 = .ok (.ldc2_w 27, 3) := by decide +kernel
theorem dL_law_320 : decode cL_law 320 = .ok (.land, 1) := by decide +kernel
theorem dL_law_321 : decode cL_law 321 = .ok (.lor, 1) := by decide +kernel
theorem dL_law_322 : decode cL_law 322 = .ok (.invokevirtual 29, 3) := by decide +kernel
theorem dL_law_325 : decode cL_law 325 = .ok (.aload_n 2, 1) := by decide +kernel
theorem dL_law_326 : decode cL_law 326 = .ok (.aload_n 0, 1) := by decide +kernel
theorem dL_law_327 : decode cL_law 327 = .ok (.iload_n 3, 1) := by decide +kernel
theorem dL_law_328 : decode cL_law 328 = .ok (.iconst 1, 1) := by decide +kernel
theorem dL_law_329 : decode cL_law 329 = .ok (.iadd, 1) := by decide +kernel
theorem dL_law_330 : decode cL_law 330 = .ok (.iaload, 1) := by decide +kernel
theorem dL_law_331 : decode cL_law 331 = .ok (.aload_n 0, 1) := by decide +kernel
theorem dL_law_332 : decode cL_law 332 = .ok (.iload_n 3, 1) := by decide +kernel
theorem dL_law_333 : decode cL_law 333 = .ok (.iconst 2, 1) := by decide +kernel
theorem dL_law_334 : decode cL_law 334 = .ok (.iadd, 1) := by decide +kernel
theorem dL_law_335 : decode cL_law 335 = .ok (.iaload, 1) := by decide +kernel
theorem dL_law_336 : decode cL_law 336 = .ok (.aload_n 0, 1) := by decide +kernel
theorem dL_law_337 : decode cL_law 337 = .ok (.iload_n 3, 1) := by decide +kernel
theorem dL_law_338 : decode cL_law 338 = .ok (.iconst 3, 1) := by decide +kernel
theorem dL_law_339 : decode cL_law 339 = .ok (.iadd, 1) := by decide +kernel
theorem dL_law_340 : decode cL_law 340 = .ok (.iaload, 1) := by decide +kernel
theorem dL_law_341 : decode cL_law 341 = .ok (.i2l, 1) := by decide +kernel
theorem dL_law_342 : decode cL_law 342 = .ok (.bipush 32, 2) := by decide +kernel
theorem dL_law_344 : decode cL_law 344 = .ok (.lshl, 1) := by decide +kernel
theorem dL_law_345 : decode cL_law 345 = .ok (.aload_n 0, 1) := by decide +kernel
theorem dL_law_346 : decode cL_law 346 = .ok (.iload_n 3, 1) := by decide +kernel
theorem dL_law_347 : decode cL_law 347 = .ok (.iconst 4, 1) := by decide +kernel
theorem dL_law_348 : decode cL_law 348 = .ok (.iadd, 1) := by decide +kernel
theorem dL_law_349 : decode cL_law 349 = .ok (.iaload, 1) := by decide +kernel
theorem dL_law_350 : decode cL_law 350 = .ok (.i2l, 1) := by decide +kernel
theorem dL_law_351 : decode cL_law 351 = .ok (.ldc2_w 27, 3) := by decide +kernel
theorem dL_law_354 : decode cL_law 354 = .ok (.land, 1) := by decide +kernel
theorem dL_law_355 : decode cL_law 355 = .ok (.lor, 1) := by decide +kernel
theorem dL_law_356 : decode cL_law 356 = .ok (.invokevirtual 33, 3) := by decide +kernel
theorem dL_law_359 : decode cL_law 359 = .ok (.if_icmp .eq 836, 3) := by decide +kernel
theorem dL_law_362 : decode cL_law 362 = .ok (.iconst 0, 1) := by decide +kernel
theorem dL_law_363 : decode cL_law 363 = .ok (.ireturn, 1) := by decide +kernel
theorem dL_law_364 : decode cL_law 364 = .ok (.aload_n 1, 1) := by decide +kernel
theorem dL_law_365 : decode cL_law 365 = .ok (.aload_n 0, 1) := by decide +kernel
theorem dL_law_366 : decode cL_law 366 = .ok (.iload_n 3, 1) := by decide +kernel
theorem dL_law_367 : decode cL_law 367 = .ok (.iconst 1, 1) := by decide +kernel
theorem dL_law_368 : decode cL_law 368 = .ok (.iadd, 1) := by decide +kernel
theorem dL_law_369 : decode cL_law 369 = .ok (.iaload, 1) := by decide +kernel
theorem dL_law_370 : decode cL_law 370 = .ok (.aload_n 0, 1) := by decide +kernel
theorem dL_law_371 : decode cL_law 371 = .ok (.iload_n 3, 1) := by decide +kernel
theorem dL_law_372 : decode cL_law 372 = .ok (.iconst 2, 1) := by decide +kernel
theorem dL_law_373 : decode cL_law 373 = .ok (.iadd, 1) := by decide +kernel
theorem dL_law_374 : decode cL_law 374 = .ok (.iaload, 1) := by decide +kernel
theorem dL_law_375 : decode cL_law 375 = .ok (.aload_n 0, 1) := by decide +kernel
theorem dL_law_376 : decode cL_law 376 = .ok (.iload_n 3, 1) := by decide +kernel
theorem dL_law_377 : decode cL_law 377 = .ok (.iconst 3, 1) := by decide +kernel
theorem dL_law_378 : decode cL_law 378 = .ok (.iadd, 1) := by decide +kernel
theorem dL_law_379 : decode cL_law 379 = .ok (.iaload, 1) := by decide +kernel
theorem dL_law_380 : decode cL_law 380 = .ok (.aload_n 0, 1) := by decide +kernel
theorem dL_law_381 : decode cL_law 381 = .ok (.iload_n 3, 1) := by decide +kernel
theorem dL_law_382 : decode cL_law 382 = .ok (.iconst 4, 1) := by decide +kernel
theorem dL_law_383 : decode cL_law 383 = .ok (.iadd, 1) := by decide +kernel
theorem dL_law_384 : decode cL_law 384 = .ok (.iaload, 1) := by decide +kernel
theorem dL_law_385 : decode cL_law 385 = .ok (.aload_n 0, 1) := by decide +kernel
theorem dL_law_386 : decode cL_law 386 = .ok (.iload_n 3, 1) := by decide +kernel
theorem dL_law_387 : decode cL_law 387 = .ok (.iconst 5, 1) := by decide +kernel
theorem dL_law_388 : decode cL_law 388 = .ok (.iadd, 1) := by decide +kernel
theorem dL_law_389 : decode cL_law 389 = .ok (.iaload, 1) := by decide +kernel
theorem dL_law_390 : decode cL_law 390 = .ok (.invokevirtual 34, 3) := by decide +kernel
theorem dL_law_393 : decode cL_law 393 = .ok (.aload_n 2, 1) := by decide +kernel
theorem dL_law_394 : decode cL_law 394 = .ok (.aload_n 0, 1) := by decide +kernel
theorem dL_law_395 : decode cL_law 395 = .ok (.iload_n 3, 1) := by decide +kernel
theorem dL_law_396 : decode cL_law 396 = .ok (.iconst 1, 1) := by decide +kernel
theorem dL_law_397 : decode cL_law 397 = .ok (.iadd, 1) := by decide +kernel
theorem dL_law_398 : decode cL_law 398 = .ok (.iaload, 1) := by decide +kernel
theorem dL_law_399 : decode cL_law 399 = .ok (.aload_n 0, 1) := by decide +kernel
theorem dL_law_400 : decode cL_law 400 = .ok (.iload_n 3, 1) := by decide +kernel
theorem dL_law_401 : decode cL_law 401 = .ok (.iconst 2, 1) := by decide +kernel
theorem dL_law_402 : decode cL_law 402 = .ok (.iadd, 1) := by decide +kernel
theorem dL_law_403 : decode cL_law 403 = .ok (.iaload, 1) := by decide +kernel
theorem dL_law_404 : decode cL_law 404 = .ok (.aload_n 0, 1) := by decide +kernel
theorem dL_law_405 : decode cL_law 405 = .ok (.iload_n 3, 1) := by decide +kernel
theorem dL_law_406 : decode cL_law 406 = .ok (.iconst 3, 1) := by decide +kernel
theorem dL_law_407 : decode cL_law 407 = .ok (.iadd, 1) := by decide +kernel
theorem dL_law_408 : decode cL_law 408 = .ok (.iaload, 1) := by decide +kernel
theorem dL_law_409 : decode cL_law 409 = .ok (.aload_n 0, 1) := by decide +kernel
theorem dL_law_410 : decode cL_law 410 = .ok (.iload_n 3, 1) := by decide +kernel
theorem dL_law_411 : decode cL_law 411 = .ok (.iconst 4, 1) := by decide +kernel
theorem dL_law_412 : decode cL_law 412 = .ok (.iadd, 1) := by decide +kernel
theorem dL_law_413 : decode cL_law 413 = .ok (.iaload, 1) := by decide +kernel
theorem dL_law_414 : decode cL_law 414 = .ok (.aload_n 0, 1) := by decide +kernel
theorem dL_law_415 : decode cL_law 415 = .ok (.iload_n 3, 1) := by decide +kernel
theorem dL_law_416 : decode cL_law 416 = .ok (.iconst 5, 1) := by decide +kernel
theorem dL_law_417 : decode cL_law 417 = .ok (.iadd, 1) := by decide +kernel
theorem dL_law_418 : decode cL_law 418 = .ok (.iaload, 1) := by decide +kernel
theorem dL_law_419 : decode cL_law 419 = .ok (.invokevirtual 38, 3) := by decide +kernel
theorem dL_law_422 : decode cL_law 422 = .ok (.if_icmp .eq 773, 3) := by decide +kernel
theorem dL_law_425 : decode cL_law 425 = .ok (.iconst 0, 1) := by decide +kernel
theorem dL_law_426 : decode cL_law 426 = .ok (.ireturn, 1) := by decide +kernel
theorem dL_law_427 : decode cL_law 427 = .ok (.aload_n 1, 1) := by decide +kernel
theorem dL_law_428 : decode cL_law 428 = .ok (.aload_n 0, 1) := by decide +kernel
theorem dL_law_429 : decode cL_law 429 = .ok (.iload_n 3, 1) := by decide +kernel
theorem dL_law_430 : decode cL_law 430 = .ok (.iconst 1, 1) := by decide +kernel
theorem dL_law_431 : decode cL_law 431 = .ok (.iadd, 1) := by decide +kernel
theorem dL_law_432 : decode cL_law 432 = .ok (.iaload, 1) := by decide +kernel
theorem dL_law_433 : decode cL_law 433 = .ok (.aload_n 0, 1) := by decide +kernel
theorem dL_law_434 : decode cL_law 434 = .ok (.iload_n 3, 1) := by decide +kernel
theorem dL_law_435 : decode cL_law 435 = .ok (.iconst 2, 1) := by decide +kernel
theorem dL_law_436 : decode cL_law 436 = .ok (.iadd, 1) := by decide +kernel
theorem dL_law_437 : decode cL_law 437 = .ok (.iaload, 1) := by decide +kernel
theorem dL_law_438 : decode cL_law 438 = .ok (.invokevirtual 39, 3) := by decide +kernel
theorem dL_law_441 : decode cL_law 441 = .ok (.aload_n 2, 1) := by decide +kernel
theorem dL_law_442 : decode cL_law 442 = .ok (.aload_n 0, 1) := by decide +kernel
theorem dL_law_443 : decode cL_law 443 = .ok (.iload_n 3, 1) := by decide +kernel
theorem dL_law_444 : decode cL_law 444 = .ok (.iconst 1, 1) := by decide +kernel
theorem dL_law_445 : decode cL_law 445 = .ok (.iadd, 1) := by decide +kernel
theorem dL_law_446 : decode cL_law 446 = .ok (.iaload, 1) := by decide +kernel
theorem dL_law_447 : decode cL_law 447 = .ok (.aload_n 0, 1) := by decide +kernel
theorem dL_law_448 : decode cL_law 448 = .ok (.iload_n 3, 1) := by decide +kernel
theorem dL_law_449 : decode cL_law 449 = .ok (.iconst 2, 1) := by decide +kernel
theorem dL_law_450 : decode cL_law 450 = .ok (.iadd, 1) := by decide +kernel
theorem dL_law_451 : decode cL_law 451 = .ok (.iaload, 1) := by decide +kernel
theorem dL_law_452 : decode cL_law 452 = .ok (.invokevirtual 43, 3) := by decide +kernel
theorem dL_law_455 : decode cL_law 455 = .ok (.lcmp, 1) := by decide +kernel
theorem dL_law_456 : decode cL_law 456 = .ok (.ifCond .eq 739, 3) := by decide +kernel
theorem dL_law_459 : decode cL_law 459 = .ok (.iconst 0, 1) := by decide +kernel
theorem dL_law_460 : decode cL_law 460 = .ok (.ireturn, 1) := by decide +kernel
theorem dL_law_461 : decode cL_law 461 = .ok (.aload_n 1, 1) := by decide +kernel
theorem dL_law_462 : decode cL_law 462 = .ok (.aload_n 0, 1) := by decide +kernel
theorem dL_law_463 : decode cL_law 463 = .ok (.iload_n 3, 1) := by decide +kernel
theorem dL_law_464 : decode cL_law 464 = .ok (.iconst 1, 1) := by decide +kernel
theorem dL_law_465 : decode cL_law 465 = .ok (.iadd, 1) := by decide +kernel
theorem dL_law_466 : decode cL_law 466 = .ok (.iaload, 1) := by decide +kernel
theorem dL_law_467 : decode cL_law 467 = .ok (.aload_n 0, 1) := by decide +kernel
theorem dL_law_468 : decode cL_law 468 = .ok (.iload_n 3, 1) := by decide +kernel
theorem dL_law_469 : decode cL_law 469 = .ok (.iconst 2, 1) := by decide +kernel
theorem dL_law_470 : decode cL_law 470 = .ok (.iadd, 1) := by decide +kernel
theorem dL_law_471 : decode cL_law 471 = .ok (.iaload, 1) := by decide +kernel
theorem dL_law_472 : decode cL_law 472 = .ok (.invokevirtual 44, 3) := by decide +kernel
theorem dL_law_475 : decode cL_law 475 = .ok (.aload_n 2, 1) := by decide +kernel
theorem dL_law_476 : decode cL_law 476 = .ok (.aload_n 0, 1) := by decide +kernel
theorem dL_law_477 : decode cL_law 477 = .ok (.iload_n 3, 1) := by decide +kernel
theorem dL_law_478 : decode cL_law 478 = .ok (.iconst 1, 1) := by decide +kernel
theorem dL_law_479 : decode cL_law 479 = .ok (.iadd, 1) := by decide +kernel
theorem dL_law_480 : decode cL_law 480 = .ok (.iaload, 1) := by decide +kernel
theorem dL_law_481 : decode cL_law 481 = .ok (.aload_n 0, 1) := by decide +kernel
theorem dL_law_482 : decode cL_law 482 = .ok (.iload_n 3, 1) := by decide +kernel
theorem dL_law_483 : decode cL_law 483 = .ok (.iconst 2, 1) := by decide +kernel
theorem dL_law_484 : decode cL_law 484 = .ok (.iadd, 1) := by decide +kernel
theorem dL_law_485 : decode cL_law 485 = .ok (.iaload, 1) := by decide +kernel
theorem dL_law_486 : decode cL_law 486 = .ok (.invokevirtual 47, 3) := by decide +kernel
theorem dL_law_489 : decode cL_law 489 = .ok (.if_icmp .eq 706, 3) := by decide +kernel
theorem dL_law_492 : decode cL_law 492 = .ok (.iconst 0, 1) := by decide +kernel
theorem dL_law_493 : decode cL_law 493 = .ok (.ireturn, 1) := by decide +kernel
theorem dL_law_494 : decode cL_law 494 = .ok (.aload_n 1, 1) := by decide +kernel
theorem dL_law_495 : decode cL_law 495 = .ok (.aload_n 0, 1) := by decide +kernel
theorem dL_law_496 : decode cL_law 496 = .ok (.iload_n 3, 1) := by decide +kernel
theorem dL_law_497 : decode cL_law 497 = .ok (.iconst 1, 1) := by decide +kernel
theorem dL_law_498 : decode cL_law 498 = .ok (.iadd, 1) := by decide +kernel
theorem dL_law_499 : decode cL_law 499 = .ok (.iaload, 1) := by decide +kernel
theorem dL_law_500 : decode cL_law 500 = .ok (.invokevirtual 48, 3) := by decide +kernel
theorem dL_law_503 : decode cL_law 503 = .ok (.aload_n 2, 1) := by decide +kernel
theorem dL_law_504 : decode cL_law 504 = .ok (.aload_n 0, 1) := by decide +kernel
theorem dL_law_505 : decode cL_law 505 = .ok (.iload_n 3, 1) := by decide +kernel
theorem dL_law_506 : decode cL_law 506 = .ok (.iconst 1, 1) := by decide +kernel
theorem dL_law_507 : decode cL_law 507 = .ok (.iadd, 1) := by decide +kernel
theorem dL_law_508 : decode cL_law 508 = .ok (.iaload, 1) := by decide +kernel
theorem dL_law_509 : decode cL_law 509 = .ok (.invokevirtual 52, 3) := by decide +kernel
theorem dL_law_512 : decode cL_law 512 = .ok (.if_icmp .eq 683, 3) := by decide +kernel
theorem dL_law_515 : decode cL_law 515 = .ok (.iconst 0, 1) := by decide +kernel
theorem dL_law_516 : decode cL_law 516 = .ok (.ireturn, 1) := by decide +kernel
theorem dL_law_517 : decode cL_law 517 = .ok (.aload_n 1, 1) := by decide +kernel
theorem dL_law_518 : decode cL_law 518 = .ok (.aload_n 0, 1) := by decide +kernel
theorem dL_law_519 : decode cL_law 519 = .ok (.iload_n 3, 1) := by decide +kernel
theorem dL_law_520 : decode cL_law 520 = .ok (.iconst 1, 1) := by decide +kernel
theorem dL_law_521 : decode cL_law 521 = .ok (.iadd, 1) := by decide +kernel
theorem dL_law_522 : decode cL_law 522 = .ok (.iaload, 1) := by decide +kernel
theorem dL_law_523 : decode cL_law 523 = .ok (.invokevirtual 53, 3) := by decide +kernel
theorem dL_law_526 : decode cL_law 526 = .ok (.aload_n 2, 1) := by decide +kernel
theorem dL_law_527 : decode cL_law 527 = .ok (.aload_n 0, 1) := by decide +kernel
theorem dL_law_528 : decode cL_law 528 = .ok (.iload_n 3, 1) := by decide +kernel
theorem dL_law_529 : decode cL_law 529 = .ok (.iconst 1, 1) := by decide +kernel
theorem dL_law_530 : decode cL_law 530 = .ok (.iadd, 1) := by decide +kernel
theorem dL_law_531 : decode cL_law 531 = .ok (.iaload, 1) := by decide +kernel
theorem dL_law_532 : decode cL_law 532 = .ok (.invokevirtual 56, 3) := by decide +kernel
theorem dL_law_535 : decode cL_law 535 = .ok (.if_icmp .eq 660, 3) := by decide +kernel
theorem dL_law_538 : decode cL_law 538 = .ok (.iconst 0, 1) := by decide +kernel
theorem dL_law_539 : decode cL_law 539 = .ok (.ireturn, 1) := by decide +kernel
theorem dL_law_540 : decode cL_law 540 = .ok (.aload_n 1, 1) := by decide +kernel
theorem dL_law_541 : decode cL_law 541 = .ok (.aload_n 0, 1) := by decide +kernel
theorem dL_law_542 : decode cL_law 542 = .ok (.iload_n 3, 1) := by decide +kernel
theorem dL_law_543 : decode cL_law 543 = .ok (.iconst 1, 1) := by decide +kernel
theorem dL_law_544 : decode cL_law 544 = .ok (.iadd, 1) := by decide +kernel
theorem dL_law_545 : decode cL_law 545 = .ok (.iaload, 1) := by decide +kernel
theorem dL_law_546 : decode cL_law 546 = .ok (.invokevirtual 57, 3) := by decide +kernel
theorem dL_law_549 : decode cL_law 549 = .ok (.aload_n 2, 1) := by decide +kernel
theorem dL_law_550 : decode cL_law 550 = .ok (.aload_n 0, 1) := by decide +kernel
theorem dL_law_551 : decode cL_law 551 = .ok (.iload_n 3, 1) := by decide +kernel
theorem dL_law_552 : decode cL_law 552 = .ok (.iconst 1, 1) := by decide +kernel
theorem dL_law_553 : decode cL_law 553 = .ok (.iadd, 1) := by decide +kernel
theorem dL_law_554 : decode cL_law 554 = .ok (.iaload, 1) := by decide +kernel
theorem dL_law_555 : decode cL_law 555 = .ok (.invokevirtual 60, 3) := by decide +kernel
theorem dL_law_558 : decode cL_law 558 = .ok (.if_icmp .eq 637, 3) := by decide +kernel
theorem dL_law_561 : decode cL_law 561 = .ok (.iconst 0, 1) := by decide +kernel
theorem dL_law_562 : decode cL_law 562 = .ok (.ireturn, 1) := by decide +kernel
theorem dL_law_563 : decode cL_law 563 = .ok (.aload_n 1, 1) := by decide +kernel
theorem dL_law_564 : decode cL_law 564 = .ok (.invokevirtual 61, 3) := by decide +kernel
theorem dL_law_567 : decode cL_law 567 = .ok (.aload_n 2, 1) := by decide +kernel
theorem dL_law_568 : decode cL_law 568 = .ok (.invokevirtual 65, 3) := by decide +kernel
theorem dL_law_571 : decode cL_law 571 = .ok (.if_icmp .eq 624, 3) := by decide +kernel
theorem dL_law_574 : decode cL_law 574 = .ok (.iconst 0, 1) := by decide +kernel
theorem dL_law_575 : decode cL_law 575 = .ok (.ireturn, 1) := by decide +kernel
theorem dL_law_576 : decode cL_law 576 = .ok (.aload_n 1, 1) := by decide +kernel
theorem dL_law_577 : decode cL_law 577 = .ok (.aload_n 0, 1) := by decide +kernel
theorem dL_law_578 : decode cL_law 578 = .ok (.iload_n 3, 1) := by decide +kernel
theorem dL_law_579 : decode cL_law 579 = .ok (.iconst 1, 1) := by decide +kernel
theorem dL_law_580 : decode cL_law 580 = .ok (.iadd, 1) := by decide +kernel
theorem dL_law_581 : decode cL_law 581 = .ok (.iaload, 1) := by decide +kernel
theorem dL_law_582 : decode cL_law 582 = .ok (.aload_n 0, 1) := by decide +kernel
theorem dL_law_583 : decode cL_law 583 = .ok (.iload_n 3, 1) := by decide +kernel
theorem dL_law_584 : decode cL_law 584 = .ok (.iconst 2, 1) := by decide +kernel
theorem dL_law_585 : decode cL_law 585 = .ok (.iadd, 1) := by decide +kernel
theorem dL_law_586 : decode cL_law 586 = .ok (.iaload, 1) := by decide +kernel
theorem dL_law_587 : decode cL_law 587 = .ok (.invokevirtual 66, 3) := by decide +kernel
theorem dL_law_590 : decode cL_law 590 = .ok (.aload_n 2, 1) := by decide +kernel
theorem dL_law_591 : decode cL_law 591 = .ok (.aload_n 0, 1) := by decide +kernel
theorem dL_law_592 : decode cL_law 592 = .ok (.iload_n 3, 1) := by decide +kernel
theorem dL_law_593 : decode cL_law 593 = .ok (.iconst 1, 1) := by decide +kernel
theorem dL_law_594 : decode cL_law 594 = .ok (.iadd, 1) := by decide +kernel
theorem dL_law_595 : decode cL_law 595 = .ok (.iaload, 1) := by decide +kernel
theorem dL_law_596 : decode cL_law 596 = .ok (.aload_n 0, 1) := by decide +kernel
theorem dL_law_597 : decode cL_law 597 = .ok (.iload_n 3, 1) := by decide +kernel
theorem dL_law_598 : decode cL_law 598 = .ok (.iconst 2, 1) := by decide +kernel
theorem dL_law_599 : decode cL_law 599 = .ok (.iadd, 1) := by decide +kernel
theorem dL_law_600 : decode cL_law 600 = .ok (.iaload, 1) := by decide +kernel
theorem dL_law_601 : decode cL_law 601 = .ok (.invokevirtual 69, 3) := by decide +kernel
theorem dL_law_604 : decode cL_law 604 = .ok (.if_icmp .eq 591, 3) := by decide +kernel
theorem dL_law_607 : decode cL_law 607 = .ok (.iconst 0, 1) := by decide +kernel
theorem dL_law_608 : decode cL_law 608 = .ok (.ireturn, 1) := by decide +kernel
theorem dL_law_609 : decode cL_law 609 = .ok (.aload_n 1, 1) := by decide +kernel
theorem dL_law_610 : decode cL_law 610 = .ok (.aload_n 0, 1) := by decide +kernel
theorem dL_law_611 : decode cL_law 611 = .ok (.iload_n 3, 1) := by decide +kernel
theorem dL_law_612 : decode cL_law 612 = .ok (.iconst 1, 1) := by decide +kernel
theorem dL_law_613 : decode cL_law 613 = .ok (.iadd, 1) := by decide +kernel
theorem dL_law_614 : decode cL_law 614 = .ok (.iaload, 1) := by decide +kernel
theorem dL_law_615 : decode cL_law 615 = .ok (.invokevirtual 70, 3) := by decide +kernel
theorem dL_law_618 : decode cL_law 618 = .ok (.aload_n 2, 1) := by decide +kernel
theorem dL_law_619 : decode cL_law 619 = .ok (.aload_n 0, 1) := by decide +kernel
theorem dL_law_620 : decode cL_law 620 = .ok (.iload_n 3, 1) := by decide +kernel
theorem dL_law_621 : decode cL_law 621 = .ok (.iconst 1, 1) := by decide +kernel
theorem dL_law_622 : decode cL_law 622 = .ok (.iadd, 1) := by decide +kernel
theorem dL_law_623 : decode cL_law 623 = .ok (.iaload, 1) := by decide +kernel
theorem dL_law_624 : decode cL_law 624 = .ok (.invokevirtual 73, 3) := by decide +kernel
theorem dL_law_627 : decode cL_law 627 = .ok (.if_icmp .eq 568, 3) := by decide +kernel
theorem dL_law_630 : decode cL_law 630 = .ok (.iconst 0, 1) := by decide +kernel
theorem dL_law_631 : decode cL_law 631 = .ok (.ireturn, 1) := by decide +kernel
theorem dL_law_632 : decode cL_law 632 = .ok (.aload_n 1, 1) := by decide +kernel
theorem dL_law_633 : decode cL_law 633 = .ok (.aload_n 0, 1) := by decide +kernel
theorem dL_law_634 : decode cL_law 634 = .ok (.iload_n 3, 1) := by decide +kernel
theorem dL_law_635 : decode cL_law 635 = .ok (.iconst 1, 1) := by decide +kernel
theorem dL_law_636 : decode cL_law 636 = .ok (.iadd, 1) := by decide +kernel
theorem dL_law_637 : decode cL_law 637 = .ok (.iaload, 1) := by decide +kernel
theorem dL_law_638 : decode cL_law 638 = .ok (.aload_n 0, 1) := by decide +kernel
theorem dL_law_639 : decode cL_law 639 = .ok (.iload_n 3, 1) := by decide +kernel
theorem dL_law_640 : decode cL_law 640 = .ok (.iconst 2, 1) := by decide +kernel
theorem dL_law_641 : decode cL_law 641 = .ok (.iadd, 1) := by decide +kernel
theorem dL_law_642 : decode cL_law 642 = .ok (.iaload, 1) := by decide +kernel
theorem dL_law_643 : decode cL_law 643 = .ok (.invokevirtual 74, 3) := by decide +kernel
theorem dL_law_646 : decode cL_law 646 = .ok (.aload_n 2, 1) := by decide +kernel
theorem dL_law_647 : decode cL_law 647 = .ok (.aload_n 0, 1) := by decide +kernel
theorem dL_law_648 : decode cL_law 648 = .ok (.iload_n 3, 1) := by decide +kernel
theorem dL_law_649 : decode cL_law 649 = .ok (.iconst 1, 1) := by decide +kernel
theorem dL_law_650 : decode cL_law 650 = .ok (.iadd, 1) := by decide +kernel
theorem dL_law_651 : decode cL_law 651 = .ok (.iaload, 1) := by decide +kernel
theorem dL_law_652 : decode cL_law 652 = .ok (.aload_n 0, 1) := by decide +kernel
theorem dL_law_653 : decode cL_law 653 = .ok (.iload_n 3, 1) := by decide +kernel
theorem dL_law_654 : decode cL_law 654 = .ok (.iconst 2, 1) := by decide +kernel
theorem dL_law_655 : decode cL_law 655 = .ok (.iadd, 1) := by decide +kernel
theorem dL_law_656 : decode cL_law 656 = .ok (.iaload, 1) := by decide +kernel
theorem dL_law_657 : decode cL_law 657 = .ok (.invokevirtual 77, 3) := by decide +kernel
theorem dL_law_660 : decode cL_law 660 = .ok (.if_icmp .eq 535, 3) := by decide +kernel
theorem dL_law_663 : decode cL_law 663 = .ok (.iconst 0, 1) := by decide +kernel
theorem dL_law_664 : decode cL_law 664 = .ok (.ireturn, 1) := by decide +kernel
theorem dL_law_665 : decode cL_law 665 = .ok (.aload_n 1, 1) := by decide +kernel
theorem dL_law_666 : decode cL_law 666 = .ok (.aload_n 0, 1) := by decide +kernel
theorem dL_law_667 : decode cL_law 667 = .ok (.iload_n 3, 1) := by decide +kernel
theorem dL_law_668 : decode cL_law 668 = .ok (.iconst 1, 1) := by decide +kernel
theorem dL_law_669 : decode cL_law 669 = .ok (.iadd, 1) := by decide +kernel
theorem dL_law_670 : decode cL_law 670 = .ok (.iaload, 1) := by decide +kernel
theorem dL_law_671 : decode cL_law 671 = .ok (.aload_n 0, 1) := by decide +kernel
theorem dL_law_672 : decode cL_law 672 = .ok (.iload_n 3, 1) := by decide +kernel
theorem dL_law_673 : decode cL_law 673 = .ok (.iconst 2, 1) := by decide +kernel
theorem dL_law_674 : decode cL_law 674 = .ok (.iadd, 1) := by decide +kernel
theorem dL_law_675 : decode cL_law 675 = .ok (.iaload, 1) := by decide +kernel
theorem dL_law_676 : decode cL_law 676 = .ok (.invokevirtual 78, 3) := by decide +kernel
theorem dL_law_679 : decode cL_law 679 = .ok (.aload_n 2, 1) := by decide +kernel
theorem dL_law_680 : decode cL_law 680 = .ok (.aload_n 0, 1) := by decide +kernel
theorem dL_law_681 : decode cL_law 681 = .ok (.iload_n 3, 1) := by decide +kernel
theorem dL_law_682 : decode cL_law 682 = .ok (.iconst 1, 1) := by decide +kernel
theorem dL_law_683 : decode cL_law 683 = .ok (.iadd, 1) := by decide +kernel
theorem dL_law_684 : decode cL_law 684 = .ok (.iaload, 1) := by decide +kernel
theorem dL_law_685 : decode cL_law 685 = .ok (.aload_n 0, 1) := by decide +kernel
theorem dL_law_686 : decode cL_law 686 = .ok (.iload_n 3, 1) := by decide +kernel
theorem dL_law_687 : decode cL_law 687 = .ok (.iconst 2, 1) := by decide +kernel
theorem dL_law_688 : decode cL_law 688 = .ok (.iadd, 1) := by decide +kernel
theorem dL_law_689 : decode cL_law 689 = .ok (.iaload, 1) := by decide +kernel
theorem dL_law_690 : decode cL_law 690 = .ok (.invokevirtual 81, 3) := by decide +kernel
theorem dL_law_693 : decode cL_law 693 = .ok (.if_icmp .eq 502, 3) := by decide +kernel
theorem dL_law_696 : decode cL_law 696 = .ok (.iconst 0, 1) := by decide +kernel
theorem dL_law_697 : decode cL_law 697 = .ok (.ireturn, 1) := by decide +kernel
theorem dL_law_698 : decode cL_law 698 = .ok (.aload_n 1, 1) := by decide +kernel
theorem dL_law_699 : decode cL_law 699 = .ok (.aload_n 0, 1) := by decide +kernel
theorem dL_law_700 : decode cL_law 700 = .ok (.iload_n 3, 1) := by decide +kernel
theorem dL_law_701 : decode cL_law 701 = .ok (.iconst 1, 1) := by decide +kernel
theorem dL_law_702 : decode cL_law 702 = .ok (.iadd, 1) := by decide +kernel
theorem dL_law_703 : decode cL_law 703 = .ok (.iaload, 1) := by decide +kernel
theorem dL_law_704 : decode cL_law 704 = .ok (.aload_n 0, 1) := by decide +kernel
theorem dL_law_705 : decode cL_law 705 = .ok (.iload_n 3, 1) := by decide +kernel
theorem dL_law_706 : decode cL_law 706 = .ok (.iconst 2, 1) := by decide +kernel
theorem dL_law_707 : decode cL_law 707 = .ok (.iadd, 1) := by decide +kernel
theorem dL_law_708 : decode cL_law 708 = .ok (.iaload, 1) := by decide +kernel
theorem dL_law_709 : decode cL_law 709 = .ok (.aload_n 0, 1) := by decide +kernel
theorem dL_law_710 : decode cL_law 710 = .ok (.iload_n 3, 1) := by decide +kernel
theorem dL_law_711 : decode cL_law 711 = .ok (.iconst 3, 1) := by decide +kernel
theorem dL_law_712 : decode cL_law 712 = .ok (.iadd, 1) := by decide +kernel
theorem dL_law_713 : decode cL_law 713 = .ok (.iaload, 1) := by decide +kernel
theorem dL_law_714 : decode cL_law 714 = .ok (.aload_n 0, 1) := by decide +kernel
theorem dL_law_715 : decode cL_law 715 = .ok (.iload_n 3, 1) := by decide +kernel
theorem dL_law_716 : decode cL_law 716 = .ok (.iconst 4, 1) := by decide +kernel
theorem dL_law_717 : decode cL_law 717 = .ok (.iadd, 1) := by decide +kernel
theorem dL_law_718 : decode cL_law 718 = .ok (.iaload, 1) := by decide +kernel
theorem dL_law_719 : decode cL_law 719 = .ok (.invokevirtual 82, 3) := by decide +kernel
theorem dL_law_722 : decode cL_law 722 = .ok (.aload_n 2, 1) := by decide +kernel
theorem dL_law_723 : decode cL_law 723 = .ok (.aload_n 0, 1) := by decide +kernel
theorem dL_law_724 : decode cL_law 724 = .ok (.iload_n 3, 1) := by decide +kernel
theorem dL_law_725 : decode cL_law 725 = .ok (.iconst 1, 1) := by decide +kernel
theorem dL_law_726 : decode cL_law 726 = .ok (.iadd, 1) := by decide +kernel
theorem dL_law_727 : decode cL_law 727 = .ok (.iaload, 1) := by decide +kernel
theorem dL_law_728 : decode cL_law 728 = .ok (.aload_n 0, 1) := by decide +kernel
theorem dL_law_729 : decode cL_law 729 = .ok (.iload_n 3, 1) := by decide +kernel
theorem dL_law_730 : decode cL_law 730 = .ok (.iconst 2, 1) := by decide +kernel
theorem dL_law_731 : decode cL_law 731 = .ok (.iadd, 1) := by decide +kernel
theorem dL_law_732 : decode cL_law 732 = .ok (.iaload, 1) := by decide +kernel
theorem dL_law_733 : decode cL_law 733 = .ok (.aload_n 0, 1) := by decide +kernel
theorem dL_law_734 : decode cL_law 734 = .ok (.iload_n 3, 1) := by decide +kernel
theorem dL_law_735 : decode cL_law 735 = .ok (.iconst 3, 1) := by decide +kernel
theorem dL_law_736 : decode cL_law 736 = .ok (.iadd, 1) := by decide +kernel
theorem dL_law_737 : decode cL_law 737 = .ok (.iaload, 1) := by decide +kernel
theorem dL_law_738 : decode cL_law 738 = .ok (.aload_n 0, 1) := by decide +kernel
theorem dL_law_739 : decode cL_law 739 = .ok (.iload_n 3, 1) := by decide +kernel
theorem dL_law_740 : decode cL_law 740 = .ok (.iconst 4, 1) := by decide +kernel
theorem dL_law_741 : decode cL_law 741 = .ok (.iadd, 1) := by decide +kernel
theorem dL_law_742 : decode cL_law 742 = .ok (.iaload, 1) := by decide +kernel
theorem dL_law_743 : decode cL_law 743 = .ok (.invokevirtual 86, 3) := by decide +kernel
theorem dL_law_746 : decode cL_law 746 = .ok (.if_icmp .eq 449, 3) := by decide +kernel
theorem dL_law_749 : decode cL_law 749 = .ok (.iconst 0, 1) := by decide +kernel
theorem dL_law_750 : decode cL_law 750 = .ok (.ireturn, 1) := by decide +kernel
theorem dL_law_751 : decode cL_law 751 = .ok (.aload_n 1, 1) := by decide +kernel
theorem dL_law_752 : decode cL_law 752 = .ok (.invokevirtual 87, 3) := by decide +kernel
theorem dL_law_755 : decode cL_law 755 = .ok (.aload_n 2, 1) := by decide +kernel
theorem dL_law_756 : decode cL_law 756 = .ok (.invokevirtual 90, 3) := by decide +kernel
theorem dL_law_759 : decode cL_law 759 = .ok (.if_icmp .eq 436, 3) := by decide +kernel
theorem dL_law_762 : decode cL_law 762 = .ok (.iconst 0, 1) := by decide +kernel
theorem dL_law_763 : decode cL_law 763 = .ok (.ireturn, 1) := by decide +kernel
theorem dL_law_764 : decode cL_law 764 = .ok (.aload_n 1, 1) := by decide +kernel
theorem dL_law_765 : decode cL_law 765 = .ok (.aload_n 0, 1) := by decide +kernel
theorem dL_law_766 : decode cL_law 766 = .ok (.iload_n 3, 1) := by decide +kernel
theorem dL_law_767 : decode cL_law 767 = .ok (.iconst 1, 1) := by decide +kernel
theorem dL_law_768 : decode cL_law 768 = .ok (.iadd, 1) := by decide +kernel
theorem dL_law_769 : decode cL_law 769 = .ok (.iaload, 1) := by decide +kernel
theorem dL_law_770 : decode cL_law 770 = .ok (.invokevirtual 91, 3) := by decide +kernel
theorem dL_law_773 : decode cL_law 773 = .ok (.aload_n 2, 1) := by decide +kernel
theorem dL_law_774 : decode cL_law 774 = .ok (.aload_n 0, 1) := by decide +kernel
theorem dL_law_775 : decode cL_law 775 = .ok (.iload_n 3, 1) := by decide +kernel
theorem dL_law_776 : decode cL_law 776 = .ok (.iconst 1, 1) := by decide +kernel
theorem dL_law_777 : decode cL_law 777 = .ok (.iadd, 1) := by decide +kernel
theorem dL_law_778 : decode cL_law 778 = .ok (.iaload, 1) := by decide +kernel
theorem dL_law_779 : decode cL_law 779 = .ok (.invokevirtual 94, 3) := by decide +kernel
theorem dL_law_782 : decode cL_law 782 = .ok (.if_icmp .eq 413, 3) := by decide +kernel
theorem dL_law_785 : decode cL_law 785 = .ok (.iconst 0, 1) := by decide +kernel
theorem dL_law_786 : decode cL_law 786 = .ok (.ireturn, 1) := by decide +kernel
theorem dL_law_787 : decode cL_law 787 = .ok (.aload_n 1, 1) := by decide +kernel
theorem dL_law_788 : decode cL_law 788 = .ok (.aload_n 0, 1) := by decide +kernel
theorem dL_law_789 : decode cL_law 789 = .ok (.iload_n 3, 1) := by decide +kernel
theorem dL_law_790 : decode cL_law 790 = .ok (.iconst 1, 1) := by decide +kernel
theorem dL_law_791 : decode cL_law 791 = .ok (.iadd, 1) := by decide +kernel
theorem dL_law_792 : decode cL_law 792 = .ok (.iaload, 1) := by decide +kernel
theorem dL_law_793 : decode cL_law 793 = .ok (.aload_n 0, 1) := by decide +kernel
theorem dL_law_794 : decode cL_law 794 = .ok (.iload_n 3, 1) := by decide +kernel
theorem dL_law_795 : decode cL_law 795 = .ok (.iconst 2, 1) := by decide +kernel
theorem dL_law_796 : decode cL_law 796 = .ok (.iadd, 1) := by decide +kernel
theorem dL_law_797 : decode cL_law 797 = .ok (.iaload, 1) := by decide +kernel
theorem dL_law_798 : decode cL_law 798 = .ok (.invokevirtual 95, 3) := by decide +kernel
theorem dL_law_801 : decode cL_law 801 = .ok (.aload_n 2, 1) := by decide +kernel
theorem dL_law_802 : decode cL_law 802 = .ok (.aload_n 0, 1) := by decide +kernel
theorem dL_law_803 : decode cL_law 803 = .ok (.iload_n 3, 1) := by decide +kernel
theorem dL_law_804 : decode cL_law 804 = .ok (.iconst 1, 1) := by decide +kernel
theorem dL_law_805 : decode cL_law 805 = .ok (.iadd, 1) := by decide +kernel
theorem dL_law_806 : decode cL_law 806 = .ok (.iaload, 1) := by decide +kernel
theorem dL_law_807 : decode cL_law 807 = .ok (.aload_n 0, 1) := by decide +kernel
theorem dL_law_808 : decode cL_law 808 = .ok (.iload_n 3, 1) := by decide +kernel
theorem dL_law_809 : decode cL_law 809 = .ok (.iconst 2, 1) := by decide +kernel
theorem dL_law_810 : decode cL_law 810 = .ok (.iadd, 1) := by decide +kernel
theorem dL_law_811 : decode cL_law 811 = .ok (.iaload, 1) := by decide +kernel
theorem dL_law_812 : decode cL_law 812 = .ok (.invokevirtual 98, 3) := by decide +kernel
theorem dL_law_815 : decode cL_law 815 = .ok (.if_icmp .eq 380, 3) := by decide +kernel
theorem dL_law_818 : decode cL_law 818 = .ok (.iconst 0, 1) := by decide +kernel
theorem dL_law_819 : decode cL_law 819 = .ok (.ireturn, 1) := by decide +kernel
theorem dL_law_820 : decode cL_law 820 = .ok (.aload_n 1, 1) := by decide +kernel
theorem dL_law_821 : decode cL_law 821 = .ok (.aload_n 0, 1) := by decide +kernel
theorem dL_law_822 : decode cL_law 822 = .ok (.iload_n 3, 1) := by decide +kernel
theorem dL_law_823 : decode cL_law 823 = .ok (.iconst 1, 1) := by decide +kernel
theorem dL_law_824 : decode cL_law 824 = .ok (.iadd, 1) := by decide +kernel
theorem dL_law_825 : decode cL_law 825 = .ok (.iaload, 1) := by decide +kernel
theorem dL_law_826 : decode cL_law 826 = .ok (.aload_n 0, 1) := by decide +kernel
theorem dL_law_827 : decode cL_law 827 = .ok (.iload_n 3, 1) := by decide +kernel
theorem dL_law_828 : decode cL_law 828 = .ok (.iconst 2, 1) := by decide +kernel
theorem dL_law_829 : decode cL_law 829 = .ok (.iadd, 1) := by decide +kernel
theorem dL_law_830 : decode cL_law 830 = .ok (.iaload, 1) := by decide +kernel
theorem dL_law_831 : decode cL_law 831 = .ok (.invokevirtual 99, 3) := by decide +kernel
theorem dL_law_834 : decode cL_law 834 = .ok (.aload_n 2, 1) := by decide +kernel
theorem dL_law_835 : decode cL_law 835 = .ok (.aload_n 0, 1) := by decide +kernel
theorem dL_law_836 : decode cL_law 836 = .ok (.iload_n 3, 1) := by decide +kernel
theorem dL_law_837 : decode cL_law 837 = .ok (.iconst 1, 1) := by decide +kernel
theorem dL_law_838 : decode cL_law 838 = .ok (.iadd, 1) := by decide +kernel
theorem dL_law_839 : decode cL_law 839 = .ok (.iaload, 1) := by decide +kernel
theorem dL_law_840 : decode cL_law 840 = .ok (.aload_n 0, 1) := by decide +kernel
theorem dL_law_841 : decode cL_law 841 = .ok (.iload_n 3, 1) := by decide +kernel
theorem dL_law_842 : decode cL_law 842 = .ok (.iconst 2, 1) := by decide +kernel
theorem dL_law_843 : decode cL_law 843 = .ok (.iadd, 1) := by decide +kernel
theorem dL_law_844 : decode cL_law 844 = .ok (.iaload, 1) := by decide +kernel
theorem dL_law_845 : decode cL_law 845 = .ok (.invokevirtual 102, 3) := by decide +kernel
theorem dL_law_848 : decode cL_law 848 = .ok (.if_icmp .eq 347, 3) := by decide +kernel
theorem dL_law_851 : decode cL_law 851 = .ok (.iconst 0, 1) := by decide +kernel
theorem dL_law_852 : decode cL_law 852 = .ok (.ireturn, 1) := by decide +kernel
theorem dL_law_853 : decode cL_law 853 = .ok (.aload_n 1, 1) := by decide +kernel
theorem dL_law_854 : decode cL_law 854 = .ok (.aload_n 0, 1) := by decide +kernel
theorem dL_law_855 : decode cL_law 855 = .ok (.iload_n 3, 1) := by decide +kernel
theorem dL_law_856 : decode cL_law 856 = .ok (.iconst 1, 1) := by decide +kernel
theorem dL_law_857 : decode cL_law 857 = .ok (.iadd, 1) := by decide +kernel
theorem dL_law_858 : decode cL_law 858 = .ok (.iaload, 1) := by decide +kernel
theorem dL_law_859 : decode cL_law 859 = .ok (.aload_n 0, 1) := by decide +kernel
theorem dL_law_860 : decode cL_law 860 = .ok (.iload_n 3, 1) := by decide +kernel
theorem dL_law_861 : decode cL_law 861 = .ok (.iconst 2, 1) := by decide +kernel
theorem dL_law_862 : decode cL_law 862 = .ok (.iadd, 1) := by decide +kernel
theorem dL_law_863 : decode cL_law 863 = .ok (.iaload, 1) := by decide +kernel
theorem dL_law_864 : decode cL_law 864 = .ok (.aload_n 0, 1) := by decide +kernel
theorem dL_law_865 : decode cL_law 865 = .ok (.iload_n 3, 1) := by decide +kernel
theorem dL_law_866 : decode cL_law 866 = .ok (.iconst 3, 1) := by decide +kernel
theorem dL_law_867 : decode cL_law 867 = .ok (.iadd, 1) := by decide +kernel
theorem dL_law_868 : decode cL_law 868 = .ok (.iaload, 1) := by decide +kernel
theorem dL_law_869 : decode cL_law 869 = .ok (.ifCond .eq 7, 3) := by decide +kernel
theorem dL_law_872 : decode cL_law 872 = .ok (.iconst 1, 1) := by decide +kernel
theorem dL_law_873 : decode cL_law 873 = .ok (.goto 4, 3) := by decide +kernel
theorem dL_law_876 : decode cL_law 876 = .ok (.iconst 0, 1) := by decide +kernel
theorem dL_law_877 : decode cL_law 877 = .ok (.invokevirtual 103, 3) := by decide +kernel
theorem dL_law_880 : decode cL_law 880 = .ok (.aload_n 2, 1) := by decide +kernel
theorem dL_law_881 : decode cL_law 881 = .ok (.aload_n 0, 1) := by decide +kernel
theorem dL_law_882 : decode cL_law 882 = .ok (.iload_n 3, 1) := by decide +kernel
theorem dL_law_883 : decode cL_law 883 = .ok (.iconst 1, 1) := by decide +kernel
theorem dL_law_884 : decode cL_law 884 = .ok (.iadd, 1) := by decide +kernel
theorem dL_law_885 : decode cL_law 885 = .ok (.iaload, 1) := by decide +kernel
theorem dL_law_886 : decode cL_law 886 = .ok (.aload_n 0, 1) := by decide +kernel
theorem dL_law_887 : decode cL_law 887 = .ok (.iload_n 3, 1) := by decide +kernel
theorem dL_law_888 : decode cL_law 888 = .ok (.iconst 2, 1) := by decide +kernel
theorem dL_law_889 : decode cL_law 889 = .ok (.iadd, 1) := by decide +kernel
theorem dL_law_890 : decode cL_law 890 = .ok (.iaload, 1) := by decide +kernel
theorem dL_law_891 : decode cL_law 891 = .ok (.aload_n 0, 1) := by decide +kernel
theorem dL_law_892 : decode cL_law 892 = .ok (.iload_n 3, 1) := by decide +kernel
theorem dL_law_893 : decode cL_law 893 = .ok (.iconst 3, 1) := by decide +kernel
theorem dL_law_894 : decode cL_law 894 = .ok (.iadd, 1) := by decide +kernel
theorem dL_law_895 : decode cL_law 895 = .ok (.iaload, 1) := by decide +kernel
theorem dL_law_896 : decode cL_law 896 = .ok (.ifCond .eq 7, 3) := by decide +kernel
theorem dL_law_899 : decode cL_law 899 = .ok (.iconst 1, 1) := by decide +kernel
theorem dL_law_900 : decode cL_law 900 = .ok (.goto 4, 3) := by decide +kernel
theorem dL_law_903 : decode cL_law 903 = .ok (.iconst 0, 1) := by decide +kernel
theorem dL_law_904 : decode cL_law 904 = .ok (.invokevirtual 107, 3) := by decide +kernel
theorem dL_law_907 : decode cL_law 907 = .ok (.if_icmp .eq 288, 3) := by decide +kernel
theorem dL_law_910 : decode cL_law 910 = .ok (.iconst 0, 1) := by decide +kernel
theorem dL_law_911 : decode cL_law 911 = .ok (.ireturn, 1) := by decide +kernel
theorem dL_law_912 : decode cL_law 912 = .ok (.aload_n 1, 1) := by decide +kernel
theorem dL_law_913 : decode cL_law 913 = .ok (.aload_n 0, 1) := by decide +kernel
theorem dL_law_914 : decode cL_law 914 = .ok (.iload_n 3, 1) := by decide +kernel
theorem dL_law_915 : decode cL_law 915 = .ok (.iconst 1, 1) := by decide +kernel
theorem dL_law_916 : decode cL_law 916 = .ok (.iadd, 1) := by decide +kernel
theorem dL_law_917 : decode cL_law 917 = .ok (.iaload, 1) := by decide +kernel
theorem dL_law_918 : decode cL_law 918 = .ok (.invokevirtual 108, 3) := by decide +kernel
theorem dL_law_921 : decode cL_law 921 = .ok (.aload_n 2, 1) := by decide +kernel
theorem dL_law_922 : decode cL_law 922 = .ok (.aload_n 0, 1) := by decide +kernel
theorem dL_law_923 : decode cL_law 923 = .ok (.iload_n 3, 1) := by decide +kernel
theorem dL_law_924 : decode cL_law 924 = .ok (.iconst 1, 1) := by decide +kernel
theorem dL_law_925 : decode cL_law 925 = .ok (.iadd, 1) := by decide +kernel
theorem dL_law_926 : decode cL_law 926 = .ok (.iaload, 1) := by decide +kernel
theorem dL_law_927 : decode cL_law 927 = .ok (.invokevirtual 111, 3) := by decide +kernel
theorem dL_law_930 : decode cL_law 930 = .ok (.if_icmp .eq 265, 3) := by decide +kernel
theorem dL_law_933 : decode cL_law 933 = .ok (.iconst 0, 1) := by decide +kernel
theorem dL_law_934 : decode cL_law 934 = .ok (.ireturn, 1) := by decide +kernel
theorem dL_law_935 : decode cL_law 935 = .ok (.aload_n 1, 1) := by decide +kernel
theorem dL_law_936 : decode cL_law 936 = .ok (.aload_n 0, 1) := by decide +kernel
theorem dL_law_937 : decode cL_law 937 = .ok (.iload_n 3, 1) := by decide +kernel
theorem dL_law_938 : decode cL_law 938 = .ok (.iconst 1, 1) := by decide +kernel
theorem dL_law_939 : decode cL_law 939 = .ok (.iadd, 1) := by decide +kernel
theorem dL_law_940 : decode cL_law 940 = .ok (.iaload, 1) := by decide +kernel
theorem dL_law_941 : decode cL_law 941 = .ok (.invokevirtual 112, 3) := by decide +kernel
theorem dL_law_944 : decode cL_law 944 = .ok (.aload_n 2, 1) := by decide +kernel
theorem dL_law_945 : decode cL_law 945 = .ok (.aload_n 0, 1) := by decide +kernel
theorem dL_law_946 : decode cL_law 946 = .ok (.iload_n 3, 1) := by decide +kernel
theorem dL_law_947 : decode cL_law 947 = .ok (.iconst 1, 1) := by decide +kernel
theorem dL_law_948 : decode cL_law 948 = .ok (.iadd, 1) := by decide +kernel
theorem dL_law_949 : decode cL_law 949 = .ok (.iaload, 1) := by decide +kernel
theorem dL_law_950 : decode cL_law 950 = .ok (.invokevirtual 115, 3) := by decide +kernel
theorem dL_law_953 : decode cL_law 953 = .ok (.if_icmp .eq 242, 3) := by decide +kernel
theorem dL_law_956 : decode cL_law 956 = .ok (.iconst 0, 1) := by decide +kernel
theorem dL_law_957 : decode cL_law 957 = .ok (.ireturn, 1) := by decide +kernel
theorem dL_law_958 : decode cL_law 958 = .ok (.aload_n 1, 1) := by decide +kernel
theorem dL_law_959 : decode cL_law 959 = .ok (.aload_n 0, 1) := by decide +kernel
theorem dL_law_960 : decode cL_law 960 = .ok (.iload_n 3, 1) := by decide +kernel
theorem dL_law_961 : decode cL_law 961 = .ok (.iconst 1, 1) := by decide +kernel
theorem dL_law_962 : decode cL_law 962 = .ok (.iadd, 1) := by decide +kernel
theorem dL_law_963 : decode cL_law 963 = .ok (.iaload, 1) := by decide +kernel
theorem dL_law_964 : decode cL_law 964 = .ok (.invokevirtual 116, 3) := by decide +kernel
theorem dL_law_967 : decode cL_law 967 = .ok (.aload_n 2, 1) := by decide +kernel
theorem dL_law_968 : decode cL_law 968 = .ok (.aload_n 0, 1) := by decide +kernel
theorem dL_law_969 : decode cL_law 969 = .ok (.iload_n 3, 1) := by decide +kernel
theorem dL_law_970 : decode cL_law 970 = .ok (.iconst 1, 1) := by decide +kernel
theorem dL_law_971 : decode cL_law 971 = .ok (.iadd, 1) := by decide +kernel
theorem dL_law_972 : decode cL_law 972 = .ok (.iaload, 1) := by decide +kernel
theorem dL_law_973 : decode cL_law 973 = .ok (.invokevirtual 119, 3) := by decide +kernel
theorem dL_law_976 : decode cL_law 976 = .ok (.if_icmp .eq 219, 3) := by decide +kernel
theorem dL_law_979 : decode cL_law 979 = .ok (.iconst 0, 1) := by decide +kernel
theorem dL_law_980 : decode cL_law 980 = .ok (.ireturn, 1) := by decide +kernel
theorem dL_law_981 : decode cL_law 981 = .ok (.aload_n 1, 1) := by decide +kernel
theorem dL_law_982 : decode cL_law 982 = .ok (.aload_n 0, 1) := by decide +kernel
theorem dL_law_983 : decode cL_law 983 = .ok (.iload_n 3, 1) := by decide +kernel
theorem dL_law_984 : decode cL_law 984 = .ok (.iconst 1, 1) := by decide +kernel
theorem dL_law_985 : decode cL_law 985 = .ok (.iadd, 1) := by decide +kernel
theorem dL_law_986 : decode cL_law 986 = .ok (.iaload, 1) := by decide +kernel
theorem dL_law_987 : decode cL_law 987 = .ok (.aload_n 0, 1) := by decide +kernel
theorem dL_law_988 : decode cL_law 988 = .ok (.iload_n 3, 1) := by decide +kernel
theorem dL_law_989 : decode cL_law 989 = .ok (.iconst 2, 1) := by decide +kernel
theorem dL_law_990 : decode cL_law 990 = .ok (.iadd, 1) := by decide +kernel
theorem dL_law_991 : decode cL_law 991 = .ok (.iaload, 1) := by decide +kernel
theorem dL_law_992 : decode cL_law 992 = .ok (.invokevirtual 120, 3) := by decide +kernel
theorem dL_law_995 : decode cL_law 995 = .ok (.aload_n 2, 1) := by decide +kernel
theorem dL_law_996 : decode cL_law 996 = .ok (.aload_n 0, 1) := by decide +kernel
theorem dL_law_997 : decode cL_law 997 = .ok (.iload_n 3, 1) := by decide +kernel
theorem dL_law_998 : decode cL_law 998 = .ok (.iconst 1, 1) := by decide +kernel
theorem dL_law_999 : decode cL_law 999 = .ok (.iadd, 1) := by decide +kernel
theorem dL_law_1000 : decode cL_law 1000 = .ok (.iaload, 1) := by decide +kernel
theorem dL_law_1001 : decode cL_law 1001 = .ok (.aload_n 0, 1) := by decide +kernel
theorem dL_law_1002 : decode cL_law 1002 = .ok (.iload_n 3, 1) := by decide +kernel
theorem dL_law_1003 : decode cL_law 1003 = .ok (.iconst 2, 1) := by decide +kernel
theorem dL_law_1004 : decode cL_law 1004 = .ok (.iadd, 1) := by decide +kernel
theorem dL_law_1005 : decode cL_law 1005 = .ok (.iaload, 1) := by decide +kernel
theorem dL_law_1006 : decode cL_law 1006 = .ok (.invokevirtual 123, 3) := by decide +kernel
theorem dL_law_1009 : decode cL_law 1009 = .ok (.if_icmp .eq 186, 3) := by decide +kernel
theorem dL_law_1012 : decode cL_law 1012 = .ok (.iconst 0, 1) := by decide +kernel
theorem dL_law_1013 : decode cL_law 1013 = .ok (.ireturn, 1) := by decide +kernel
theorem dL_law_1014 : decode cL_law 1014 = .ok (.aload_n 1, 1) := by decide +kernel
theorem dL_law_1015 : decode cL_law 1015 = .ok (.aload_n 0, 1) := by decide +kernel
theorem dL_law_1016 : decode cL_law 1016 = .ok (.iload_n 3, 1) := by decide +kernel
theorem dL_law_1017 : decode cL_law 1017 = .ok (.iconst 1, 1) := by decide +kernel
theorem dL_law_1018 : decode cL_law 1018 = .ok (.iadd, 1) := by decide +kernel
theorem dL_law_1019 : decode cL_law 1019 = .ok (.iaload, 1) := by decide +kernel
theorem dL_law_1020 : decode cL_law 1020 = .ok (.ifCond .eq 7, 3) := by decide +kernel
theorem dL_law_1023 : decode cL_law 1023 = .ok (.iconst 1, 1) := by decide +kernel
theorem dL_law_1024 : decode cL_law 1024 = .ok (.goto 4, 3) := by decide +kernel
theorem dL_law_1027 : decode cL_law 1027 = .ok (.iconst 0, 1) := by decide +kernel
theorem dL_law_1028 : decode cL_law 1028 = .ok (.invokevirtual 124, 3) := by decide +kernel
theorem dL_law_1031 : decode cL_law 1031 = .ok (.aload_n 2, 1) := by decide +kernel
theorem dL_law_1032 : decode cL_law 1032 = .ok (.aload_n 0, 1) := by decide +kernel
theorem dL_law_1033 : decode cL_law 1033 = .ok (.iload_n 3, 1) := by decide +kernel
theorem dL_law_1034 : decode cL_law 1034 = .ok (.iconst 1, 1) := by decide +kernel
theorem dL_law_1035 : decode cL_law 1035 = .ok (.iadd, 1) := by decide +kernel
theorem dL_law_1036 : decode cL_law 1036 = .ok (.iaload, 1) := by decide +kernel
theorem dL_law_1037 : decode cL_law 1037 = .ok (.ifCond .eq 7, 3) := by decide +kernel
theorem dL_law_1040 : decode cL_law 1040 = .ok (.iconst 1, 1) := by decide +kernel
theorem dL_law_1041 : decode cL_law 1041 = .ok (.goto 4, 3) := by decide +kernel
theorem dL_law_1044 : decode cL_law 1044 = .ok (.iconst 0, 1) := by decide +kernel
theorem dL_law_1045 : decode cL_law 1045 = .ok (.invokevirtual 128, 3) := by decide +kernel
theorem dL_law_1048 : decode cL_law 1048 = .ok (.lcmp, 1) := by decide +kernel
theorem dL_law_1049 : decode cL_law 1049 = .ok (.ifCond .eq 146, 3) := by decide +kernel
theorem dL_law_1052 : decode cL_law 1052 = .ok (.iconst 0, 1) := by decide +kernel
theorem dL_law_1053 : decode cL_law 1053 = .ok (.ireturn, 1) := by decide +kernel
theorem dL_law_1054 : decode cL_law 1054 = .ok (.aload_n 1, 1) := by decide +kernel
theorem dL_law_1055 : decode cL_law 1055 = .ok (.invokevirtual 129, 3) := by decide +kernel
theorem dL_law_1058 : decode cL_law 1058 = .ok (.aload_n 2, 1) := by decide +kernel
theorem dL_law_1059 : decode cL_law 1059 = .ok (.invokevirtual 132, 3) := by decide +kernel
theorem dL_law_1062 : decode cL_law 1062 = .ok (.if_icmp .eq 133, 3) := by decide +kernel
theorem dL_law_1065 : decode cL_law 1065 = .ok (.iconst 0, 1) := by decide +kernel
theorem dL_law_1066 : decode cL_law 1066 = .ok (.ireturn, 1) := by decide +kernel
theorem dL_law_1067 : decode cL_law 1067 = .ok (.aload_n 1, 1) := by decide +kernel
theorem dL_law_1068 : decode cL_law 1068 = .ok (.invokevirtual 133, 3) := by decide +kernel
theorem dL_law_1071 : decode cL_law 1071 = .ok (.aload_n 2, 1) := by decide +kernel
theorem dL_law_1072 : decode cL_law 1072 = .ok (.invokevirtual 136, 3) := by decide +kernel
theorem dL_law_1075 : decode cL_law 1075 = .ok (.if_icmp .eq 120, 3) := by decide +kernel
theorem dL_law_1078 : decode cL_law 1078 = .ok (.iconst 0, 1) := by decide +kernel
theorem dL_law_1079 : decode cL_law 1079 = .ok (.ireturn, 1) := by decide +kernel
theorem dL_law_1080 : decode cL_law 1080 = .ok (.aload_n 1, 1) := by decide +kernel
theorem dL_law_1081 : decode cL_law 1081 = .ok (.aload_n 0, 1) := by decide +kernel
theorem dL_law_1082 : decode cL_law 1082 = .ok (.iload_n 3, 1) := by decide +kernel
theorem dL_law_1083 : decode cL_law 1083 = .ok (.iconst 1, 1) := by decide +kernel
theorem dL_law_1084 : decode cL_law 1084 = .ok (.iadd, 1) := by decide +kernel
theorem dL_law_1085 : decode cL_law 1085 = .ok (.iaload, 1) := by decide +kernel
theorem dL_law_1086 : decode cL_law 1086 = .ok (.aload_n 0, 1) := by decide +kernel
theorem dL_law_1087 : decode cL_law 1087 = .ok (.iload_n 3, 1) := by decide +kernel
theorem dL_law_1088 : decode cL_law 1088 = .ok (.iconst 2, 1) := by decide +kernel
theorem dL_law_1089 : decode cL_law 1089 = .ok (.iadd, 1) := by decide +kernel
theorem dL_law_1090 : decode cL_law 1090 = .ok (.iaload, 1) := by decide +kernel
theorem dL_law_1091 : decode cL_law 1091 = .ok (.invokevirtual 137, 3) := by decide +kernel
theorem dL_law_1094 : decode cL_law 1094 = .ok (.aload_n 2, 1) := by decide +kernel
theorem dL_law_1095 : decode cL_law 1095 = .ok (.aload_n 0, 1) := by decide +kernel
theorem dL_law_1096 : decode cL_law 1096 = .ok (.iload_n 3, 1) := by decide +kernel
theorem dL_law_1097 : decode cL_law 1097 = .ok (.iconst 1, 1) := by decide +kernel
theorem dL_law_1098 : decode cL_law 1098 = .ok (.iadd, 1) := by decide +kernel
theorem dL_law_1099 : decode cL_law 1099 = .ok (.iaload, 1) := by decide +kernel
theorem dL_law_1100 : decode cL_law 1100 = .ok (.aload_n 0, 1) := by decide +kernel
theorem dL_law_1101 : decode cL_law 1101 = .ok (.iload_n 3, 1) := by decide +kernel
theorem dL_law_1102 : decode cL_law 1102 = .ok (.iconst 2, 1) := by decide +kernel
theorem dL_law_1103 : decode cL_law 1103 = .ok (.iadd, 1) := by decide +kernel
theorem dL_law_1104 : decode cL_law 1104 = .ok (.iaload, 1) := by decide +kernel
theorem dL_law_1105 : decode cL_law 1105 = .ok (.invokevirtual 140, 3) := by decide +kernel
theorem dL_law_1108 : decode cL_law 1108 = .ok (.if_icmp .eq 87, 3) := by decide +kernel
theorem dL_law_1111 : decode cL_law 1111 = .ok (.iconst 0, 1) := by decide +kernel
theorem dL_law_1112 : decode cL_law 1112 = .ok (.ireturn, 1) := by decide +kernel
theorem dL_law_1113 : decode cL_law 1113 = .ok (.aload_n 1, 1) := by decide +kernel
theorem dL_law_1114 : decode cL_law 1114 = .ok (.aload_n 0, 1) := by decide +kernel
theorem dL_law_1115 : decode cL_law 1115 = .ok (.iload_n 3, 1) := by decide +kernel
theorem dL_law_1116 : decode cL_law 1116 = .ok (.iconst 1, 1) := by decide +kernel
theorem dL_law_1117 : decode cL_law 1117 = .ok (.iadd, 1) := by decide +kernel
theorem dL_law_1118 : decode cL_law 1118 = .ok (.iaload, 1) := by decide +kernel
theorem dL_law_1119 : decode cL_law 1119 = .ok (.aload_n 0, 1) := by decide +kernel
theorem dL_law_1120 : decode cL_law 1120 = .ok (.iload_n 3, 1) := by decide +kernel
theorem dL_law_1121 : decode cL_law 1121 = .ok (.iconst 2, 1) := by decide +kernel
theorem dL_law_1122 : decode cL_law 1122 = .ok (.iadd, 1) := by decide +kernel
theorem dL_law_1123 : decode cL_law 1123 = .ok (.iaload, 1) := by decide +kernel
theorem dL_law_1124 : decode cL_law 1124 = .ok (.aload_n 0, 1) := by decide +kernel
theorem dL_law_1125 : decode cL_law 1125 = .ok (.iload_n 3, 1) := by decide +kernel
theorem dL_law_1126 : decode cL_law 1126 = .ok (.iconst 3, 1) := by decide +kernel
theorem dL_law_1127 : decode cL_law 1127 = .ok (.iadd, 1) := by decide +kernel
theorem dL_law_1128 : decode cL_law 1128 = .ok (.iaload, 1) := by decide +kernel
theorem dL_law_1129 : decode cL_law 1129 = .ok (.ifCond .eq 7, 3) := by decide +kernel
theorem dL_law_1132 : decode cL_law 1132 = .ok (.iconst 1, 1) := by decide +kernel
theorem dL_law_1133 : decode cL_law 1133 = .ok (.goto 4, 3) := by decide +kernel
theorem dL_law_1136 : decode cL_law 1136 = .ok (.iconst 0, 1) := by decide +kernel
theorem dL_law_1137 : decode cL_law 1137 = .ok (.invokevirtual 141, 3) := by decide +kernel
theorem dL_law_1140 : decode cL_law 1140 = .ok (.aload_n 2, 1) := by decide +kernel
theorem dL_law_1141 : decode cL_law 1141 = .ok (.aload_n 0, 1) := by decide +kernel
theorem dL_law_1142 : decode cL_law 1142 = .ok (.iload_n 3, 1) := by decide +kernel
theorem dL_law_1143 : decode cL_law 1143 = .ok (.iconst 1, 1) := by decide +kernel
theorem dL_law_1144 : decode cL_law 1144 = .ok (.iadd, 1) := by decide +kernel
theorem dL_law_1145 : decode cL_law 1145 = .ok (.iaload, 1) := by decide +kernel
theorem dL_law_1146 : decode cL_law 1146 = .ok (.aload_n 0, 1) := by decide +kernel
theorem dL_law_1147 : decode cL_law 1147 = .ok (.iload_n 3, 1) := by decide +kernel
theorem dL_law_1148 : decode cL_law 1148 = .ok (.iconst 2, 1) := by decide +kernel
theorem dL_law_1149 : decode cL_law 1149 = .ok (.iadd, 1) := by decide +kernel
theorem dL_law_1150 : decode cL_law 1150 = .ok (.iaload, 1) := by decide +kernel
theorem dL_law_1151 : decode cL_law 1151 = .ok (.aload_n 0, 1) := by decide +kernel
theorem dL_law_1152 : decode cL_law 1152 = .ok (.iload_n 3, 1) := by decide +kernel
theorem dL_law_1153 : decode cL_law 1153 = .ok (.iconst 3, 1) := by decide +kernel
theorem dL_law_1154 : decode cL_law 1154 = .ok (.iadd, 1) := by decide +kernel
theorem dL_law_1155 : decode cL_law 1155 = .ok (.iaload, 1) := by decide +kernel
theorem dL_law_1156 : decode cL_law 1156 = .ok (.ifCond .eq 7, 3) := by decide +kernel
theorem dL_law_1159 : decode cL_law 1159 = .ok (.iconst 1, 1) := by decide +kernel
theorem dL_law_1160 : decode cL_law 1160 = .ok (.goto 4, 3) := by decide +kernel
theorem dL_law_1163 : decode cL_law 1163 = .ok (.iconst 0, 1) := by decide +kernel
theorem dL_law_1164 : decode cL_law 1164 = .ok (.invokevirtual 144, 3) := by decide +kernel
theorem dL_law_1167 : decode cL_law 1167 = .ok (.if_icmp .eq 28, 3) := by decide +kernel
theorem dL_law_1170 : decode cL_law 1170 = .ok (.iconst 0, 1) := by decide +kernel
theorem dL_law_1171 : decode cL_law 1171 = .ok (.ireturn, 1) := by decide +kernel
theorem dL_law_1172 : decode cL_law 1172 = .ok (.aload_n 1, 1) := by decide +kernel
theorem dL_law_1173 : decode cL_law 1173 = .ok (.aload_n 0, 1) := by decide +kernel
theorem dL_law_1174 : decode cL_law 1174 = .ok (.iload_n 3, 1) := by decide +kernel
theorem dL_law_1175 : decode cL_law 1175 = .ok (.iconst 1, 1) := by decide +kernel
theorem dL_law_1176 : decode cL_law 1176 = .ok (.iadd, 1) := by decide +kernel
theorem dL_law_1177 : decode cL_law 1177 = .ok (.iaload, 1) := by decide +kernel
theorem dL_law_1178 : decode cL_law 1178 = .ok (.invokevirtual 145, 3) := by decide +kernel
theorem dL_law_1181 : decode cL_law 1181 = .ok (.aload_n 2, 1) := by decide +kernel
theorem dL_law_1182 : decode cL_law 1182 = .ok (.aload_n 0, 1) := by decide +kernel
theorem dL_law_1183 : decode cL_law 1183 = .ok (.iload_n 3, 1) := by decide +kernel
theorem dL_law_1184 : decode cL_law 1184 = .ok (.iconst 1, 1) := by decide +kernel
theorem dL_law_1185 : decode cL_law 1185 = .ok (.iadd, 1) := by decide +kernel
theorem dL_law_1186 : decode cL_law 1186 = .ok (.iaload, 1) := by decide +kernel
theorem dL_law_1187 : decode cL_law 1187 = .ok (.invokevirtual 148, 3) := by decide +kernel
theorem dL_law_1190 : decode cL_law 1190 = .ok (.if_icmp .eq 5, 3) := by decide +kernel
theorem dL_law_1193 : decode cL_law 1193 = .ok (.iconst 0, 1) := by decide +kernel
theorem dL_law_1194 : decode cL_law 1194 = .ok (.ireturn, 1) := by decide +kernel
theorem dL_law_1195 : decode cL_law 1195 = .ok (.iinc 3 6, 3) := by decide +kernel
theorem dL_law_1198 : decode cL_law 1198 = .ok (.goto (-1180), 3) := by decide +kernel
theorem dL_law_1201 : decode cL_law 1201 = .ok (.iconst 1, 1) := by decide +kernel
theorem dL_law_1202 : decode cL_law 1202 = .ok (.ireturn, 1) := by decide +kernel
end
section
/-! ===== the judgement V: a method at a place, locals and stack by relative addresses, the memory as three functions ===== -/
def lw0 : List Cond := lw_tbl.filter goodWord
theorem lw0_in {n : Nat} {w : Cond} (h : lw_tbl[n]? = some w) (g : goodWord w = true) : w ∈ lw0 := List.mem_filter.mpr ⟨List.mem_of_getElem? h, g⟩
theorem lw0_good {w : Cond} (h : w ∈ lw0) : (w.onTables && w.keeps) = true ∨ ∃ ty, w = .arrayClass ty := good_of_word (List.mem_filter.mp h).2
abbrev GG : Type := (Launch × va_G × (Nat → ClassId)) × Nat × Nat × Nat × (UInt32 → Value)
def gl (G : GG) : Launch := G.1.1
def gD (G : GG) : va_G := G.1.2.1
def gA (G : GG) (t : Nat) : ClassId := G.1.2.2 t
def gB (G : GG) : Nat := G.2.1
def gs (G : GG) : Nat := G.2.2.1
def gv (G : GG) : Nat := G.2.2.2.1
def gx (G : GG) (w : UInt32) : Value := G.2.2.2.2 w
def AA (G : GG) : Nat → Prop := fun q => gB G ≤ q
abbrev Mem : Type := Nat × (Nat → Nat → Int32) × (Nat → Nat → Int64) × (Nat → Nat → Option Nat)
def kls : List vw_C := [(RX0, TX0, 4), (RX1, TX1, 14), (RX2, TX2, 2), (RX3, TX3, 4), (RX4, TX4, 4), (RX5, TX5, 4), (RX6, TX6, 6), (RX7, TX7, 10), (RX8, TX8, 10), (RX9, TX9, 46)]
/-- which fields of a class are references -/
def rfT : List (List Nat) := [[0, 1], [3, 4], [], [], [0], [0, 1, 2], [0, 1, 2, 3], [0, 1, 2, 3, 4, 5], [0, 1, 2, 3, 4, 5, 6], [0, 1, 2, 3, 4, 5, 6, 7, 8, 9, 10, 11, 12, 13, 14, 15, 16, 23, 24, 25, 26, 27, 28, 29, 30, 31, 32, 33, 34, 35, 37, 38, 39, 40, 41, 43, 44, 45]]
/-- the cells in the order in which they are made: tag (a class's number; 10 int[], 11 long[], 12 boolean[], 13 Door[], 14 Shelf[]) and length -/
def layT : List (Nat × Nat) := [(8, 10), (14, 8), (13, 24), (10, 8), (3, 4), (0, 4), (10, 40), (10, 40), (7, 10), (10, 6), (10, 6), (10, 6), (10, 6), (10, 6), (10, 6), (6, 6), (10, 24), (10, 24), (2, 2), (5, 4), (10, 24), (10, 10), (10, 10), (4, 4), (11, 30), (4, 4), (11, 30), (4, 4), (11, 30), (4, 4), (11, 30), (4, 4), (11, 30), (4, 4), (11, 30), (4, 4), (11, 30), (4, 4), (11, 30), (9, 46), (10, 24), (10, 24), (10, 24), (10, 24), (10, 288), (10, 24), (10, 24), (10, 288), (10, 24), (10, 24), (10, 24), (10, 24), (12, 24), (12, 288), (12, 36), (12, 6), (12, 24), (10, 40), (10, 40), (10, 8), (10, 8), (10, 8), (10, 8), (11, 240), (11, 30), (10, 6), (10, 6), (10, 6), (10, 6), (10, 6), (10, 24), (10, 24), (10, 24), (12, 24), (12, 24), (10, 10), (10, 10), (10, 4)]
def lay (k : Nat) : Nat × Nat := if k < 78 then layT.getD k (99, 0) else if k < 150 then (if (k - 78) % 3 = 0 then (1, 14) else (10, 12)) else (99, 0)
def kdT (t j : Nat) : Nat := if t = 11 then 1 else if t = 13 then 2 else if t = 14 then 2 else if (rfT.getD t []).contains j then 2 else 0
def kd (k j : Nat) : Nat := kdT (lay k).1 j
def tyl (G : GG) : List (ClassId × FieldType) := [(gA G 10, .int), (gA G 11, .long), (gA G 12, .boolean), (gA G 13, .object RX1), (gA G 14, .object RX4)]
def tv (G : GG) : Value → Value
  | .ref k => .ref (gB G + k)
  | .float w => gx G w
  | v => v
def isU : Value → Bool
  | .float w => w == 0
  | _ => false
abbrev UU : Value := .float 0
def sv (G : GG) (μ : Mem) (k j : Nat) : Value := if kd k j = 0 then .int (μ.2.1 k j) else if kd k j = 1 then .long (μ.2.2.1 k j) else va_rf ((μ.2.2.2 k j).map (fun q => gB G + q))
def Rep (G : GG) (μ : Mem) (H : Heap) : Prop := H.size = gB G + μ.1 ∧ ∀ k, k < μ.1 → (10 ≤ (lay k).1 → H[gB G + k]? = some (arrV (gA G (lay k).1) (lay k).2 (sv G μ k))) ∧ ((lay k).1 < 10 → t_OB (gB G + k) ((gD G).1 (lay k).1) (lay k).2 ((gD G).2 (lay k).1) H (sv G μ k))
/-- one of an array's places has changed -/
theorem Rep.arr {G : GG} {μ μ' : Mem} {H H' : Heap} {k j : Nat} {v : Value} (h : Rep G μ H) (hk : k < μ.1) (ht : 10 ≤ (lay k).1) (e : H'[gB G + k]? = some ((arrV (gA G (lay k).1) (lay k).2 (sv G μ k)).setSlot j v)) (z : H'.size = H.size) (oq : ∀ q, q ≠ gB G + k → H'[q]? = H[q]?) (hn : μ'.1 = μ.1) (hv : ∀ x y, sv G μ' x y = if x = k ∧ y = j then v else sv G μ x y) : Rep G μ' H' := by
  refine ⟨by rw [z, h.1, hn], fun x hx => ?_⟩
  rw [hn] at hx
  by_cases hxk : x = k
  · subst hxk
    refine ⟨fun _ => ?_, fun h1 => by omega⟩
    rw [e, arrV_store]
    congr 2
    funext y
    rw [hv x y]
    by_cases hy : y = j
    · simp [updV, hy]
    · simp [updV, hy]
  · have e1 : sv G μ' x = sv G μ x := by
      funext y
      rw [hv x y, if_neg (fun q => hxk q.1)]
    have e2 : H'[gB G + x]? = H[gB G + x]? := oq _ (by omega)
    rw [e1]
    exact ⟨fun q => by rw [e2]; exact (h.2 x hx).1 q, fun q => ((h.2 x hx).2 q).kept e2⟩
/-- one of an object's fields has changed -/
theorem Rep.obj {G : GG} {μ μ' : Mem} {H H' : Heap} {k j : Nat} {v : Value} (h : Rep G μ H) (hk : k < μ.1) (ht : (lay k).1 < 10) (e : t_OB (gB G + k) ((gD G).1 (lay k).1) (lay k).2 ((gD G).2 (lay k).1) H' (updV (sv G μ k) j v)) (z : H'.size = H.size) (oq : ∀ q, q ≠ gB G + k → H'[q]? = H[q]?) (hn : μ'.1 = μ.1) (hv : ∀ x y, sv G μ' x y = if x = k ∧ y = j then v else sv G μ x y) : Rep G μ' H' := by
  refine ⟨by rw [z, h.1, hn], fun x hx => ?_⟩
  rw [hn] at hx
  by_cases hxk : x = k
  · subst hxk
    refine ⟨fun h1 => by omega, fun _ => e.to (fun y _ => ?_)⟩
    rw [hv x y]
    by_cases hy : y = j
    · simp [updV, hy]
    · simp [updV, hy]
  · have e1 : sv G μ' x = sv G μ x := by
      funext y
      rw [hv x y, if_neg (fun q => hxk q.1)]
    have e2 : H'[gB G + x]? = H[gB G + x]? := oq _ (by omega)
    rw [e1]
    exact ⟨fun q => by rw [e2]; exact (h.2 x hx).1 q, fun q => ((h.2 x hx).2 q).kept e2⟩
/-- a cell more -/
theorem Rep.push {G : GG} {μ μ' : Mem} {H H' : Heap} (h : Rep G μ H) (z : H'.size = H.size + 1) (oq : ∀ q, q < H.size → H'[q]? = H[q]?) (hn : μ'.1 = μ.1 + 1) (hv : ∀ x y, x < μ.1 → sv G μ' x y = sv G μ x y) (hc : (10 ≤ (lay μ.1).1 → H'[gB G + μ.1]? = some (arrV (gA G (lay μ.1).1) (lay μ.1).2 (sv G μ' μ.1))) ∧ ((lay μ.1).1 < 10 → t_OB (gB G + μ.1) ((gD G).1 (lay μ.1).1) (lay μ.1).2 ((gD G).2 (lay μ.1).1) H' (sv G μ' μ.1))) : Rep G μ' H' := by
  refine ⟨by rw [z, h.1, hn]; omega, fun x hx => ?_⟩
  rw [hn] at hx
  by_cases hxk : x = μ.1
  · rw [hxk]; exact hc
  · have hl : x < μ.1 := by omega
    have e1 : sv G μ' x = sv G μ x := by
      funext y
      exact hv x y hl
    have e2 : H'[gB G + x]? = H[gB G + x]? := oq _ (by rw [h.1]; omega)
    rw [e1]
    exact ⟨fun q => by rw [e2]; exact (h.2 x hl).1 q, fun q => ((h.2 x hl).2 q).kept e2⟩
def u2 {α : Type} (f : Nat → Nat → α) (a k : Nat) (v : α) : Nat → Nat → α := fun x j => if x = a ∧ j = k then v else f x j
theorem sv_uI {G : GG} {n : Nat} {I : Nat → Nat → Int32} {L : Nat → Nat → Int64} {P : Nat → Nat → Option Nat} {a k : Nat} {v : Int32} (h : kd a k = 0) (x y : Nat) : sv G (n, u2 I a k v, L, P) x y = if x = a ∧ y = k then .int v else sv G (n, I, L, P) x y := by
  by_cases hc : x = a ∧ y = k
  · obtain ⟨rfl, rfl⟩ := hc
    simp [sv, h, u2]
  · simp only [sv, u2, if_neg hc]
theorem sv_uL {G : GG} {n : Nat} {I : Nat → Nat → Int32} {L : Nat → Nat → Int64} {P : Nat → Nat → Option Nat} {a k : Nat} {v : Int64} (h : kd a k = 1) (x y : Nat) : sv G (n, I, u2 L a k v, P) x y = if x = a ∧ y = k then .long v else sv G (n, I, L, P) x y := by
  by_cases hc : x = a ∧ y = k
  · obtain ⟨rfl, rfl⟩ := hc
    simp [sv, h, u2]
  · simp only [sv, u2, if_neg hc]
theorem sv_uP {G : GG} {n : Nat} {I : Nat → Nat → Int32} {L : Nat → Nat → Int64} {P : Nat → Nat → Option Nat} {a k : Nat} {v : Option Nat} (h : kd a k = 2) (x y : Nat) : sv G (n, I, L, u2 P a k v) x y = if x = a ∧ y = k then va_rf (v.map (fun q => gB G + q)) else sv G (n, I, L, P) x y := by
  by_cases hc : x = a ∧ y = k
  · obtain ⟨rfl, rfl⟩ := hc
    simp [sv, h, u2]
  · simp only [sv, u2, if_neg hc]
theorem sv_I {G : GG} {n : Nat} {I : Nat → Nat → Int32} {L : Nat → Nat → Int64} {P : Nat → Nat → Option Nat} {a k : Nat} (h : kd a k = 0) : sv G (n, I, L, P) a k = .int (I a k) := by simp [sv, h]
theorem sv_L {G : GG} {n : Nat} {I : Nat → Nat → Int32} {L : Nat → Nat → Int64} {P : Nat → Nat → Option Nat} {a k : Nat} (h : kd a k = 1) : sv G (n, I, L, P) a k = .long (L a k) := by simp [sv, h]
theorem sv_P {G : GG} {n : Nat} {I : Nat → Nat → Int32} {L : Nat → Nat → Int64} {P : Nat → Nat → Option Nat} {a k q : Nat} (h : kd a k = 2) (hp : P a k = some q) : sv G (n, I, L, P) a k = .ref (gB G + q) := by simp [sv, h, hp, va_rf]
theorem sv_N {G : GG} {n : Nat} {I : Nat → Nat → Int32} {L : Nat → Nat → Int64} {P : Nat → Nat → Option Nat} {a k : Nat} (h : kd a k = 2) (hp : P a k = none) : sv G (n, I, L, P) a k = .null := by simp [sv, h, hp, va_rf]
/-! the tables and what is never written -/
def nestL : List (String × Nat × MethodName) := [(RX8, 27, yX3_init), (RX8, 34, yX0_init), (RX8, 48, yX6_init), (RX8, 53, yX4_init), (RX6, 20, yX2_init), (RX6, 27, yX5_init)]
def SS (G : GG) (U : State) : Prop := vk_S 1 [3] [[107, 112, 99]] (fun _ => gs G) (fun _ => gv G) (AA G) U U.heap ∧ vk_R "CensusNight$Law" 41 "kpc" (gs G) U ∧ va_Z "java/lang/String" "COMPACT_STRINGS" "Z" (.int 1) (AA G) U U.heap ∧ va_Z "jdk/internal/util/Preconditions" "SIOOBE_FORMATTER" "Ljava/util/function/BiFunction;" (gx G 4) (AA G) U U.heap ∧ gx G 2 = .ref (gs G) ∧ gx G 3 = .ref (gv G)
def KK (G : GG) (U : State) : Prop := va_K (gD G) kls (tyl G) U ∧ gB G ≤ U.heap.size ∧ (∀ q ∈ nestL, va_Nw (.methodLinkNest q.1 q.2.1 q.2.2 "CensusNight") U) ∧ SS G U
theorem SS.calling {G : GG} {U : State} {g : JFrame} {mk : MethodId} {a : Array Value} (h : SS G U) : SS G (U.calling g mk a) := by
  obtain ⟨h1, h2, h3, h4, h5, h6⟩ := h
  exact ⟨vk_S.moved (u := U) (U := U.calling g mk a) (Vm.Alike.refl U.vm) h1, vk_R.same rfl h2, va_Z.moved (u := U) (U := U.calling g mk a) (Vm.Alike.refl U.vm) h3, va_Z.moved (u := U) (U := U.calling g mk a) (Vm.Alike.refl U.vm) h4, h5, h6⟩
theorem KK.calling {G : GG} {U : State} {g : JFrame} {mk : MethodId} {a : Array Value} (h : KK G U) : KK G (U.calling g mk a) := by
  obtain ⟨h1, h2, h3, h4⟩ := h
  exact ⟨va_K.moved (u := U) (U := U.calling g mk a) (Vm.Alike.refl U.vm) h1, h2, fun q hq => va_tabs rfl (rfl : U.vm = (U.calling g mk a).vm) (h3 q hq), h4.calling⟩
theorem KK.moved {G : GG} {s U : State} {H : Heap} {locs : List Loc} (h : KK G s) (hS : va_S (AA G) s.heap H locs) (hU : U.heap = H) (hW : s.WarmedH U.vm) : KK G U := by
  obtain ⟨h1, h2, h3, h4, h5, h6, h7, h8, h9⟩ := h
  refine ⟨va_K.moved hW.alike h1, by rw [hU]; exact Nat.le_trans h2 hS.1, fun q hq => va_Nw.warmM hW (h3 q hq), ?_, vk_R.warm hW h5, ?_, ?_, h8, h9⟩
  · rw [hU]; exact vk_S.moved hW.alike (h4.kept hS.2.1)
  · rw [hU]; exact va_Z.moved hW.alike (h6.kept hS.2.1)
  · rw [hU]; exact va_Z.moved hW.alike (h7.kept hS.2.1)
/-! locals -/
def prs (G : GG) (ls : List Value) : List (Nat × Value) := (List.range ls.length).filterMap (fun i => (ls[i]?).bind (fun v => if isU v then none else some (i, tv G v)))
theorem prs_mem {G : GG} {ls : List Value} {i : Nat} {v : Value} (h : ls[i]? = some v) (hu : isU v = false) : (i, tv G v) ∈ prs G ls := by
  refine List.mem_filterMap.mpr ⟨i, List.mem_range.mpr (List.getElem?_eq_some_iff.mp h).1, ?_⟩
  rw [h]
  simp [hu]
theorem prs_of {G : GG} {ls : List Value} {q : Nat × Value} (h : q ∈ prs G ls) : ∃ v, ls[q.1]? = some v ∧ isU v = false ∧ q.2 = tv G v := by
  obtain ⟨i, -, hi⟩ := List.mem_filterMap.mp h
  cases hv : ls[i]? with
  | none => rw [hv] at hi; simp at hi
  | some v =>
    rw [hv] at hi
    cases hu : isU v with
    | true => simp [hu] at hi
    | false =>
      simp [hu] at hi
      subst hi
      exact ⟨v, hv, hu, rfl⟩
def LR (G : GG) (lr : Array Slot) (nL : Nat) (ls : List Value) : Prop := ls.length = nL ∧ lv_has lr nL (prs G ls)
theorem LR.at {G : GG} {lr : Array Slot} {nL i : Nat} {ls : List Value} {v : Value} (h : LR G lr nL ls) (hi : ls[i]? = some v) (hu : isU v = false) : lr[i]? = some (.val (tv G v)) := h.2.2.2 _ (prs_mem hi hu)
theorem LR.st {G : GG} {lr : Array Slot} {nL i : Nat} {ls : List Value} {v : Value} (h0 : ls.length = nL) (hu : isU v = false) (hp : ∀ w, ls[i - 1]? = some w → 0 < i → (tv G w).category = 1) (h : lv_has lr nL ((i, tv G v) :: (prs G ls).filter (fun q => !(q.1 == i) && !(q.1 + 1 == i && q.2.category == 2)))) : LR G lr nL (ls.set i v) := by
  refine ⟨by rw [List.length_set]; exact h0, h.1, h.2.1, fun q hq => ?_⟩
  obtain ⟨w, h1, h2, h3⟩ := prs_of hq
  refine h.2.2 q ?_
  by_cases hqi : q.1 = i
  · rw [hqi] at h1
    have hl : i < ls.length := by
      have := (List.getElem?_eq_some_iff.mp h1).1
      rw [List.length_set] at this
      exact this
    rw [List.getElem?_set_self hl] at h1
    cases h1
    obtain ⟨q1, q2⟩ := q
    simp only at hqi h3
    subst hqi
    subst h3
    exact List.mem_cons_self
  · rw [List.getElem?_set_ne (Ne.symm hqi)] at h1
    have hm := prs_mem (G := G) h1 h2
    rw [← h3] at hm
    refine List.mem_cons_of_mem _ (List.mem_filter.mpr ⟨hm, ?_⟩)
    by_cases hq2 : q.1 + 1 = i
    · have hc := hp w (by rw [← hq2, Nat.add_sub_cancel]; exact h1) (by omega)
      rw [← h3] at hc
      simp [hqi, hc]
    · simp [hqi, hq2]
theorem LR.st2 {G : GG} {lr : Array Slot} {nL i : Nat} {ls : List Value} {v : Value} (h0 : ls.length = nL) (hp : ∀ w, ls[i - 1]? = some w → 0 < i → (tv G w).category = 1) (h : lv_has lr nL ((i, tv G v) :: (prs G ls).filter (fun q => !(q.1 == i) && (!(q.1 == i + 1) && !(q.1 + 1 == i && q.2.category == 2))))) : LR G lr nL ((ls.set i v).set (i + 1) UU) := by
  refine ⟨by rw [List.length_set, List.length_set]; exact h0, h.1, h.2.1, fun q hq => ?_⟩
  obtain ⟨w, h1, h2, h3⟩ := prs_of hq
  refine h.2.2 q ?_
  have hlen : q.1 < ls.length := by
    have := (List.getElem?_eq_some_iff.mp h1).1
    rw [List.length_set, List.length_set] at this
    exact this
  by_cases hq9 : q.1 = i + 1
  · rw [hq9] at h1 hlen
    rw [List.getElem?_set_self (by rw [List.length_set]; exact hlen)] at h1
    cases h1
    simp [isU] at h2
  · rw [List.getElem?_set_ne (Ne.symm hq9)] at h1
    by_cases hqi : q.1 = i
    · rw [hqi] at h1 hlen
      rw [List.getElem?_set_self hlen] at h1
      cases h1
      obtain ⟨q1, q2⟩ := q
      simp only at hqi h3
      subst hqi
      subst h3
      exact List.mem_cons_self
    · rw [List.getElem?_set_ne (Ne.symm hqi)] at h1
      have hm := prs_mem (G := G) h1 h2
      rw [← h3] at hm
      refine List.mem_cons_of_mem _ (List.mem_filter.mpr ⟨hm, ?_⟩)
      by_cases hq2 : q.1 + 1 = i
      · have hc := hp w (by rw [← hq2, Nat.add_sub_cancel]; exact h1) (by omega)
        rw [← h3] at hc
        simp [hqi, hq9, hc]
      · simp [hqi, hq9, hq2]
/-! the locals with which a method begins -/
def entL : List Value → List Value
  | [] => []
  | v :: vs => if v.category = 2 then v :: UU :: entL vs else v :: entL vs
theorem tv_cat (G : GG) (v : Value) (h : ∀ w, v ≠ .float w) : (tv G v).category = v.category := by
  cases v with
  | float w => exact absurd rfl (h w)
  | _ => rfl
theorem entL_in (G : GG) : ∀ (vs : List Value), (∀ v ∈ vs, (tv G v).category = v.category) → ∀ (b i : Nat) (v : Value), (entL vs)[i]? = some v → isU v = false → (b + i, tv G v) ∈ lv_args b (vs.map (tv G))
  | [], _, b, i, v, h, _ => by simp [entL] at h
  | w :: vs, hc, b, i, v, h, hu => by
    have hw := hc w List.mem_cons_self
    have ih := entL_in G vs (fun x hx => hc x (List.mem_cons_of_mem _ hx))
    simp only [List.map_cons, lv_args]
    rw [hw]
    by_cases h2 : w.category = 2
    · simp only [entL, if_pos h2] at h ⊢
      match i, h with
      | 0, h => simp at h; subst h; exact List.mem_cons_self
      | 1, h => simp at h; subst h; simp [isU] at hu
      | i + 2, h =>
        simp at h
        have := ih (b + 2) i v h hu
        rw [show b + (i + 2) = b + 2 + i by omega]
        exact List.mem_cons_of_mem _ this
    · simp only [entL, if_neg h2] at h ⊢
      match i, h with
      | 0, h => simp at h; subst h; exact List.mem_cons_self
      | i + 1, h =>
        simp at h
        have := ih (b + 1) i v h hu
        rw [show b + (i + 1) = b + 1 + i by omega]
        exact List.mem_cons_of_mem _ this
theorem entL_len (G : GG) : ∀ (vs : List Value), (∀ v ∈ vs, (tv G v).category = v.category) → (lg_sl (vs.map (tv G))).length = (entL vs).length
  | [], _ => rfl
  | w :: vs, hc => by
    have hw := hc w List.mem_cons_self
    have ih := entL_len G vs (fun x hx => hc x (List.mem_cons_of_mem _ hx))
    simp only [lg_sl, List.map_cons, List.flatMap_cons, List.length_append] at ih ⊢
    rw [hw, ih]
    by_cases h2 : w.category = 2
    · simp [entL, h2]; omega
    · simp [entL, h2]; omega
def ent (nL : Nat) (vs : List Value) : List Value := entL vs ++ List.replicate (nL - (entL vs).length) UU
end
section
/-! ===== V ===== -/
def RetOK (ret : Option FieldType) (r : Option Value) : Prop := match ret, r with
  | none, none => True
  | some .int, some (.int _) => True
  | some .boolean, some (.int v) => v = 0 ∨ v = 1
  | some .char, some (.int v) => narrow .char (.int v) = .int v
  | some .long, some (.long _) => True
  | some (.object _), some (.ref _) => True
  | some (.object _), some .null => True
  | _, _ => False
def RetI : Option Value → Instr
  | none => .return_
  | some (.int _) => .ireturn
  | some (.long _) => .lreturn
  | some _ => .areturn
def Cx (G : GG) (y : MethodName) (cc : ByteArray) (nL : Nat) (p : Program) (s : State) (m : MethodId) (args : Array Value) (meth : Method) (c : Code) : Prop :=
  p.tables.exec = Jvm.exec ∧ c.code = cc ∧ c.maxLocals = nL ∧ s.vm.findClass y.cls = some m.cls ∧ (∀ w ∈ lw0, w.before args s = true) ∧ meth.name = y.name ∧ KK G s
def V (G : GG) (y : MethodName) (cc : ByteArray) (nL : Nat) (ret : Option FieldType) (dep bc bs pc : Nat) (ls st : List Value) (μ : Mem) (Post : Option Value → Mem → Prop) : Prop :=
  ∀ (p : Program) (e : Env) (R : Room) (s : State) (m : MethodId) (args : Array Value) (below : List Frame) (meth : Method) (c : Code) (H : Heap) (locs : List Loc) (cells slots : Nat) (Q : State → Prop) (lr : Array Slot),
    Cx G y cc nL p s m args meth c → LR G lr nL ls → Rep G μ H → va_S (AA G) s.heap H locs → dep ≤ R.frames ∧ 64 * dep ≤ R.locals → cells + bc ≤ R.cells ∧ slots + bs ≤ R.slots →
    (∀ (r : Option Value) (μ' : Mem) (H' : Heap) (locs' : List Loc) (cells' slots' pc' : Nat) (lr' : Array Slot), Post r μ' → RetOK ret r → decode cc pc' = .ok (RetI r, 1) → Rep G μ' H' → va_S (AA G) s.heap H' locs' → cells' ≤ cells + bc → slots' ≤ slots + bs → W p (gl G) e R s m args below meth c H' locs' cells' slots' Q (F0 m pc' lr' (r.toList.map (tv G)))) →
    W p (gl G) e R s m args below meth c H locs cells slots Q (F0 m pc lr (st.map (tv G)))
section VR
variable {G : GG} {y : MethodName} {cc : ByteArray} {nL : Nat} {ret : Option FieldType} {dep bc bs pc : Nat} {ls st : List Value} {μ : Mem} {Post : Option Value → Mem → Prop}
/-- a step that leaves locals and memory -/
theorem V.go {pc' : Nat} {st' : List Value} (h : ∀ (p : Program) (e : Env) (R : Room) (s : State) (m : MethodId) (args : Array Value) (below : List Frame) (meth : Method) (c : Code) (H : Heap) (locs : List Loc) (cells slots : Nat) (Q : State → Prop) (lr : Array Slot),
    Cx G y cc nL p s m args meth c → LR G lr nL ls → W p (gl G) e R s m args below meth c H locs cells slots Q (F0 m pc' lr (st'.map (tv G))) → W p (gl G) e R s m args below meth c H locs cells slots Q (F0 m pc lr (st.map (tv G))))
    (k : V G y cc nL ret dep bc bs pc' ls st' μ Post) : V G y cc nL ret dep bc bs pc ls st μ Post := by
  intro p e R s m args below meth c H locs cells slots Q lr X hl hR hS hd hc hend
  exact h p e R s m args below meth c H locs cells slots Q lr X hl (k p e R s m args below meth c H locs cells slots Q lr X hl hR hS hd hc hend)
/-- a step that stores into the locals -/
theorem V.sto {i pc' : Nat} {v : Value} {st' : List Value} (hu : isU v = false) (hp : ∀ w, ls[i - 1]? = some w → 0 < i → (tv G w).category = 1)
    (h : ∀ (p : Program) (e : Env) (R : Room) (s : State) (m : MethodId) (args : Array Value) (below : List Frame) (meth : Method) (c : Code) (H : Heap) (locs : List Loc) (cells slots : Nat) (Q : State → Prop) (lr : Array Slot),
    Cx G y cc nL p s m args meth c → LR G lr nL ls → (∀ lr' : Array Slot, lv_has lr' nL ((i, tv G v) :: (prs G ls).filter (fun q => !(q.1 == i) && !(q.1 + 1 == i && q.2.category == 2))) → W p (gl G) e R s m args below meth c H locs cells slots Q (F0 m pc' lr' (st'.map (tv G)))) → W p (gl G) e R s m args below meth c H locs cells slots Q (F0 m pc lr (st.map (tv G))))
    (k : V G y cc nL ret dep bc bs pc' (ls.set i v) st' μ Post) : V G y cc nL ret dep bc bs pc ls st μ Post := by
  intro p e R s m args below meth c H locs cells slots Q lr X hl hR hS hd hc hend
  exact h p e R s m args below meth c H locs cells slots Q lr X hl (fun lr' hl' => k p e R s m args below meth c H locs cells slots Q lr' X (LR.st hl.1 hu hp hl') hR hS hd hc hend)
theorem V.st2 {i pc' : Nat} {v : Value} {st' : List Value} (hp : ∀ w, ls[i - 1]? = some w → 0 < i → (tv G w).category = 1)
    (h : ∀ (p : Program) (e : Env) (R : Room) (s : State) (m : MethodId) (args : Array Value) (below : List Frame) (meth : Method) (c : Code) (H : Heap) (locs : List Loc) (cells slots : Nat) (Q : State → Prop) (lr : Array Slot),
    Cx G y cc nL p s m args meth c → LR G lr nL ls → (∀ lr' : Array Slot, lv_has lr' nL ((i, tv G v) :: (prs G ls).filter (fun q => !(q.1 == i) && (!(q.1 == i + 1) && !(q.1 + 1 == i && q.2.category == 2)))) → W p (gl G) e R s m args below meth c H locs cells slots Q (F0 m pc' lr' (st'.map (tv G)))) → W p (gl G) e R s m args below meth c H locs cells slots Q (F0 m pc lr (st.map (tv G))))
    (k : V G y cc nL ret dep bc bs pc' ((ls.set i v).set (i + 1) UU) st' μ Post) : V G y cc nL ret dep bc bs pc ls st μ Post := by
  intro p e R s m args below meth c H locs cells slots Q lr X hl hR hS hd hc hend
  exact h p e R s m args below meth c H locs cells slots Q lr X hl (fun lr' hl' => k p e R s m args below meth c H locs cells slots Q lr' X (LR.st2 hl.1 hp hl') hR hS hd hc hend)
theorem V.br {a b : Nat} {st' : List Value} {A B : Prop} (h : ∀ (p : Program) (e : Env) (R : Room) (s : State) (m : MethodId) (args : Array Value) (below : List Frame) (meth : Method) (c : Code) (H : Heap) (locs : List Loc) (cells slots : Nat) (Q : State → Prop) (lr : Array Slot),
    Cx G y cc nL p s m args meth c → (A → W p (gl G) e R s m args below meth c H locs cells slots Q (F0 m a lr (st'.map (tv G)))) → (B → W p (gl G) e R s m args below meth c H locs cells slots Q (F0 m b lr (st'.map (tv G)))) → W p (gl G) e R s m args below meth c H locs cells slots Q (F0 m pc lr (st.map (tv G))))
    (k1 : A → V G y cc nL ret dep bc bs a ls st' μ Post) (k2 : B → V G y cc nL ret dep bc bs b ls st' μ Post) : V G y cc nL ret dep bc bs pc ls st μ Post := by
  intro p e R s m args below meth c H locs cells slots Q lr X hl hR hS hd hc hend
  exact h p e R s m args below meth c H locs cells slots Q lr X (fun q => k1 q p e R s m args below meth c H locs cells slots Q lr X hl hR hS hd hc hend) (fun q => k2 q p e R s m args below meth c H locs cells slots Q lr X hl hR hS hd hc hend)
/-- the end -/
theorem V.fin {r : Option Value} (hp : Post r μ) (hr : RetOK ret r) (hdg : decode cc pc = .ok (RetI r, 1)) : V G y cc nL ret dep bc bs pc ls r.toList μ Post := by
  intro p e R s m args below meth c H locs cells slots Q lr X hl hR hS hd hc hend
  exact hend r μ H locs cells slots pc lr hp hr hdg hR hS (Nat.le_add_right _ _) (Nat.le_add_right _ _)
/-- less is asked, more is told -/
theorem V.mono {dep' bc' bs' : Nat} {Post' : Option Value → Mem → Prop} (h1 : dep' ≤ dep) (h2 : bc' ≤ bc) (h3 : bs' ≤ bs) (hq : ∀ r μ', Post' r μ' → Post r μ') (k : V G y cc nL ret dep' bc' bs' pc ls st μ Post') : V G y cc nL ret dep bc bs pc ls st μ Post := by
  intro p e R s m args below meth c H locs cells slots Q lr X hl hR hS hd hc hend
  exact k p e R s m args below meth c H locs cells slots Q lr X hl hR hS ⟨by omega, by omega⟩ ⟨by omega, by omega⟩ (fun r μ' H' locs' cells' slots' pc' lr' a b c' d e' f g => hend r μ' H' locs' cells' slots' pc' lr' (hq r μ' a) b c' d e' (by omega) (by omega))
end VR
/-! a contract -/
def Qn (G : GG) (Post : Option Value → Mem → Prop) : Array Value → State → Outcome → State → Prop := fun _ st o t => (∃ (r : Option Value) (μ' : Mem), o = .returned (r.map (tv G)) ∧ Post r μ' ∧ Rep G μ' t.heap) ∧ va_F (AA G) st t
def rmN (dep bc bs : Nat) : Room := { frames := dep, cells := bc, slots := bs, locals := 64 * dep }
def Cn (G : GG) (y : MethodName) (cc : ByteArray) (nL : Nat) (ret : Option FieldType) (dep bc bs : Nat) (av : List Value) (μ : Mem) (Post : Option Value → Mem → Prop) : Prop :=
  Met (gl G) y (Cond.code y cc nL ret :: lw0) (rmN dep bc bs) (va_Pc (av.map (tv G)) (fun U => Rep G μ U.heap ∧ KK G U)) (Qn G Post) bc bs (AA G)
theorem va_S_start {G : GG} {s : State} : va_S (AA G) s.heap s.heap [] := va_S.rf
theorem Cn.of {G : GG} {y : MethodName} {cc : ByteArray} {nL : Nat} {ret : Option FieldType} {dep bc bs : Nat} {av ls : List Value} {μ : Mem} {Post : Option Value → Mem → Prop} (hy : plainName y.cls = true) (hcat : ∀ v ∈ av, (tv G v).category = v.category) (hln : (entL av).length ≤ nL) (hls : ent nL av = ls) (hV : V G y cc nL ret dep bc bs 0 ls [] μ Post) : Cn G y cc nL ret dep bc bs av μ Post := by
  refine Met.ofW (cc := cc) (maxL := nL) (ret := ret) hy rfl ?_
  intro p e s m args below meth c s₁ B hml hv
  obtain ⟨rfl, hR, hK⟩ := hv
  have hx := B.exec
  have hb := B.bytes
  have hr := B.returns
  have hts := atoms_spec (ws := Cond.code y cc nL ret :: lw0) B.pre
  have hown : s.vm.findClass y.cls = some m.cls := findClass_of_methodNamed B.named
  have hlocks : meth.locks = false := B.notSynchronized
  have hin : meth.name = y.name := (name_of_methodNamed B.named B.method).1
  have hlen := entL_len G av hcat
  have hl := lv_entry (av.map (tv G)) (n := nL) (by rw [hlen]; exact hln)
  rw [lg_entry_eq]
  generalize (lg_sl (av.map (tv G)) ++ List.replicate (nL - (lg_sl (av.map (tv G))).length) Slot.unset).toArray = lr at hl ⊢
  have hLR : LR G lr nL ls := by
    subst hls
    refine ⟨by simp [ent]; omega, hl.1, hl.2.1, fun q hq => ?_⟩
    obtain ⟨w, h1, h2, h3⟩ := prs_of hq
    refine hl.2.2 q ?_
    have h4 : (entL av)[q.1]? = some w := by
      unfold ent at h1
      by_cases hlt : q.1 < (entL av).length
      · rw [List.getElem?_append_left hlt] at h1; exact h1
      · rw [List.getElem?_append_right (by omega), List.getElem?_replicate] at h1
        split at h1
        · cases h1
          simp [isU] at h2
        · cases h1
    have h5 := entL_in G av hcat 0 q.1 w h4 h2
    rw [Nat.zero_add, ← h3] at h5
    exact h5
  refine hV p e _ s m _ below meth c s.heap [] 0 0 _ lr ⟨hx, hb, hml, hown, fun w hw => hts w (List.mem_cons_of_mem _ hw), hin, hK⟩ hLR hR va_S.rf ⟨Nat.le_refl _, Nat.le_refl _⟩ ⟨by simp [headSpec, rmN], by simp [headSpec, rmN]⟩ ?_
  intro r μ' H' locs' cells' slots' pc' lr' hp hrt hdg hR' hS' hc' hs'
  refine W.widen (k := bc) (n := bs) (by omega) (by omega) ?_
  have hq : ∀ t : State, t.heap = H' → s.WarmedH t.vm → Qn G Post (av.map (tv G)).toArray s (.returned (r.map (tv G))) t := fun t ht _ => ⟨⟨r, μ', rfl, hp, by rw [ht]; exact hR'⟩, hS'.F ht⟩
  have hf : ∀ q ∈ locs', AA G q.base := hS'.2.2
  cases ret with
  | none =>
    cases r with
    | none => exact W.vret hx hb hr hq hf hdg
    | some v => exact absurd hrt (by simp [RetOK])
  | some ty =>
    cases r with
    | none => cases ty <;> exact absurd hrt (by simp [RetOK])
    | some v =>
      cases v with
      | int x =>
        cases ty <;> first
          | exact W.iret hx hb hr hq hf hdg
          | (rcases hrt with rfl | rfl <;> exact W.zret hx hb hr (by decide) hq hf hdg)
          | exact W.zret hx hb hr hrt hq hf hdg
          | exact absurd hrt (by simp [RetOK])
      | long x =>
        cases ty <;> first
          | exact W.lret hx hb hr hq hf hdg
          | exact absurd hrt (by simp [RetOK])
      | ref x =>
        cases ty <;> first
          | exact W.aret hx hb hr (Or.inl ⟨_, rfl⟩) (Or.inr ⟨_, rfl⟩) hq hf hdg
          | exact absurd hrt (by simp [RetOK])
      | null =>
        cases ty <;> first
          | exact W.aret hx hb hr (Or.inl ⟨_, rfl⟩) (Or.inl rfl) hq hf hdg
          | exact absurd hrt (by simp [RetOK])
      | float x => cases ty <;> exact absurd hrt (by simp [RetOK])
      | double x => cases ty <;> exact absurd hrt (by simp [RetOK])
      | retAddr x => cases ty <;> exact absurd hrt (by simp [RetOK])
end
section
section VS
variable {G : GG} {y : MethodName} {cc : ByteArray} {nL : Nat} {ret : Option FieldType} {dep bc bs pc : Nat} {ls st : List Value} {μ : Mem} {Post : Option Value → Mem → Prop}
theorem v_icm1 (hdg : decode cc pc = .ok (.iconst (-1), 1)) (k : V G y cc nL ret dep bc bs (pc + 1) ls (.int (-1) :: st) μ Post) : V G y cc nL ret dep bc bs pc ls (st) μ Post := V.go (fun _ _ _ _ _ _ _ _ _ _ _ _ _ _ _ X hl kk => lv_iconst X.1 X.2.1 hdg (by decide) kk) k
theorem v_ic0 (hdg : decode cc pc = .ok (.iconst 0, 1)) (k : V G y cc nL ret dep bc bs (pc + 1) ls (.int 0 :: st) μ Post) : V G y cc nL ret dep bc bs pc ls (st) μ Post := V.go (fun _ _ _ _ _ _ _ _ _ _ _ _ _ _ _ X hl kk => lv_iconst X.1 X.2.1 hdg (by decide) kk) k
theorem v_ic1 (hdg : decode cc pc = .ok (.iconst 1, 1)) (k : V G y cc nL ret dep bc bs (pc + 1) ls (.int 1 :: st) μ Post) : V G y cc nL ret dep bc bs pc ls (st) μ Post := V.go (fun _ _ _ _ _ _ _ _ _ _ _ _ _ _ _ X hl kk => lv_iconst X.1 X.2.1 hdg (by decide) kk) k
theorem v_ic2 (hdg : decode cc pc = .ok (.iconst 2, 1)) (k : V G y cc nL ret dep bc bs (pc + 1) ls (.int 2 :: st) μ Post) : V G y cc nL ret dep bc bs pc ls (st) μ Post := V.go (fun _ _ _ _ _ _ _ _ _ _ _ _ _ _ _ X hl kk => lv_iconst X.1 X.2.1 hdg (by decide) kk) k
theorem v_ic3 (hdg : decode cc pc = .ok (.iconst 3, 1)) (k : V G y cc nL ret dep bc bs (pc + 1) ls (.int 3 :: st) μ Post) : V G y cc nL ret dep bc bs pc ls (st) μ Post := V.go (fun _ _ _ _ _ _ _ _ _ _ _ _ _ _ _ X hl kk => lv_iconst X.1 X.2.1 hdg (by decide) kk) k
theorem v_ic4 (hdg : decode cc pc = .ok (.iconst 4, 1)) (k : V G y cc nL ret dep bc bs (pc + 1) ls (.int 4 :: st) μ Post) : V G y cc nL ret dep bc bs pc ls (st) μ Post := V.go (fun _ _ _ _ _ _ _ _ _ _ _ _ _ _ _ X hl kk => lv_iconst X.1 X.2.1 hdg (by decide) kk) k
theorem v_ic5 (hdg : decode cc pc = .ok (.iconst 5, 1)) (k : V G y cc nL ret dep bc bs (pc + 1) ls (.int 5 :: st) μ Post) : V G y cc nL ret dep bc bs pc ls (st) μ Post := V.go (fun _ _ _ _ _ _ _ _ _ _ _ _ _ _ _ X hl kk => lv_iconst X.1 X.2.1 hdg (by decide) kk) k
theorem v_bipush {n : Int} {v : Int32} (hdg : decode cc pc = .ok (.bipush n, 2)) (hv : (Int8.ofInt n).toInt32 = v) (k : V G y cc nL ret dep bc bs (pc + 2) ls (.int v :: st) μ Post) : V G y cc nL ret dep bc bs pc ls (st) μ Post := V.go (fun _ _ _ _ _ _ _ _ _ _ _ _ _ _ _ X hl kk => lv_bipush X.1 X.2.1 hdg hv kk) k
theorem v_sipush {n : Int} {v : Int32} (hdg : decode cc pc = .ok (.sipush n, 3)) (hv : (Int16.ofInt n).toInt32 = v) (k : V G y cc nL ret dep bc bs (pc + 3) ls (.int v :: st) μ Post) : V G y cc nL ret dep bc bs pc ls (st) μ Post := V.go (fun _ _ _ _ _ _ _ _ _ _ _ _ _ _ _ X hl kk => lv_sipush X.1 X.2.1 hdg hv kk) k
theorem v_lc0 (hdg : decode cc pc = .ok (.lconst 0, 1)) (k : V G y cc nL ret dep bc bs (pc + 1) ls (.long 0 :: st) μ Post) : V G y cc nL ret dep bc bs pc ls (st) μ Post := V.go (fun _ _ _ _ _ _ _ _ _ _ _ _ _ _ _ X hl kk => lv_lconst X.1 X.2.1 hdg (by decide) kk) k
theorem v_lc1 (hdg : decode cc pc = .ok (.lconst 1, 1)) (k : V G y cc nL ret dep bc bs (pc + 1) ls (.long 1 :: st) μ Post) : V G y cc nL ret dep bc bs pc ls (st) μ Post := V.go (fun _ _ _ _ _ _ _ _ _ _ _ _ _ _ _ X hl kk => lv_lconst X.1 X.2.1 hdg (by decide) kk) k
theorem v_ldc {i : Nat} {v : Int32} (hdg : decode cc pc = .ok (.ldc i, 2)) (hc : Cond.constant y.cls i v ∈ lw0) (k : V G y cc nL ret dep bc bs (pc + 2) ls (.int v :: st) μ Post) : V G y cc nL ret dep bc bs pc ls (st) μ Post := V.go (fun _ _ _ _ _ _ _ _ _ _ _ _ _ _ _ X hl kk => lv_ldc X.1 X.2.1 X.2.2.2.1 (X.2.2.2.2.1 _ hc) hdg kk) k
theorem v_ldcw {i : Nat} {v : Int32} (hdg : decode cc pc = .ok (.ldc_w i, 3)) (hc : Cond.constant y.cls i v ∈ lw0) (k : V G y cc nL ret dep bc bs (pc + 3) ls (.int v :: st) μ Post) : V G y cc nL ret dep bc bs pc ls (st) μ Post := V.go (fun _ _ _ _ _ _ _ _ _ _ _ _ _ _ _ X hl kk => lv_ldcw X.1 X.2.1 X.2.2.2.1 (X.2.2.2.2.1 _ hc) hdg kk) k
theorem v_ldc2 {i : Nat} {v : Int64} (hdg : decode cc pc = .ok (.ldc2_w i, 3)) (hc : Cond.constantLong y.cls i v ∈ lw0) (k : V G y cc nL ret dep bc bs (pc + 3) ls (.long v :: st) μ Post) : V G y cc nL ret dep bc bs pc ls (st) μ Post := V.go (fun _ _ _ _ _ _ _ _ _ _ _ _ _ _ _ X hl kk => lv_ldc2 X.1 X.2.1 X.2.2.2.1 (X.2.2.2.2.1 _ hc) hdg kk) k
theorem v_iadd {a b : Int32} (hdg : decode cc pc = .ok (.iadd, 1)) (k : V G y cc nL ret dep bc bs (pc + 1) ls (.int (a + b) :: st) μ Post) : V G y cc nL ret dep bc bs pc ls (.int b :: .int a :: st) μ Post := V.go (fun _ _ _ _ _ _ _ _ _ _ _ _ _ _ _ X hl kk => lv_iadd X.1 X.2.1 hdg kk) k
theorem v_isub {a b : Int32} (hdg : decode cc pc = .ok (.isub, 1)) (k : V G y cc nL ret dep bc bs (pc + 1) ls (.int (a - b) :: st) μ Post) : V G y cc nL ret dep bc bs pc ls (.int b :: .int a :: st) μ Post := V.go (fun _ _ _ _ _ _ _ _ _ _ _ _ _ _ _ X hl kk => lv_isub X.1 X.2.1 hdg kk) k
theorem v_imul {a b : Int32} (hdg : decode cc pc = .ok (.imul, 1)) (k : V G y cc nL ret dep bc bs (pc + 1) ls (.int (a * b) :: st) μ Post) : V G y cc nL ret dep bc bs pc ls (.int b :: .int a :: st) μ Post := V.go (fun _ _ _ _ _ _ _ _ _ _ _ _ _ _ _ X hl kk => lv_imul X.1 X.2.1 hdg kk) k
theorem v_iand {a b : Int32} (hdg : decode cc pc = .ok (.iand, 1)) (k : V G y cc nL ret dep bc bs (pc + 1) ls (.int (a &&& b) :: st) μ Post) : V G y cc nL ret dep bc bs pc ls (.int b :: .int a :: st) μ Post := V.go (fun _ _ _ _ _ _ _ _ _ _ _ _ _ _ _ X hl kk => lv_iand X.1 X.2.1 hdg kk) k
theorem v_ior {a b : Int32} (hdg : decode cc pc = .ok (.ior, 1)) (k : V G y cc nL ret dep bc bs (pc + 1) ls (.int (a ||| b) :: st) μ Post) : V G y cc nL ret dep bc bs pc ls (.int b :: .int a :: st) μ Post := V.go (fun _ _ _ _ _ _ _ _ _ _ _ _ _ _ _ X hl kk => lv_ior X.1 X.2.1 hdg kk) k
theorem v_ixor {a b : Int32} (hdg : decode cc pc = .ok (.ixor, 1)) (k : V G y cc nL ret dep bc bs (pc + 1) ls (.int (a ^^^ b) :: st) μ Post) : V G y cc nL ret dep bc bs pc ls (.int b :: .int a :: st) μ Post := V.go (fun _ _ _ _ _ _ _ _ _ _ _ _ _ _ _ X hl kk => lv_ixor X.1 X.2.1 hdg kk) k
theorem v_ishl {a b : Int32} (hdg : decode cc pc = .ok (.ishl, 1)) (k : V G y cc nL ret dep bc bs (pc + 1) ls (.int (a <<< (b &&& 31)) :: st) μ Post) : V G y cc nL ret dep bc bs pc ls (.int b :: .int a :: st) μ Post := V.go (fun _ _ _ _ _ _ _ _ _ _ _ _ _ _ _ X hl kk => lv_ishl X.1 X.2.1 hdg kk) k
theorem v_ishr {a b : Int32} (hdg : decode cc pc = .ok (.ishr, 1)) (k : V G y cc nL ret dep bc bs (pc + 1) ls (.int (a >>> (b &&& 31)) :: st) μ Post) : V G y cc nL ret dep bc bs pc ls (.int b :: .int a :: st) μ Post := V.go (fun _ _ _ _ _ _ _ _ _ _ _ _ _ _ _ X hl kk => lv_ishr X.1 X.2.1 hdg kk) k
theorem v_idiv {a b : Int32} (hdg : decode cc pc = .ok (.idiv, 1)) (hn : ¬ b = 0) (k : V G y cc nL ret dep bc bs (pc + 1) ls (.int (a / b) :: st) μ Post) : V G y cc nL ret dep bc bs pc ls (.int b :: .int a :: st) μ Post := V.go (fun _ _ _ _ _ _ _ _ _ _ _ _ _ _ _ X hl kk => lv_idiv X.1 X.2.1 hdg hn kk) k
theorem v_irem {a b : Int32} (hdg : decode cc pc = .ok (.irem, 1)) (hn : ¬ b = 0) (k : V G y cc nL ret dep bc bs (pc + 1) ls (.int (a - a / b * b) :: st) μ Post) : V G y cc nL ret dep bc bs pc ls (.int b :: .int a :: st) μ Post := V.go (fun _ _ _ _ _ _ _ _ _ _ _ _ _ _ _ X hl kk => lv_irem X.1 X.2.1 hdg hn kk) k
theorem v_ineg {a : Int32} (hdg : decode cc pc = .ok (.ineg, 1)) (k : V G y cc nL ret dep bc bs (pc + 1) ls (.int (-a) :: st) μ Post) : V G y cc nL ret dep bc bs pc ls (.int a :: st) μ Post := V.go (fun _ _ _ _ _ _ _ _ _ _ _ _ _ _ _ X hl kk => lv_ineg X.1 X.2.1 hdg kk) k
theorem v_ladd {a b : Int64} (hdg : decode cc pc = .ok (.ladd, 1)) (k : V G y cc nL ret dep bc bs (pc + 1) ls (.long (a + b) :: st) μ Post) : V G y cc nL ret dep bc bs pc ls (.long b :: .long a :: st) μ Post := V.go (fun _ _ _ _ _ _ _ _ _ _ _ _ _ _ _ X hl kk => lv_ladd X.1 X.2.1 hdg kk) k
theorem v_lmul {a b : Int64} (hdg : decode cc pc = .ok (.lmul, 1)) (k : V G y cc nL ret dep bc bs (pc + 1) ls (.long (a * b) :: st) μ Post) : V G y cc nL ret dep bc bs pc ls (.long b :: .long a :: st) μ Post := V.go (fun _ _ _ _ _ _ _ _ _ _ _ _ _ _ _ X hl kk => lv_lmul X.1 X.2.1 hdg kk) k
theorem v_land {a b : Int64} (hdg : decode cc pc = .ok (.land, 1)) (k : V G y cc nL ret dep bc bs (pc + 1) ls (.long (a &&& b) :: st) μ Post) : V G y cc nL ret dep bc bs pc ls (.long b :: .long a :: st) μ Post := V.go (fun _ _ _ _ _ _ _ _ _ _ _ _ _ _ _ X hl kk => lv_land X.1 X.2.1 hdg kk) k
theorem v_lor {a b : Int64} (hdg : decode cc pc = .ok (.lor, 1)) (k : V G y cc nL ret dep bc bs (pc + 1) ls (.long (a ||| b) :: st) μ Post) : V G y cc nL ret dep bc bs pc ls (.long b :: .long a :: st) μ Post := V.go (fun _ _ _ _ _ _ _ _ _ _ _ _ _ _ _ X hl kk => lv_lor X.1 X.2.1 hdg kk) k
theorem v_ldiv {a b : Int64} (hdg : decode cc pc = .ok (.ldiv, 1)) (hn : ¬ b = 0) (k : V G y cc nL ret dep bc bs (pc + 1) ls (.long (a / b) :: st) μ Post) : V G y cc nL ret dep bc bs pc ls (.long b :: .long a :: st) μ Post := V.go (fun _ _ _ _ _ _ _ _ _ _ _ _ _ _ _ X hl kk => lv_ldiv X.1 X.2.1 hdg hn kk) k
theorem v_lrem {a b : Int64} (hdg : decode cc pc = .ok (.lrem, 1)) (hn : ¬ b = 0) (k : V G y cc nL ret dep bc bs (pc + 1) ls (.long (a - a / b * b) :: st) μ Post) : V G y cc nL ret dep bc bs pc ls (.long b :: .long a :: st) μ Post := V.go (fun _ _ _ _ _ _ _ _ _ _ _ _ _ _ _ X hl kk => lv_lrem X.1 X.2.1 hdg hn kk) k
theorem v_lshl {a : Int64} {b : Int32} (hdg : decode cc pc = .ok (.lshl, 1)) (k : V G y cc nL ret dep bc bs (pc + 1) ls (.long (a <<< (b.toInt64 &&& 63)) :: st) μ Post) : V G y cc nL ret dep bc bs pc ls (.int b :: .long a :: st) μ Post := V.go (fun _ _ _ _ _ _ _ _ _ _ _ _ _ _ _ X hl kk => lv_lshl X.1 X.2.1 hdg rfl kk) k
theorem v_i2l {a : Int32} (hdg : decode cc pc = .ok (.i2l, 1)) (k : V G y cc nL ret dep bc bs (pc + 1) ls (.long a.toInt64 :: st) μ Post) : V G y cc nL ret dep bc bs pc ls (.int a :: st) μ Post := V.go (fun _ _ _ _ _ _ _ _ _ _ _ _ _ _ _ X hl kk => lv_i2l X.1 X.2.1 hdg rfl kk) k
theorem v_l2i {a : Int64} (hdg : decode cc pc = .ok (.l2i, 1)) (k : V G y cc nL ret dep bc bs (pc + 1) ls (.int a.toInt32 :: st) μ Post) : V G y cc nL ret dep bc bs pc ls (.long a :: st) μ Post := V.go (fun _ _ _ _ _ _ _ _ _ _ _ _ _ _ _ X hl kk => lv_l2i X.1 X.2.1 hdg rfl kk) k
theorem v_i2b {a : Int32} (hdg : decode cc pc = .ok (.i2b, 1)) (k : V G y cc nL ret dep bc bs (pc + 1) ls (.int a.toInt8.toInt32 :: st) μ Post) : V G y cc nL ret dep bc bs pc ls (.int a :: st) μ Post := V.go (fun _ _ _ _ _ _ _ _ _ _ _ _ _ _ _ X hl kk => lv_i2b X.1 X.2.1 hdg rfl kk) k
theorem v_i2s {a : Int32} (hdg : decode cc pc = .ok (.i2s, 1)) (k : V G y cc nL ret dep bc bs (pc + 1) ls (.int a.toInt16.toInt32 :: st) μ Post) : V G y cc nL ret dep bc bs pc ls (.int a :: st) μ Post := V.go (fun _ _ _ _ _ _ _ _ _ _ _ _ _ _ _ X hl kk => lv_i2s X.1 X.2.1 hdg rfl kk) k
theorem v_lcmp {a b : Int64} (hdg : decode cc pc = .ok (.lcmp, 1)) (k : V G y cc nL ret dep bc bs (pc + 1) ls (.int (lg_cmp a b) :: st) μ Post) : V G y cc nL ret dep bc bs pc ls (.long b :: .long a :: st) μ Post := V.go (fun _ _ _ _ _ _ _ _ _ _ _ _ _ _ _ X hl kk => W.lcmp X.1 X.2.1 hdg kk) k
theorem v_iushr {a b : Int32} (hdg : decode cc pc = .ok (.iushr, 1)) (k : V G y cc nL ret dep bc bs (pc + 1) ls (.int ((a.toUInt32 >>> (b.toUInt32 &&& Int32.toUInt32 31)).toInt32) :: st) μ Post) : V G y cc nL ret dep bc bs pc ls (.int b :: .int a :: st) μ Post := V.go (fun _ _ _ _ _ _ _ _ _ _ _ _ _ _ _ X hl kk => lv_iushr X.1 X.2.1 hdg rfl kk) k
theorem v_null (hdg : decode cc pc = .ok (.aconst_null, 1)) (k : V G y cc nL ret dep bc bs (pc + 1) ls (.null :: st) μ Post) : V G y cc nL ret dep bc bs pc ls (st) μ Post := V.go (fun _ _ _ _ _ _ _ _ _ _ _ _ _ _ _ X hl kk => lv_null X.1 X.2.1 hdg kk) k
theorem v_dupI {a : Int32} (hdg : decode cc pc = .ok (.dup, 1)) (k : V G y cc nL ret dep bc bs (pc + 1) ls (.int a :: .int a :: st) μ Post) : V G y cc nL ret dep bc bs pc ls (.int a :: st) μ Post := V.go (fun _ _ _ _ _ _ _ _ _ _ _ _ _ _ _ X hl kk => lv_dup X.1 X.2.1 hdg rfl kk) k
theorem v_dupR {a : Nat} (hdg : decode cc pc = .ok (.dup, 1)) (k : V G y cc nL ret dep bc bs (pc + 1) ls (.ref a :: .ref a :: st) μ Post) : V G y cc nL ret dep bc bs pc ls (.ref a :: st) μ Post := V.go (fun _ _ _ _ _ _ _ _ _ _ _ _ _ _ _ X hl kk => lv_dup X.1 X.2.1 hdg rfl kk) k
theorem v_dup2 {a : Nat} {i : Int32} (hdg : decode cc pc = .ok (.dup2, 1)) (k : V G y cc nL ret dep bc bs (pc + 1) ls (.int i :: .ref a :: .int i :: .ref a :: st) μ Post) : V G y cc nL ret dep bc bs pc ls (.int i :: .ref a :: st) μ Post := V.go (fun _ _ _ _ _ _ _ _ _ _ _ _ _ _ _ X hl kk => lv_dup2_11 X.1 X.2.1 hdg rfl rfl kk) k
theorem v_popI {a : Int32} (hdg : decode cc pc = .ok (.pop, 1)) (k : V G y cc nL ret dep bc bs (pc + 1) ls (st) μ Post) : V G y cc nL ret dep bc bs pc ls (.int a :: st) μ Post := V.go (fun _ _ _ _ _ _ _ _ _ _ _ _ _ _ _ X hl kk => lv_pop X.1 X.2.1 hdg rfl kk) k
theorem v_if_eq {x : Int32} {off : Int} {tgt : Nat} (hdg : decode cc pc = .ok (.ifCond .eq off, 3)) (ht : (pc : Int) + off = (tgt : Int)) (k1 : x = 0 → V G y cc nL ret dep bc bs tgt ls st μ Post) (k2 : ¬ x = 0 → V G y cc nL ret dep bc bs (pc + 3) ls st μ Post) : V G y cc nL ret dep bc bs pc ls (.int x :: st) μ Post := V.br (fun _ _ _ _ _ _ _ _ _ _ _ _ _ _ _ X a b => lv_if_eq X.1 X.2.1 hdg ht a b) k1 k2
theorem v_icmp_eq {x y' : Int32} {off : Int} {tgt : Nat} (hdg : decode cc pc = .ok (.if_icmp .eq off, 3)) (ht : (pc : Int) + off = (tgt : Int)) (k1 : x = y' → V G y cc nL ret dep bc bs tgt ls st μ Post) (k2 : ¬ x = y' → V G y cc nL ret dep bc bs (pc + 3) ls st μ Post) : V G y cc nL ret dep bc bs pc ls (.int y' :: .int x :: st) μ Post := V.br (fun _ _ _ _ _ _ _ _ _ _ _ _ _ _ _ X a b => lv_icmp_eq X.1 X.2.1 hdg ht a b) k1 k2
theorem v_if_ne {x : Int32} {off : Int} {tgt : Nat} (hdg : decode cc pc = .ok (.ifCond .ne off, 3)) (ht : (pc : Int) + off = (tgt : Int)) (k1 : ¬ x = 0 → V G y cc nL ret dep bc bs tgt ls st μ Post) (k2 : x = 0 → V G y cc nL ret dep bc bs (pc + 3) ls st μ Post) : V G y cc nL ret dep bc bs pc ls (.int x :: st) μ Post := V.br (fun _ _ _ _ _ _ _ _ _ _ _ _ _ _ _ X a b => lv_if_ne X.1 X.2.1 hdg ht a b) k1 k2
theorem v_icmp_ne {x y' : Int32} {off : Int} {tgt : Nat} (hdg : decode cc pc = .ok (.if_icmp .ne off, 3)) (ht : (pc : Int) + off = (tgt : Int)) (k1 : ¬ x = y' → V G y cc nL ret dep bc bs tgt ls st μ Post) (k2 : x = y' → V G y cc nL ret dep bc bs (pc + 3) ls st μ Post) : V G y cc nL ret dep bc bs pc ls (.int y' :: .int x :: st) μ Post := V.br (fun _ _ _ _ _ _ _ _ _ _ _ _ _ _ _ X a b => lv_icmp_ne X.1 X.2.1 hdg ht a b) k1 k2
theorem v_if_lt {x : Int32} {off : Int} {tgt : Nat} (hdg : decode cc pc = .ok (.ifCond .lt off, 3)) (ht : (pc : Int) + off = (tgt : Int)) (k1 : x < 0 → V G y cc nL ret dep bc bs tgt ls st μ Post) (k2 : ¬ x < 0 → V G y cc nL ret dep bc bs (pc + 3) ls st μ Post) : V G y cc nL ret dep bc bs pc ls (.int x :: st) μ Post := V.br (fun _ _ _ _ _ _ _ _ _ _ _ _ _ _ _ X a b => lv_if_lt X.1 X.2.1 hdg ht a b) k1 k2
theorem v_icmp_lt {x y' : Int32} {off : Int} {tgt : Nat} (hdg : decode cc pc = .ok (.if_icmp .lt off, 3)) (ht : (pc : Int) + off = (tgt : Int)) (k1 : x < y' → V G y cc nL ret dep bc bs tgt ls st μ Post) (k2 : ¬ x < y' → V G y cc nL ret dep bc bs (pc + 3) ls st μ Post) : V G y cc nL ret dep bc bs pc ls (.int y' :: .int x :: st) μ Post := V.br (fun _ _ _ _ _ _ _ _ _ _ _ _ _ _ _ X a b => lv_icmp_lt X.1 X.2.1 hdg ht a b) k1 k2
theorem v_if_ge {x : Int32} {off : Int} {tgt : Nat} (hdg : decode cc pc = .ok (.ifCond .ge off, 3)) (ht : (pc : Int) + off = (tgt : Int)) (k1 : 0 ≤ x → V G y cc nL ret dep bc bs tgt ls st μ Post) (k2 : ¬ 0 ≤ x → V G y cc nL ret dep bc bs (pc + 3) ls st μ Post) : V G y cc nL ret dep bc bs pc ls (.int x :: st) μ Post := V.br (fun _ _ _ _ _ _ _ _ _ _ _ _ _ _ _ X a b => lv_if_ge X.1 X.2.1 hdg ht a b) k1 k2
theorem v_icmp_ge {x y' : Int32} {off : Int} {tgt : Nat} (hdg : decode cc pc = .ok (.if_icmp .ge off, 3)) (ht : (pc : Int) + off = (tgt : Int)) (k1 : y' ≤ x → V G y cc nL ret dep bc bs tgt ls st μ Post) (k2 : ¬ y' ≤ x → V G y cc nL ret dep bc bs (pc + 3) ls st μ Post) : V G y cc nL ret dep bc bs pc ls (.int y' :: .int x :: st) μ Post := V.br (fun _ _ _ _ _ _ _ _ _ _ _ _ _ _ _ X a b => lv_icmp_ge X.1 X.2.1 hdg ht a b) k1 k2
theorem v_if_gt {x : Int32} {off : Int} {tgt : Nat} (hdg : decode cc pc = .ok (.ifCond .gt off, 3)) (ht : (pc : Int) + off = (tgt : Int)) (k1 : 0 < x → V G y cc nL ret dep bc bs tgt ls st μ Post) (k2 : ¬ 0 < x → V G y cc nL ret dep bc bs (pc + 3) ls st μ Post) : V G y cc nL ret dep bc bs pc ls (.int x :: st) μ Post := V.br (fun _ _ _ _ _ _ _ _ _ _ _ _ _ _ _ X a b => lv_if_gt X.1 X.2.1 hdg ht a b) k1 k2
theorem v_icmp_gt {x y' : Int32} {off : Int} {tgt : Nat} (hdg : decode cc pc = .ok (.if_icmp .gt off, 3)) (ht : (pc : Int) + off = (tgt : Int)) (k1 : y' < x → V G y cc nL ret dep bc bs tgt ls st μ Post) (k2 : ¬ y' < x → V G y cc nL ret dep bc bs (pc + 3) ls st μ Post) : V G y cc nL ret dep bc bs pc ls (.int y' :: .int x :: st) μ Post := V.br (fun _ _ _ _ _ _ _ _ _ _ _ _ _ _ _ X a b => lv_icmp_gt X.1 X.2.1 hdg ht a b) k1 k2
theorem v_if_le {x : Int32} {off : Int} {tgt : Nat} (hdg : decode cc pc = .ok (.ifCond .le off, 3)) (ht : (pc : Int) + off = (tgt : Int)) (k1 : x ≤ 0 → V G y cc nL ret dep bc bs tgt ls st μ Post) (k2 : ¬ x ≤ 0 → V G y cc nL ret dep bc bs (pc + 3) ls st μ Post) : V G y cc nL ret dep bc bs pc ls (.int x :: st) μ Post := V.br (fun _ _ _ _ _ _ _ _ _ _ _ _ _ _ _ X a b => lv_if_le X.1 X.2.1 hdg ht a b) k1 k2
theorem v_icmp_le {x y' : Int32} {off : Int} {tgt : Nat} (hdg : decode cc pc = .ok (.if_icmp .le off, 3)) (ht : (pc : Int) + off = (tgt : Int)) (k1 : x ≤ y' → V G y cc nL ret dep bc bs tgt ls st μ Post) (k2 : ¬ x ≤ y' → V G y cc nL ret dep bc bs (pc + 3) ls st μ Post) : V G y cc nL ret dep bc bs pc ls (.int y' :: .int x :: st) μ Post := V.br (fun _ _ _ _ _ _ _ _ _ _ _ _ _ _ _ X a b => lv_icmp_le X.1 X.2.1 hdg ht a b) k1 k2
theorem v_goto {off : Int} {tgt : Nat} (hdg : decode cc pc = .ok (.goto off, 3)) (ht : (pc : Int) + off = (tgt : Int)) (k : V G y cc nL ret dep bc bs tgt ls st μ Post) : V G y cc nL ret dep bc bs pc ls st μ Post := V.go (fun _ _ _ _ _ _ _ _ _ _ _ _ _ _ _ X hl kk => lv_goto X.1 X.2.1 hdg ht kk) k
theorem v_ifnonnull {off : Int} {tgt : Nat} {a : Nat} (hdg : decode cc pc = .ok (.ifnonnull off, 3)) (ht : (pc : Int) + off = (tgt : Int)) (k : V G y cc nL ret dep bc bs tgt ls (st) μ Post) : V G y cc nL ret dep bc bs pc ls (.ref a :: st) μ Post := V.go (fun _ _ _ _ _ _ _ _ _ _ _ _ _ _ _ X hl kk => lv_ifnonnull X.1 X.2.1 hdg ht kk) k
theorem v_ifnull {off : Int} {a : Nat} (hdg : decode cc pc = .ok (.ifnull off, 3)) (k : V G y cc nL ret dep bc bs (pc + 3) ls st μ Post) : V G y cc nL ret dep bc bs pc ls (.ref a :: st) μ Post := V.go (fun _ _ _ _ _ _ _ _ _ _ _ _ _ _ _ X hl kk => lv_ifnull X.1 X.2.1 hdg kk) k
theorem v_ifnullN {off : Int} {tgt : Nat} (hdg : decode cc pc = .ok (.ifnull off, 3)) (ht : (pc : Int) + off = (tgt : Int)) (k : V G y cc nL ret dep bc bs tgt ls st μ Post) : V G y cc nL ret dep bc bs pc ls (.null :: st) μ Post := V.go (fun _ _ _ _ _ _ _ _ _ _ _ _ _ _ _ X hl kk => lv_ifnullN X.1 X.2.1 hdg ht kk) k
theorem v_ifnonnullN {off : Int} (hdg : decode cc pc = .ok (.ifnonnull off, 3)) (k : V G y cc nL ret dep bc bs (pc + 3) ls st μ Post) : V G y cc nL ret dep bc bs pc ls (.null :: st) μ Post := V.go (fun _ _ _ _ _ _ _ _ _ _ _ _ _ _ _ X hl kk => lv_ifnonnullN X.1 X.2.1 hdg kk) k
theorem v_tabOut {dflt lo hi : Int} {offs : Array Int} {len : Nat} {x : Int32} {tgt : Nat} (hdg : decode cc pc = .ok (.tableswitch dflt lo hi offs, len)) (h : x.toInt < lo ∨ hi < x.toInt) (ht : (pc : Int) + dflt = (tgt : Int)) (k : V G y cc nL ret dep bc bs tgt ls st μ Post) : V G y cc nL ret dep bc bs pc ls (.int x :: st) μ Post := V.go (fun _ _ _ _ _ _ _ _ _ _ _ _ _ _ _ X hl kk => lv_tableOut X.1 X.2.1 hdg h ht kk) k
theorem v_tabIn {dflt lo hi : Int} {offs : Array Int} {len : Nat} {x : Int32} {off : Int} {tgt : Nat} (hdg : decode cc pc = .ok (.tableswitch dflt lo hi offs, len)) (h1 : ¬ x.toInt < lo) (h2 : ¬ hi < x.toInt) (ho : offs[(x.toInt - lo).toNat]? = some off) (ht : (pc : Int) + off = (tgt : Int)) (k : V G y cc nL ret dep bc bs tgt ls st μ Post) : V G y cc nL ret dep bc bs pc ls (.int x :: st) μ Post := V.go (fun _ _ _ _ _ _ _ _ _ _ _ _ _ _ _ X hl kk => lv_tableIn X.1 X.2.1 hdg h1 h2 ho ht kk) k
theorem v_ild0 {t : List Value} {x : Int32} (hdg : decode cc pc = .ok (.iload_n 0, 1)) (k : V G y cc nL ret dep bc bs (pc + 1) (.int x :: t) (.int x :: st) μ Post) : V G y cc nL ret dep bc bs pc (.int x :: t) st μ Post := V.go (fun _ _ _ _ _ _ _ _ _ _ _ _ _ _ _ X hl kk => lv_iload_n X.1 X.2.1 hdg rfl (hl.at (i := 0) (v := .int x) rfl rfl) kk) k
theorem v_ist0 {b : Value} {t : List Value} {x : Int32} (hdg : decode cc pc = .ok (.istore_n 0, 1)) (k : V G y cc nL ret dep bc bs (pc + 1) (.int x :: t) st μ Post) : V G y cc nL ret dep bc bs pc (b :: t) (.int x :: st) μ Post := V.sto (i := 0) (v := .int x) rfl (fun _ _ h => absurd h (Nat.lt_irrefl 0)) (fun _ _ _ _ _ _ _ _ _ _ _ _ _ _ _ X hl kk => by
  have hi : 0 < nL := by have := hl.1; simp at this; omega
  exact lv_istore_n X.1 X.2.1 hdg rfl hl.2 hi rfl kk) k
theorem v_lld0 {t : List Value} {x : Int64} (hdg : decode cc pc = .ok (.lload_n 0, 1)) (k : V G y cc nL ret dep bc bs (pc + 1) (.long x :: t) (.long x :: st) μ Post) : V G y cc nL ret dep bc bs pc (.long x :: t) st μ Post := V.go (fun _ _ _ _ _ _ _ _ _ _ _ _ _ _ _ X hl kk => lv_lload_n X.1 X.2.1 hdg rfl (hl.at (i := 0) (v := .long x) rfl rfl) kk) k
theorem v_lst0 {b c : Value} {t : List Value} {x : Int64} (hdg : decode cc pc = .ok (.lstore_n 0, 1)) (k : V G y cc nL ret dep bc bs (pc + 1) (.long x :: UU :: t) st μ Post) : V G y cc nL ret dep bc bs pc (b :: c :: t) (.long x :: st) μ Post := V.st2 (i := 0) (v := .long x) (fun _ _ h => absurd h (Nat.lt_irrefl 0)) (fun _ _ _ _ _ _ _ _ _ _ _ _ _ _ _ X hl kk => by
  have hi : 0 + 1 < nL := by have := hl.1; simp at this; omega
  exact lv_lstore_n X.1 X.2.1 hdg rfl hl.2 hi rfl kk) k
theorem v_ald0 {t : List Value} {x : Nat} (hdg : decode cc pc = .ok (.aload_n 0, 1)) (k : V G y cc nL ret dep bc bs (pc + 1) (.ref x :: t) (.ref x :: st) μ Post) : V G y cc nL ret dep bc bs pc (.ref x :: t) st μ Post := V.go (fun _ _ _ _ _ _ _ _ _ _ _ _ _ _ _ X hl kk => lv_aload_n X.1 X.2.1 hdg rfl (hl.at (i := 0) (v := .ref x) rfl rfl) kk) k
theorem v_ast0 {b : Value} {t : List Value} {x : Nat} (hdg : decode cc pc = .ok (.astore_n 0, 1)) (k : V G y cc nL ret dep bc bs (pc + 1) (.ref x :: t) st μ Post) : V G y cc nL ret dep bc bs pc (b :: t) (.ref x :: st) μ Post := V.sto (i := 0) (v := .ref x) rfl (fun _ _ h => absurd h (Nat.lt_irrefl 0)) (fun _ _ _ _ _ _ _ _ _ _ _ _ _ _ _ X hl kk => by
  have hi : 0 < nL := by have := hl.1; simp at this; omega
  exact lv_astore_n X.1 X.2.1 hdg rfl hl.2 hi rfl kk) k
theorem v_ald0N {t : List Value} (hdg : decode cc pc = .ok (.aload_n 0, 1)) (k : V G y cc nL ret dep bc bs (pc + 1) (.null :: t) (.null :: st) μ Post) : V G y cc nL ret dep bc bs pc (.null :: t) st μ Post := V.go (fun _ _ _ _ _ _ _ _ _ _ _ _ _ _ _ X hl kk => lv_aload_nN X.1 X.2.1 hdg rfl (hl.at (i := 0) (v := .null) rfl rfl) kk) k
theorem v_ast0N {b : Value} {t : List Value} (hdg : decode cc pc = .ok (.astore_n 0, 1)) (k : V G y cc nL ret dep bc bs (pc + 1) (.null :: t) st μ Post) : V G y cc nL ret dep bc bs pc (b :: t) (.null :: st) μ Post := V.sto (i := 0) (v := .null) rfl (fun _ _ h => absurd h (Nat.lt_irrefl 0)) (fun _ _ _ _ _ _ _ _ _ _ _ _ _ _ _ X hl kk => by
  have hi : 0 < nL := by have := hl.1; simp at this; omega
  exact lv_astore_nN X.1 X.2.1 hdg rfl hl.2 hi rfl kk) k
theorem v_inc0 {t : List Value} {x : Int32} (hdg : decode cc pc = .ok (.iinc 0 1, 3)) (k : V G y cc nL ret dep bc bs (pc + 3) (.int (x + 1) :: t) st μ Post) : V G y cc nL ret dep bc bs pc (.int x :: t) st μ Post := V.sto (i := 0) (v := .int (x + 1)) rfl (fun _ _ h => absurd h (Nat.lt_irrefl 0)) (fun _ _ _ _ _ _ _ _ _ _ _ _ _ _ _ X hl kk => by
  have hi : 0 < nL := by have := hl.1; simp at this; omega
  obtain ⟨k0, hk0⟩ := List.getElem?_of_mem (prs_mem (G := G) (ls := .int x :: t) (i := 0) (v := .int x) rfl rfl)
  exact lv_iinc X.1 X.2.1 hdg hl.2 hk0 (by rw [show Int32.ofInt 1 = 1 by decide]) hi rfl kk) k
theorem v_incm0 {t : List Value} {x : Int32} (hdg : decode cc pc = .ok (.iinc 0 (-1), 3)) (k : V G y cc nL ret dep bc bs (pc + 3) (.int (x + (-1)) :: t) st μ Post) : V G y cc nL ret dep bc bs pc (.int x :: t) st μ Post := V.sto (i := 0) (v := .int (x + (-1))) rfl (fun _ _ h => absurd h (Nat.lt_irrefl 0)) (fun _ _ _ _ _ _ _ _ _ _ _ _ _ _ _ X hl kk => by
  have hi : 0 < nL := by have := hl.1; simp at this; omega
  obtain ⟨k0, hk0⟩ := List.getElem?_of_mem (prs_mem (G := G) (ls := .int x :: t) (i := 0) (v := .int x) rfl rfl)
  exact lv_iinc X.1 X.2.1 hdg hl.2 hk0 (by rw [show Int32.ofInt (-1) = (-1) by decide]) hi rfl kk) k
theorem v_ild1 {a0 : Value} {t : List Value} {x : Int32} (hdg : decode cc pc = .ok (.iload_n 1, 1)) (k : V G y cc nL ret dep bc bs (pc + 1) (a0 :: .int x :: t) (.int x :: st) μ Post) : V G y cc nL ret dep bc bs pc (a0 :: .int x :: t) st μ Post := V.go (fun _ _ _ _ _ _ _ _ _ _ _ _ _ _ _ X hl kk => lv_iload_n X.1 X.2.1 hdg rfl (hl.at (i := 1) (v := .int x) rfl rfl) kk) k
theorem v_ist1 {a0 : Value} {b : Value} {t : List Value} {x : Int32} (hdg : decode cc pc = .ok (.istore_n 1, 1)) (hp : (tv G a0).category = 1 := by rfl) (k : V G y cc nL ret dep bc bs (pc + 1) (a0 :: .int x :: t) st μ Post) : V G y cc nL ret dep bc bs pc (a0 :: b :: t) (.int x :: st) μ Post := V.sto (i := 1) (v := .int x) rfl (fun w hw _ => by cases hw; exact hp) (fun _ _ _ _ _ _ _ _ _ _ _ _ _ _ _ X hl kk => by
  have hi : 1 < nL := by have := hl.1; simp at this; omega
  exact lv_istore_n X.1 X.2.1 hdg rfl hl.2 hi rfl kk) k
theorem v_lld1 {a0 : Value} {t : List Value} {x : Int64} (hdg : decode cc pc = .ok (.lload_n 1, 1)) (k : V G y cc nL ret dep bc bs (pc + 1) (a0 :: .long x :: t) (.long x :: st) μ Post) : V G y cc nL ret dep bc bs pc (a0 :: .long x :: t) st μ Post := V.go (fun _ _ _ _ _ _ _ _ _ _ _ _ _ _ _ X hl kk => lv_lload_n X.1 X.2.1 hdg rfl (hl.at (i := 1) (v := .long x) rfl rfl) kk) k
theorem v_lst1 {a0 : Value} {b c : Value} {t : List Value} {x : Int64} (hdg : decode cc pc = .ok (.lstore_n 1, 1)) (hp : (tv G a0).category = 1 := by rfl) (k : V G y cc nL ret dep bc bs (pc + 1) (a0 :: .long x :: UU :: t) st μ Post) : V G y cc nL ret dep bc bs pc (a0 :: b :: c :: t) (.long x :: st) μ Post := V.st2 (i := 1) (v := .long x) (fun w hw _ => by cases hw; exact hp) (fun _ _ _ _ _ _ _ _ _ _ _ _ _ _ _ X hl kk => by
  have hi : 1 + 1 < nL := by have := hl.1; simp at this; omega
  exact lv_lstore_n X.1 X.2.1 hdg rfl hl.2 hi rfl kk) k
theorem v_ald1 {a0 : Value} {t : List Value} {x : Nat} (hdg : decode cc pc = .ok (.aload_n 1, 1)) (k : V G y cc nL ret dep bc bs (pc + 1) (a0 :: .ref x :: t) (.ref x :: st) μ Post) : V G y cc nL ret dep bc bs pc (a0 :: .ref x :: t) st μ Post := V.go (fun _ _ _ _ _ _ _ _ _ _ _ _ _ _ _ X hl kk => lv_aload_n X.1 X.2.1 hdg rfl (hl.at (i := 1) (v := .ref x) rfl rfl) kk) k
theorem v_ast1 {a0 : Value} {b : Value} {t : List Value} {x : Nat} (hdg : decode cc pc = .ok (.astore_n 1, 1)) (hp : (tv G a0).category = 1 := by rfl) (k : V G y cc nL ret dep bc bs (pc + 1) (a0 :: .ref x :: t) st μ Post) : V G y cc nL ret dep bc bs pc (a0 :: b :: t) (.ref x :: st) μ Post := V.sto (i := 1) (v := .ref x) rfl (fun w hw _ => by cases hw; exact hp) (fun _ _ _ _ _ _ _ _ _ _ _ _ _ _ _ X hl kk => by
  have hi : 1 < nL := by have := hl.1; simp at this; omega
  exact lv_astore_n X.1 X.2.1 hdg rfl hl.2 hi rfl kk) k
theorem v_ald1N {a0 : Value} {t : List Value} (hdg : decode cc pc = .ok (.aload_n 1, 1)) (k : V G y cc nL ret dep bc bs (pc + 1) (a0 :: .null :: t) (.null :: st) μ Post) : V G y cc nL ret dep bc bs pc (a0 :: .null :: t) st μ Post := V.go (fun _ _ _ _ _ _ _ _ _ _ _ _ _ _ _ X hl kk => lv_aload_nN X.1 X.2.1 hdg rfl (hl.at (i := 1) (v := .null) rfl rfl) kk) k
theorem v_ast1N {a0 : Value} {b : Value} {t : List Value} (hdg : decode cc pc = .ok (.astore_n 1, 1)) (hp : (tv G a0).category = 1 := by rfl) (k : V G y cc nL ret dep bc bs (pc + 1) (a0 :: .null :: t) st μ Post) : V G y cc nL ret dep bc bs pc (a0 :: b :: t) (.null :: st) μ Post := V.sto (i := 1) (v := .null) rfl (fun w hw _ => by cases hw; exact hp) (fun _ _ _ _ _ _ _ _ _ _ _ _ _ _ _ X hl kk => by
  have hi : 1 < nL := by have := hl.1; simp at this; omega
  exact lv_astore_nN X.1 X.2.1 hdg rfl hl.2 hi rfl kk) k
theorem v_inc1 {a0 : Value} {t : List Value} {x : Int32} (hdg : decode cc pc = .ok (.iinc 1 1, 3)) (hp : (tv G a0).category = 1 := by rfl) (k : V G y cc nL ret dep bc bs (pc + 3) (a0 :: .int (x + 1) :: t) st μ Post) : V G y cc nL ret dep bc bs pc (a0 :: .int x :: t) st μ Post := V.sto (i := 1) (v := .int (x + 1)) rfl (fun w hw _ => by cases hw; exact hp) (fun _ _ _ _ _ _ _ _ _ _ _ _ _ _ _ X hl kk => by
  have hi : 1 < nL := by have := hl.1; simp at this; omega
  obtain ⟨k0, hk0⟩ := List.getElem?_of_mem (prs_mem (G := G) (ls := a0 :: .int x :: t) (i := 1) (v := .int x) rfl rfl)
  exact lv_iinc X.1 X.2.1 hdg hl.2 hk0 (by rw [show Int32.ofInt 1 = 1 by decide]) hi rfl kk) k
theorem v_incm1 {a0 : Value} {t : List Value} {x : Int32} (hdg : decode cc pc = .ok (.iinc 1 (-1), 3)) (hp : (tv G a0).category = 1 := by rfl) (k : V G y cc nL ret dep bc bs (pc + 3) (a0 :: .int (x + (-1)) :: t) st μ Post) : V G y cc nL ret dep bc bs pc (a0 :: .int x :: t) st μ Post := V.sto (i := 1) (v := .int (x + (-1))) rfl (fun w hw _ => by cases hw; exact hp) (fun _ _ _ _ _ _ _ _ _ _ _ _ _ _ _ X hl kk => by
  have hi : 1 < nL := by have := hl.1; simp at this; omega
  obtain ⟨k0, hk0⟩ := List.getElem?_of_mem (prs_mem (G := G) (ls := a0 :: .int x :: t) (i := 1) (v := .int x) rfl rfl)
  exact lv_iinc X.1 X.2.1 hdg hl.2 hk0 (by rw [show Int32.ofInt (-1) = (-1) by decide]) hi rfl kk) k
theorem v_ild2 {a0 a1 : Value} {t : List Value} {x : Int32} (hdg : decode cc pc = .ok (.iload_n 2, 1)) (k : V G y cc nL ret dep bc bs (pc + 1) (a0 :: a1 :: .int x :: t) (.int x :: st) μ Post) : V G y cc nL ret dep bc bs pc (a0 :: a1 :: .int x :: t) st μ Post := V.go (fun _ _ _ _ _ _ _ _ _ _ _ _ _ _ _ X hl kk => lv_iload_n X.1 X.2.1 hdg rfl (hl.at (i := 2) (v := .int x) rfl rfl) kk) k
theorem v_ist2 {a0 a1 : Value} {b : Value} {t : List Value} {x : Int32} (hdg : decode cc pc = .ok (.istore_n 2, 1)) (hp : (tv G a1).category = 1 := by rfl) (k : V G y cc nL ret dep bc bs (pc + 1) (a0 :: a1 :: .int x :: t) st μ Post) : V G y cc nL ret dep bc bs pc (a0 :: a1 :: b :: t) (.int x :: st) μ Post := V.sto (i := 2) (v := .int x) rfl (fun w hw _ => by cases hw; exact hp) (fun _ _ _ _ _ _ _ _ _ _ _ _ _ _ _ X hl kk => by
  have hi : 2 < nL := by have := hl.1; simp at this; omega
  exact lv_istore_n X.1 X.2.1 hdg rfl hl.2 hi rfl kk) k
theorem v_lld2 {a0 a1 : Value} {t : List Value} {x : Int64} (hdg : decode cc pc = .ok (.lload_n 2, 1)) (k : V G y cc nL ret dep bc bs (pc + 1) (a0 :: a1 :: .long x :: t) (.long x :: st) μ Post) : V G y cc nL ret dep bc bs pc (a0 :: a1 :: .long x :: t) st μ Post := V.go (fun _ _ _ _ _ _ _ _ _ _ _ _ _ _ _ X hl kk => lv_lload_n X.1 X.2.1 hdg rfl (hl.at (i := 2) (v := .long x) rfl rfl) kk) k
theorem v_lst2 {a0 a1 : Value} {b c : Value} {t : List Value} {x : Int64} (hdg : decode cc pc = .ok (.lstore_n 2, 1)) (hp : (tv G a1).category = 1 := by rfl) (k : V G y cc nL ret dep bc bs (pc + 1) (a0 :: a1 :: .long x :: UU :: t) st μ Post) : V G y cc nL ret dep bc bs pc (a0 :: a1 :: b :: c :: t) (.long x :: st) μ Post := V.st2 (i := 2) (v := .long x) (fun w hw _ => by cases hw; exact hp) (fun _ _ _ _ _ _ _ _ _ _ _ _ _ _ _ X hl kk => by
  have hi : 2 + 1 < nL := by have := hl.1; simp at this; omega
  exact lv_lstore_n X.1 X.2.1 hdg rfl hl.2 hi rfl kk) k
theorem v_ald2 {a0 a1 : Value} {t : List Value} {x : Nat} (hdg : decode cc pc = .ok (.aload_n 2, 1)) (k : V G y cc nL ret dep bc bs (pc + 1) (a0 :: a1 :: .ref x :: t) (.ref x :: st) μ Post) : V G y cc nL ret dep bc bs pc (a0 :: a1 :: .ref x :: t) st μ Post := V.go (fun _ _ _ _ _ _ _ _ _ _ _ _ _ _ _ X hl kk => lv_aload_n X.1 X.2.1 hdg rfl (hl.at (i := 2) (v := .ref x) rfl rfl) kk) k
theorem v_ast2 {a0 a1 : Value} {b : Value} {t : List Value} {x : Nat} (hdg : decode cc pc = .ok (.astore_n 2, 1)) (hp : (tv G a1).category = 1 := by rfl) (k : V G y cc nL ret dep bc bs (pc + 1) (a0 :: a1 :: .ref x :: t) st μ Post) : V G y cc nL ret dep bc bs pc (a0 :: a1 :: b :: t) (.ref x :: st) μ Post := V.sto (i := 2) (v := .ref x) rfl (fun w hw _ => by cases hw; exact hp) (fun _ _ _ _ _ _ _ _ _ _ _ _ _ _ _ X hl kk => by
  have hi : 2 < nL := by have := hl.1; simp at this; omega
  exact lv_astore_n X.1 X.2.1 hdg rfl hl.2 hi rfl kk) k
theorem v_ald2N {a0 a1 : Value} {t : List Value} (hdg : decode cc pc = .ok (.aload_n 2, 1)) (k : V G y cc nL ret dep bc bs (pc + 1) (a0 :: a1 :: .null :: t) (.null :: st) μ Post) : V G y cc nL ret dep bc bs pc (a0 :: a1 :: .null :: t) st μ Post := V.go (fun _ _ _ _ _ _ _ _ _ _ _ _ _ _ _ X hl kk => lv_aload_nN X.1 X.2.1 hdg rfl (hl.at (i := 2) (v := .null) rfl rfl) kk) k
theorem v_ast2N {a0 a1 : Value} {b : Value} {t : List Value} (hdg : decode cc pc = .ok (.astore_n 2, 1)) (hp : (tv G a1).category = 1 := by rfl) (k : V G y cc nL ret dep bc bs (pc + 1) (a0 :: a1 :: .null :: t) st μ Post) : V G y cc nL ret dep bc bs pc (a0 :: a1 :: b :: t) (.null :: st) μ Post := V.sto (i := 2) (v := .null) rfl (fun w hw _ => by cases hw; exact hp) (fun _ _ _ _ _ _ _ _ _ _ _ _ _ _ _ X hl kk => by
  have hi : 2 < nL := by have := hl.1; simp at this; omega
  exact lv_astore_nN X.1 X.2.1 hdg rfl hl.2 hi rfl kk) k
theorem v_inc2 {a0 a1 : Value} {t : List Value} {x : Int32} (hdg : decode cc pc = .ok (.iinc 2 1, 3)) (hp : (tv G a1).category = 1 := by rfl) (k : V G y cc nL ret dep bc bs (pc + 3) (a0 :: a1 :: .int (x + 1) :: t) st μ Post) : V G y cc nL ret dep bc bs pc (a0 :: a1 :: .int x :: t) st μ Post := V.sto (i := 2) (v := .int (x + 1)) rfl (fun w hw _ => by cases hw; exact hp) (fun _ _ _ _ _ _ _ _ _ _ _ _ _ _ _ X hl kk => by
  have hi : 2 < nL := by have := hl.1; simp at this; omega
  obtain ⟨k0, hk0⟩ := List.getElem?_of_mem (prs_mem (G := G) (ls := a0 :: a1 :: .int x :: t) (i := 2) (v := .int x) rfl rfl)
  exact lv_iinc X.1 X.2.1 hdg hl.2 hk0 (by rw [show Int32.ofInt 1 = 1 by decide]) hi rfl kk) k
theorem v_incm2 {a0 a1 : Value} {t : List Value} {x : Int32} (hdg : decode cc pc = .ok (.iinc 2 (-1), 3)) (hp : (tv G a1).category = 1 := by rfl) (k : V G y cc nL ret dep bc bs (pc + 3) (a0 :: a1 :: .int (x + (-1)) :: t) st μ Post) : V G y cc nL ret dep bc bs pc (a0 :: a1 :: .int x :: t) st μ Post := V.sto (i := 2) (v := .int (x + (-1))) rfl (fun w hw _ => by cases hw; exact hp) (fun _ _ _ _ _ _ _ _ _ _ _ _ _ _ _ X hl kk => by
  have hi : 2 < nL := by have := hl.1; simp at this; omega
  obtain ⟨k0, hk0⟩ := List.getElem?_of_mem (prs_mem (G := G) (ls := a0 :: a1 :: .int x :: t) (i := 2) (v := .int x) rfl rfl)
  exact lv_iinc X.1 X.2.1 hdg hl.2 hk0 (by rw [show Int32.ofInt (-1) = (-1) by decide]) hi rfl kk) k
theorem v_ild3 {a0 a1 a2 : Value} {t : List Value} {x : Int32} (hdg : decode cc pc = .ok (.iload_n 3, 1)) (k : V G y cc nL ret dep bc bs (pc + 1) (a0 :: a1 :: a2 :: .int x :: t) (.int x :: st) μ Post) : V G y cc nL ret dep bc bs pc (a0 :: a1 :: a2 :: .int x :: t) st μ Post := V.go (fun _ _ _ _ _ _ _ _ _ _ _ _ _ _ _ X hl kk => lv_iload_n X.1 X.2.1 hdg rfl (hl.at (i := 3) (v := .int x) rfl rfl) kk) k
theorem v_ist3 {a0 a1 a2 : Value} {b : Value} {t : List Value} {x : Int32} (hdg : decode cc pc = .ok (.istore_n 3, 1)) (hp : (tv G a2).category = 1 := by rfl) (k : V G y cc nL ret dep bc bs (pc + 1) (a0 :: a1 :: a2 :: .int x :: t) st μ Post) : V G y cc nL ret dep bc bs pc (a0 :: a1 :: a2 :: b :: t) (.int x :: st) μ Post := V.sto (i := 3) (v := .int x) rfl (fun w hw _ => by cases hw; exact hp) (fun _ _ _ _ _ _ _ _ _ _ _ _ _ _ _ X hl kk => by
  have hi : 3 < nL := by have := hl.1; simp at this; omega
  exact lv_istore_n X.1 X.2.1 hdg rfl hl.2 hi rfl kk) k
theorem v_lld3 {a0 a1 a2 : Value} {t : List Value} {x : Int64} (hdg : decode cc pc = .ok (.lload_n 3, 1)) (k : V G y cc nL ret dep bc bs (pc + 1) (a0 :: a1 :: a2 :: .long x :: t) (.long x :: st) μ Post) : V G y cc nL ret dep bc bs pc (a0 :: a1 :: a2 :: .long x :: t) st μ Post := V.go (fun _ _ _ _ _ _ _ _ _ _ _ _ _ _ _ X hl kk => lv_lload_n X.1 X.2.1 hdg rfl (hl.at (i := 3) (v := .long x) rfl rfl) kk) k
theorem v_lst3 {a0 a1 a2 : Value} {b c : Value} {t : List Value} {x : Int64} (hdg : decode cc pc = .ok (.lstore_n 3, 1)) (hp : (tv G a2).category = 1 := by rfl) (k : V G y cc nL ret dep bc bs (pc + 1) (a0 :: a1 :: a2 :: .long x :: UU :: t) st μ Post) : V G y cc nL ret dep bc bs pc (a0 :: a1 :: a2 :: b :: c :: t) (.long x :: st) μ Post := V.st2 (i := 3) (v := .long x) (fun w hw _ => by cases hw; exact hp) (fun _ _ _ _ _ _ _ _ _ _ _ _ _ _ _ X hl kk => by
  have hi : 3 + 1 < nL := by have := hl.1; simp at this; omega
  exact lv_lstore_n X.1 X.2.1 hdg rfl hl.2 hi rfl kk) k
theorem v_ald3 {a0 a1 a2 : Value} {t : List Value} {x : Nat} (hdg : decode cc pc = .ok (.aload_n 3, 1)) (k : V G y cc nL ret dep bc bs (pc + 1) (a0 :: a1 :: a2 :: .ref x :: t) (.ref x :: st) μ Post) : V G y cc nL ret dep bc bs pc (a0 :: a1 :: a2 :: .ref x :: t) st μ Post := V.go (fun _ _ _ _ _ _ _ _ _ _ _ _ _ _ _ X hl kk => lv_aload_n X.1 X.2.1 hdg rfl (hl.at (i := 3) (v := .ref x) rfl rfl) kk) k
theorem v_ast3 {a0 a1 a2 : Value} {b : Value} {t : List Value} {x : Nat} (hdg : decode cc pc = .ok (.astore_n 3, 1)) (hp : (tv G a2).category = 1 := by rfl) (k : V G y cc nL ret dep bc bs (pc + 1) (a0 :: a1 :: a2 :: .ref x :: t) st μ Post) : V G y cc nL ret dep bc bs pc (a0 :: a1 :: a2 :: b :: t) (.ref x :: st) μ Post := V.sto (i := 3) (v := .ref x) rfl (fun w hw _ => by cases hw; exact hp) (fun _ _ _ _ _ _ _ _ _ _ _ _ _ _ _ X hl kk => by
  have hi : 3 < nL := by have := hl.1; simp at this; omega
  exact lv_astore_n X.1 X.2.1 hdg rfl hl.2 hi rfl kk) k
theorem v_ald3N {a0 a1 a2 : Value} {t : List Value} (hdg : decode cc pc = .ok (.aload_n 3, 1)) (k : V G y cc nL ret dep bc bs (pc + 1) (a0 :: a1 :: a2 :: .null :: t) (.null :: st) μ Post) : V G y cc nL ret dep bc bs pc (a0 :: a1 :: a2 :: .null :: t) st μ Post := V.go (fun _ _ _ _ _ _ _ _ _ _ _ _ _ _ _ X hl kk => lv_aload_nN X.1 X.2.1 hdg rfl (hl.at (i := 3) (v := .null) rfl rfl) kk) k
theorem v_ast3N {a0 a1 a2 : Value} {b : Value} {t : List Value} (hdg : decode cc pc = .ok (.astore_n 3, 1)) (hp : (tv G a2).category = 1 := by rfl) (k : V G y cc nL ret dep bc bs (pc + 1) (a0 :: a1 :: a2 :: .null :: t) st μ Post) : V G y cc nL ret dep bc bs pc (a0 :: a1 :: a2 :: b :: t) (.null :: st) μ Post := V.sto (i := 3) (v := .null) rfl (fun w hw _ => by cases hw; exact hp) (fun _ _ _ _ _ _ _ _ _ _ _ _ _ _ _ X hl kk => by
  have hi : 3 < nL := by have := hl.1; simp at this; omega
  exact lv_astore_nN X.1 X.2.1 hdg rfl hl.2 hi rfl kk) k
theorem v_inc3 {a0 a1 a2 : Value} {t : List Value} {x : Int32} (hdg : decode cc pc = .ok (.iinc 3 1, 3)) (hp : (tv G a2).category = 1 := by rfl) (k : V G y cc nL ret dep bc bs (pc + 3) (a0 :: a1 :: a2 :: .int (x + 1) :: t) st μ Post) : V G y cc nL ret dep bc bs pc (a0 :: a1 :: a2 :: .int x :: t) st μ Post := V.sto (i := 3) (v := .int (x + 1)) rfl (fun w hw _ => by cases hw; exact hp) (fun _ _ _ _ _ _ _ _ _ _ _ _ _ _ _ X hl kk => by
  have hi : 3 < nL := by have := hl.1; simp at this; omega
  obtain ⟨k0, hk0⟩ := List.getElem?_of_mem (prs_mem (G := G) (ls := a0 :: a1 :: a2 :: .int x :: t) (i := 3) (v := .int x) rfl rfl)
  exact lv_iinc X.1 X.2.1 hdg hl.2 hk0 (by rw [show Int32.ofInt 1 = 1 by decide]) hi rfl kk) k
theorem v_incm3 {a0 a1 a2 : Value} {t : List Value} {x : Int32} (hdg : decode cc pc = .ok (.iinc 3 (-1), 3)) (hp : (tv G a2).category = 1 := by rfl) (k : V G y cc nL ret dep bc bs (pc + 3) (a0 :: a1 :: a2 :: .int (x + (-1)) :: t) st μ Post) : V G y cc nL ret dep bc bs pc (a0 :: a1 :: a2 :: .int x :: t) st μ Post := V.sto (i := 3) (v := .int (x + (-1))) rfl (fun w hw _ => by cases hw; exact hp) (fun _ _ _ _ _ _ _ _ _ _ _ _ _ _ _ X hl kk => by
  have hi : 3 < nL := by have := hl.1; simp at this; omega
  obtain ⟨k0, hk0⟩ := List.getElem?_of_mem (prs_mem (G := G) (ls := a0 :: a1 :: a2 :: .int x :: t) (i := 3) (v := .int x) rfl rfl)
  exact lv_iinc X.1 X.2.1 hdg hl.2 hk0 (by rw [show Int32.ofInt (-1) = (-1) by decide]) hi rfl kk) k
theorem v_ild4 {a0 a1 a2 a3 : Value} {t : List Value} {x : Int32} (hdg : decode cc pc = .ok (.iload 4, 2)) (k : V G y cc nL ret dep bc bs (pc + 2) (a0 :: a1 :: a2 :: a3 :: .int x :: t) (.int x :: st) μ Post) : V G y cc nL ret dep bc bs pc (a0 :: a1 :: a2 :: a3 :: .int x :: t) st μ Post := V.go (fun _ _ _ _ _ _ _ _ _ _ _ _ _ _ _ X hl kk => lv_iload X.1 X.2.1 hdg (hl.at (i := 4) (v := .int x) rfl rfl) kk) k
theorem v_ist4 {a0 a1 a2 a3 : Value} {b : Value} {t : List Value} {x : Int32} (hdg : decode cc pc = .ok (.istore 4, 2)) (hp : (tv G a3).category = 1 := by rfl) (k : V G y cc nL ret dep bc bs (pc + 2) (a0 :: a1 :: a2 :: a3 :: .int x :: t) st μ Post) : V G y cc nL ret dep bc bs pc (a0 :: a1 :: a2 :: a3 :: b :: t) (.int x :: st) μ Post := V.sto (i := 4) (v := .int x) rfl (fun w hw _ => by cases hw; exact hp) (fun _ _ _ _ _ _ _ _ _ _ _ _ _ _ _ X hl kk => by
  have hi : 4 < nL := by have := hl.1; simp at this; omega
  exact lv_istore X.1 X.2.1 hdg hl.2 hi rfl kk) k
theorem v_lld4 {a0 a1 a2 a3 : Value} {t : List Value} {x : Int64} (hdg : decode cc pc = .ok (.lload 4, 2)) (k : V G y cc nL ret dep bc bs (pc + 2) (a0 :: a1 :: a2 :: a3 :: .long x :: t) (.long x :: st) μ Post) : V G y cc nL ret dep bc bs pc (a0 :: a1 :: a2 :: a3 :: .long x :: t) st μ Post := V.go (fun _ _ _ _ _ _ _ _ _ _ _ _ _ _ _ X hl kk => lv_lload X.1 X.2.1 hdg (hl.at (i := 4) (v := .long x) rfl rfl) kk) k
theorem v_lst4 {a0 a1 a2 a3 : Value} {b c : Value} {t : List Value} {x : Int64} (hdg : decode cc pc = .ok (.lstore 4, 2)) (hp : (tv G a3).category = 1 := by rfl) (k : V G y cc nL ret dep bc bs (pc + 2) (a0 :: a1 :: a2 :: a3 :: .long x :: UU :: t) st μ Post) : V G y cc nL ret dep bc bs pc (a0 :: a1 :: a2 :: a3 :: b :: c :: t) (.long x :: st) μ Post := V.st2 (i := 4) (v := .long x) (fun w hw _ => by cases hw; exact hp) (fun _ _ _ _ _ _ _ _ _ _ _ _ _ _ _ X hl kk => by
  have hi : 4 + 1 < nL := by have := hl.1; simp at this; omega
  exact lv_lstore X.1 X.2.1 hdg hl.2 hi rfl kk) k
theorem v_ald4 {a0 a1 a2 a3 : Value} {t : List Value} {x : Nat} (hdg : decode cc pc = .ok (.aload 4, 2)) (k : V G y cc nL ret dep bc bs (pc + 2) (a0 :: a1 :: a2 :: a3 :: .ref x :: t) (.ref x :: st) μ Post) : V G y cc nL ret dep bc bs pc (a0 :: a1 :: a2 :: a3 :: .ref x :: t) st μ Post := V.go (fun _ _ _ _ _ _ _ _ _ _ _ _ _ _ _ X hl kk => lv_aload X.1 X.2.1 hdg (hl.at (i := 4) (v := .ref x) rfl rfl) kk) k
theorem v_ast4 {a0 a1 a2 a3 : Value} {b : Value} {t : List Value} {x : Nat} (hdg : decode cc pc = .ok (.astore 4, 2)) (hp : (tv G a3).category = 1 := by rfl) (k : V G y cc nL ret dep bc bs (pc + 2) (a0 :: a1 :: a2 :: a3 :: .ref x :: t) st μ Post) : V G y cc nL ret dep bc bs pc (a0 :: a1 :: a2 :: a3 :: b :: t) (.ref x :: st) μ Post := V.sto (i := 4) (v := .ref x) rfl (fun w hw _ => by cases hw; exact hp) (fun _ _ _ _ _ _ _ _ _ _ _ _ _ _ _ X hl kk => by
  have hi : 4 < nL := by have := hl.1; simp at this; omega
  exact lv_astore X.1 X.2.1 hdg hl.2 hi rfl kk) k
theorem v_ald4N {a0 a1 a2 a3 : Value} {t : List Value} (hdg : decode cc pc = .ok (.aload 4, 2)) (k : V G y cc nL ret dep bc bs (pc + 2) (a0 :: a1 :: a2 :: a3 :: .null :: t) (.null :: st) μ Post) : V G y cc nL ret dep bc bs pc (a0 :: a1 :: a2 :: a3 :: .null :: t) st μ Post := V.go (fun _ _ _ _ _ _ _ _ _ _ _ _ _ _ _ X hl kk => lv_aloadN X.1 X.2.1 hdg (hl.at (i := 4) (v := .null) rfl rfl) kk) k
theorem v_ast4N {a0 a1 a2 a3 : Value} {b : Value} {t : List Value} (hdg : decode cc pc = .ok (.astore 4, 2)) (hp : (tv G a3).category = 1 := by rfl) (k : V G y cc nL ret dep bc bs (pc + 2) (a0 :: a1 :: a2 :: a3 :: .null :: t) st μ Post) : V G y cc nL ret dep bc bs pc (a0 :: a1 :: a2 :: a3 :: b :: t) (.null :: st) μ Post := V.sto (i := 4) (v := .null) rfl (fun w hw _ => by cases hw; exact hp) (fun _ _ _ _ _ _ _ _ _ _ _ _ _ _ _ X hl kk => by
  have hi : 4 < nL := by have := hl.1; simp at this; omega
  exact lv_astoreN X.1 X.2.1 hdg hl.2 hi rfl kk) k
theorem v_inc4 {a0 a1 a2 a3 : Value} {t : List Value} {x : Int32} (hdg : decode cc pc = .ok (.iinc 4 1, 3)) (hp : (tv G a3).category = 1 := by rfl) (k : V G y cc nL ret dep bc bs (pc + 3) (a0 :: a1 :: a2 :: a3 :: .int (x + 1) :: t) st μ Post) : V G y cc nL ret dep bc bs pc (a0 :: a1 :: a2 :: a3 :: .int x :: t) st μ Post := V.sto (i := 4) (v := .int (x + 1)) rfl (fun w hw _ => by cases hw; exact hp) (fun _ _ _ _ _ _ _ _ _ _ _ _ _ _ _ X hl kk => by
  have hi : 4 < nL := by have := hl.1; simp at this; omega
  obtain ⟨k0, hk0⟩ := List.getElem?_of_mem (prs_mem (G := G) (ls := a0 :: a1 :: a2 :: a3 :: .int x :: t) (i := 4) (v := .int x) rfl rfl)
  exact lv_iinc X.1 X.2.1 hdg hl.2 hk0 (by rw [show Int32.ofInt 1 = 1 by decide]) hi rfl kk) k
theorem v_incm4 {a0 a1 a2 a3 : Value} {t : List Value} {x : Int32} (hdg : decode cc pc = .ok (.iinc 4 (-1), 3)) (hp : (tv G a3).category = 1 := by rfl) (k : V G y cc nL ret dep bc bs (pc + 3) (a0 :: a1 :: a2 :: a3 :: .int (x + (-1)) :: t) st μ Post) : V G y cc nL ret dep bc bs pc (a0 :: a1 :: a2 :: a3 :: .int x :: t) st μ Post := V.sto (i := 4) (v := .int (x + (-1))) rfl (fun w hw _ => by cases hw; exact hp) (fun _ _ _ _ _ _ _ _ _ _ _ _ _ _ _ X hl kk => by
  have hi : 4 < nL := by have := hl.1; simp at this; omega
  obtain ⟨k0, hk0⟩ := List.getElem?_of_mem (prs_mem (G := G) (ls := a0 :: a1 :: a2 :: a3 :: .int x :: t) (i := 4) (v := .int x) rfl rfl)
  exact lv_iinc X.1 X.2.1 hdg hl.2 hk0 (by rw [show Int32.ofInt (-1) = (-1) by decide]) hi rfl kk) k
theorem v_ild5 {a0 a1 a2 a3 a4 : Value} {t : List Value} {x : Int32} (hdg : decode cc pc = .ok (.iload 5, 2)) (k : V G y cc nL ret dep bc bs (pc + 2) (a0 :: a1 :: a2 :: a3 :: a4 :: .int x :: t) (.int x :: st) μ Post) : V G y cc nL ret dep bc bs pc (a0 :: a1 :: a2 :: a3 :: a4 :: .int x :: t) st μ Post := V.go (fun _ _ _ _ _ _ _ _ _ _ _ _ _ _ _ X hl kk => lv_iload X.1 X.2.1 hdg (hl.at (i := 5) (v := .int x) rfl rfl) kk) k
theorem v_ist5 {a0 a1 a2 a3 a4 : Value} {b : Value} {t : List Value} {x : Int32} (hdg : decode cc pc = .ok (.istore 5, 2)) (hp : (tv G a4).category = 1 := by rfl) (k : V G y cc nL ret dep bc bs (pc + 2) (a0 :: a1 :: a2 :: a3 :: a4 :: .int x :: t) st μ Post) : V G y cc nL ret dep bc bs pc (a0 :: a1 :: a2 :: a3 :: a4 :: b :: t) (.int x :: st) μ Post := V.sto (i := 5) (v := .int x) rfl (fun w hw _ => by cases hw; exact hp) (fun _ _ _ _ _ _ _ _ _ _ _ _ _ _ _ X hl kk => by
  have hi : 5 < nL := by have := hl.1; simp at this; omega
  exact lv_istore X.1 X.2.1 hdg hl.2 hi rfl kk) k
theorem v_lld5 {a0 a1 a2 a3 a4 : Value} {t : List Value} {x : Int64} (hdg : decode cc pc = .ok (.lload 5, 2)) (k : V G y cc nL ret dep bc bs (pc + 2) (a0 :: a1 :: a2 :: a3 :: a4 :: .long x :: t) (.long x :: st) μ Post) : V G y cc nL ret dep bc bs pc (a0 :: a1 :: a2 :: a3 :: a4 :: .long x :: t) st μ Post := V.go (fun _ _ _ _ _ _ _ _ _ _ _ _ _ _ _ X hl kk => lv_lload X.1 X.2.1 hdg (hl.at (i := 5) (v := .long x) rfl rfl) kk) k
theorem v_lst5 {a0 a1 a2 a3 a4 : Value} {b c : Value} {t : List Value} {x : Int64} (hdg : decode cc pc = .ok (.lstore 5, 2)) (hp : (tv G a4).category = 1 := by rfl) (k : V G y cc nL ret dep bc bs (pc + 2) (a0 :: a1 :: a2 :: a3 :: a4 :: .long x :: UU :: t) st μ Post) : V G y cc nL ret dep bc bs pc (a0 :: a1 :: a2 :: a3 :: a4 :: b :: c :: t) (.long x :: st) μ Post := V.st2 (i := 5) (v := .long x) (fun w hw _ => by cases hw; exact hp) (fun _ _ _ _ _ _ _ _ _ _ _ _ _ _ _ X hl kk => by
  have hi : 5 + 1 < nL := by have := hl.1; simp at this; omega
  exact lv_lstore X.1 X.2.1 hdg hl.2 hi rfl kk) k
theorem v_ald5 {a0 a1 a2 a3 a4 : Value} {t : List Value} {x : Nat} (hdg : decode cc pc = .ok (.aload 5, 2)) (k : V G y cc nL ret dep bc bs (pc + 2) (a0 :: a1 :: a2 :: a3 :: a4 :: .ref x :: t) (.ref x :: st) μ Post) : V G y cc nL ret dep bc bs pc (a0 :: a1 :: a2 :: a3 :: a4 :: .ref x :: t) st μ Post := V.go (fun _ _ _ _ _ _ _ _ _ _ _ _ _ _ _ X hl kk => lv_aload X.1 X.2.1 hdg (hl.at (i := 5) (v := .ref x) rfl rfl) kk) k
theorem v_ast5 {a0 a1 a2 a3 a4 : Value} {b : Value} {t : List Value} {x : Nat} (hdg : decode cc pc = .ok (.astore 5, 2)) (hp : (tv G a4).category = 1 := by rfl) (k : V G y cc nL ret dep bc bs (pc + 2) (a0 :: a1 :: a2 :: a3 :: a4 :: .ref x :: t) st μ Post) : V G y cc nL ret dep bc bs pc (a0 :: a1 :: a2 :: a3 :: a4 :: b :: t) (.ref x :: st) μ Post := V.sto (i := 5) (v := .ref x) rfl (fun w hw _ => by cases hw; exact hp) (fun _ _ _ _ _ _ _ _ _ _ _ _ _ _ _ X hl kk => by
  have hi : 5 < nL := by have := hl.1; simp at this; omega
  exact lv_astore X.1 X.2.1 hdg hl.2 hi rfl kk) k
theorem v_ald5N {a0 a1 a2 a3 a4 : Value} {t : List Value} (hdg : decode cc pc = .ok (.aload 5, 2)) (k : V G y cc nL ret dep bc bs (pc + 2) (a0 :: a1 :: a2 :: a3 :: a4 :: .null :: t) (.null :: st) μ Post) : V G y cc nL ret dep bc bs pc (a0 :: a1 :: a2 :: a3 :: a4 :: .null :: t) st μ Post := V.go (fun _ _ _ _ _ _ _ _ _ _ _ _ _ _ _ X hl kk => lv_aloadN X.1 X.2.1 hdg (hl.at (i := 5) (v := .null) rfl rfl) kk) k
theorem v_ast5N {a0 a1 a2 a3 a4 : Value} {b : Value} {t : List Value} (hdg : decode cc pc = .ok (.astore 5, 2)) (hp : (tv G a4).category = 1 := by rfl) (k : V G y cc nL ret dep bc bs (pc + 2) (a0 :: a1 :: a2 :: a3 :: a4 :: .null :: t) st μ Post) : V G y cc nL ret dep bc bs pc (a0 :: a1 :: a2 :: a3 :: a4 :: b :: t) (.null :: st) μ Post := V.sto (i := 5) (v := .null) rfl (fun w hw _ => by cases hw; exact hp) (fun _ _ _ _ _ _ _ _ _ _ _ _ _ _ _ X hl kk => by
  have hi : 5 < nL := by have := hl.1; simp at this; omega
  exact lv_astoreN X.1 X.2.1 hdg hl.2 hi rfl kk) k
theorem v_inc5 {a0 a1 a2 a3 a4 : Value} {t : List Value} {x : Int32} (hdg : decode cc pc = .ok (.iinc 5 1, 3)) (hp : (tv G a4).category = 1 := by rfl) (k : V G y cc nL ret dep bc bs (pc + 3) (a0 :: a1 :: a2 :: a3 :: a4 :: .int (x + 1) :: t) st μ Post) : V G y cc nL ret dep bc bs pc (a0 :: a1 :: a2 :: a3 :: a4 :: .int x :: t) st μ Post := V.sto (i := 5) (v := .int (x + 1)) rfl (fun w hw _ => by cases hw; exact hp) (fun _ _ _ _ _ _ _ _ _ _ _ _ _ _ _ X hl kk => by
  have hi : 5 < nL := by have := hl.1; simp at this; omega
  obtain ⟨k0, hk0⟩ := List.getElem?_of_mem (prs_mem (G := G) (ls := a0 :: a1 :: a2 :: a3 :: a4 :: .int x :: t) (i := 5) (v := .int x) rfl rfl)
  exact lv_iinc X.1 X.2.1 hdg hl.2 hk0 (by rw [show Int32.ofInt 1 = 1 by decide]) hi rfl kk) k
theorem v_incm5 {a0 a1 a2 a3 a4 : Value} {t : List Value} {x : Int32} (hdg : decode cc pc = .ok (.iinc 5 (-1), 3)) (hp : (tv G a4).category = 1 := by rfl) (k : V G y cc nL ret dep bc bs (pc + 3) (a0 :: a1 :: a2 :: a3 :: a4 :: .int (x + (-1)) :: t) st μ Post) : V G y cc nL ret dep bc bs pc (a0 :: a1 :: a2 :: a3 :: a4 :: .int x :: t) st μ Post := V.sto (i := 5) (v := .int (x + (-1))) rfl (fun w hw _ => by cases hw; exact hp) (fun _ _ _ _ _ _ _ _ _ _ _ _ _ _ _ X hl kk => by
  have hi : 5 < nL := by have := hl.1; simp at this; omega
  obtain ⟨k0, hk0⟩ := List.getElem?_of_mem (prs_mem (G := G) (ls := a0 :: a1 :: a2 :: a3 :: a4 :: .int x :: t) (i := 5) (v := .int x) rfl rfl)
  exact lv_iinc X.1 X.2.1 hdg hl.2 hk0 (by rw [show Int32.ofInt (-1) = (-1) by decide]) hi rfl kk) k
theorem v_ild6 {a0 a1 a2 a3 a4 a5 : Value} {t : List Value} {x : Int32} (hdg : decode cc pc = .ok (.iload 6, 2)) (k : V G y cc nL ret dep bc bs (pc + 2) (a0 :: a1 :: a2 :: a3 :: a4 :: a5 :: .int x :: t) (.int x :: st) μ Post) : V G y cc nL ret dep bc bs pc (a0 :: a1 :: a2 :: a3 :: a4 :: a5 :: .int x :: t) st μ Post := V.go (fun _ _ _ _ _ _ _ _ _ _ _ _ _ _ _ X hl kk => lv_iload X.1 X.2.1 hdg (hl.at (i := 6) (v := .int x) rfl rfl) kk) k
theorem v_ist6 {a0 a1 a2 a3 a4 a5 : Value} {b : Value} {t : List Value} {x : Int32} (hdg : decode cc pc = .ok (.istore 6, 2)) (hp : (tv G a5).category = 1 := by rfl) (k : V G y cc nL ret dep bc bs (pc + 2) (a0 :: a1 :: a2 :: a3 :: a4 :: a5 :: .int x :: t) st μ Post) : V G y cc nL ret dep bc bs pc (a0 :: a1 :: a2 :: a3 :: a4 :: a5 :: b :: t) (.int x :: st) μ Post := V.sto (i := 6) (v := .int x) rfl (fun w hw _ => by cases hw; exact hp) (fun _ _ _ _ _ _ _ _ _ _ _ _ _ _ _ X hl kk => by
  have hi : 6 < nL := by have := hl.1; simp at this; omega
  exact lv_istore X.1 X.2.1 hdg hl.2 hi rfl kk) k
theorem v_lld6 {a0 a1 a2 a3 a4 a5 : Value} {t : List Value} {x : Int64} (hdg : decode cc pc = .ok (.lload 6, 2)) (k : V G y cc nL ret dep bc bs (pc + 2) (a0 :: a1 :: a2 :: a3 :: a4 :: a5 :: .long x :: t) (.long x :: st) μ Post) : V G y cc nL ret dep bc bs pc (a0 :: a1 :: a2 :: a3 :: a4 :: a5 :: .long x :: t) st μ Post := V.go (fun _ _ _ _ _ _ _ _ _ _ _ _ _ _ _ X hl kk => lv_lload X.1 X.2.1 hdg (hl.at (i := 6) (v := .long x) rfl rfl) kk) k
theorem v_lst6 {a0 a1 a2 a3 a4 a5 : Value} {b c : Value} {t : List Value} {x : Int64} (hdg : decode cc pc = .ok (.lstore 6, 2)) (hp : (tv G a5).category = 1 := by rfl) (k : V G y cc nL ret dep bc bs (pc + 2) (a0 :: a1 :: a2 :: a3 :: a4 :: a5 :: .long x :: UU :: t) st μ Post) : V G y cc nL ret dep bc bs pc (a0 :: a1 :: a2 :: a3 :: a4 :: a5 :: b :: c :: t) (.long x :: st) μ Post := V.st2 (i := 6) (v := .long x) (fun w hw _ => by cases hw; exact hp) (fun _ _ _ _ _ _ _ _ _ _ _ _ _ _ _ X hl kk => by
  have hi : 6 + 1 < nL := by have := hl.1; simp at this; omega
  exact lv_lstore X.1 X.2.1 hdg hl.2 hi rfl kk) k
theorem v_ald6 {a0 a1 a2 a3 a4 a5 : Value} {t : List Value} {x : Nat} (hdg : decode cc pc = .ok (.aload 6, 2)) (k : V G y cc nL ret dep bc bs (pc + 2) (a0 :: a1 :: a2 :: a3 :: a4 :: a5 :: .ref x :: t) (.ref x :: st) μ Post) : V G y cc nL ret dep bc bs pc (a0 :: a1 :: a2 :: a3 :: a4 :: a5 :: .ref x :: t) st μ Post := V.go (fun _ _ _ _ _ _ _ _ _ _ _ _ _ _ _ X hl kk => lv_aload X.1 X.2.1 hdg (hl.at (i := 6) (v := .ref x) rfl rfl) kk) k
theorem v_ast6 {a0 a1 a2 a3 a4 a5 : Value} {b : Value} {t : List Value} {x : Nat} (hdg : decode cc pc = .ok (.astore 6, 2)) (hp : (tv G a5).category = 1 := by rfl) (k : V G y cc nL ret dep bc bs (pc + 2) (a0 :: a1 :: a2 :: a3 :: a4 :: a5 :: .ref x :: t) st μ Post) : V G y cc nL ret dep bc bs pc (a0 :: a1 :: a2 :: a3 :: a4 :: a5 :: b :: t) (.ref x :: st) μ Post := V.sto (i := 6) (v := .ref x) rfl (fun w hw _ => by cases hw; exact hp) (fun _ _ _ _ _ _ _ _ _ _ _ _ _ _ _ X hl kk => by
  have hi : 6 < nL := by have := hl.1; simp at this; omega
  exact lv_astore X.1 X.2.1 hdg hl.2 hi rfl kk) k
theorem v_ald6N {a0 a1 a2 a3 a4 a5 : Value} {t : List Value} (hdg : decode cc pc = .ok (.aload 6, 2)) (k : V G y cc nL ret dep bc bs (pc + 2) (a0 :: a1 :: a2 :: a3 :: a4 :: a5 :: .null :: t) (.null :: st) μ Post) : V G y cc nL ret dep bc bs pc (a0 :: a1 :: a2 :: a3 :: a4 :: a5 :: .null :: t) st μ Post := V.go (fun _ _ _ _ _ _ _ _ _ _ _ _ _ _ _ X hl kk => lv_aloadN X.1 X.2.1 hdg (hl.at (i := 6) (v := .null) rfl rfl) kk) k
theorem v_ast6N {a0 a1 a2 a3 a4 a5 : Value} {b : Value} {t : List Value} (hdg : decode cc pc = .ok (.astore 6, 2)) (hp : (tv G a5).category = 1 := by rfl) (k : V G y cc nL ret dep bc bs (pc + 2) (a0 :: a1 :: a2 :: a3 :: a4 :: a5 :: .null :: t) st μ Post) : V G y cc nL ret dep bc bs pc (a0 :: a1 :: a2 :: a3 :: a4 :: a5 :: b :: t) (.null :: st) μ Post := V.sto (i := 6) (v := .null) rfl (fun w hw _ => by cases hw; exact hp) (fun _ _ _ _ _ _ _ _ _ _ _ _ _ _ _ X hl kk => by
  have hi : 6 < nL := by have := hl.1; simp at this; omega
  exact lv_astoreN X.1 X.2.1 hdg hl.2 hi rfl kk) k
theorem v_inc6 {a0 a1 a2 a3 a4 a5 : Value} {t : List Value} {x : Int32} (hdg : decode cc pc = .ok (.iinc 6 1, 3)) (hp : (tv G a5).category = 1 := by rfl) (k : V G y cc nL ret dep bc bs (pc + 3) (a0 :: a1 :: a2 :: a3 :: a4 :: a5 :: .int (x + 1) :: t) st μ Post) : V G y cc nL ret dep bc bs pc (a0 :: a1 :: a2 :: a3 :: a4 :: a5 :: .int x :: t) st μ Post := V.sto (i := 6) (v := .int (x + 1)) rfl (fun w hw _ => by cases hw; exact hp) (fun _ _ _ _ _ _ _ _ _ _ _ _ _ _ _ X hl kk => by
  have hi : 6 < nL := by have := hl.1; simp at this; omega
  obtain ⟨k0, hk0⟩ := List.getElem?_of_mem (prs_mem (G := G) (ls := a0 :: a1 :: a2 :: a3 :: a4 :: a5 :: .int x :: t) (i := 6) (v := .int x) rfl rfl)
  exact lv_iinc X.1 X.2.1 hdg hl.2 hk0 (by rw [show Int32.ofInt 1 = 1 by decide]) hi rfl kk) k
theorem v_incm6 {a0 a1 a2 a3 a4 a5 : Value} {t : List Value} {x : Int32} (hdg : decode cc pc = .ok (.iinc 6 (-1), 3)) (hp : (tv G a5).category = 1 := by rfl) (k : V G y cc nL ret dep bc bs (pc + 3) (a0 :: a1 :: a2 :: a3 :: a4 :: a5 :: .int (x + (-1)) :: t) st μ Post) : V G y cc nL ret dep bc bs pc (a0 :: a1 :: a2 :: a3 :: a4 :: a5 :: .int x :: t) st μ Post := V.sto (i := 6) (v := .int (x + (-1))) rfl (fun w hw _ => by cases hw; exact hp) (fun _ _ _ _ _ _ _ _ _ _ _ _ _ _ _ X hl kk => by
  have hi : 6 < nL := by have := hl.1; simp at this; omega
  obtain ⟨k0, hk0⟩ := List.getElem?_of_mem (prs_mem (G := G) (ls := a0 :: a1 :: a2 :: a3 :: a4 :: a5 :: .int x :: t) (i := 6) (v := .int x) rfl rfl)
  exact lv_iinc X.1 X.2.1 hdg hl.2 hk0 (by rw [show Int32.ofInt (-1) = (-1) by decide]) hi rfl kk) k
theorem v_ild7 {a0 a1 a2 a3 a4 a5 a6 : Value} {t : List Value} {x : Int32} (hdg : decode cc pc = .ok (.iload 7, 2)) (k : V G y cc nL ret dep bc bs (pc + 2) (a0 :: a1 :: a2 :: a3 :: a4 :: a5 :: a6 :: .int x :: t) (.int x :: st) μ Post) : V G y cc nL ret dep bc bs pc (a0 :: a1 :: a2 :: a3 :: a4 :: a5 :: a6 :: .int x :: t) st μ Post := V.go (fun _ _ _ _ _ _ _ _ _ _ _ _ _ _ _ X hl kk => lv_iload X.1 X.2.1 hdg (hl.at (i := 7) (v := .int x) rfl rfl) kk) k
theorem v_ist7 {a0 a1 a2 a3 a4 a5 a6 : Value} {b : Value} {t : List Value} {x : Int32} (hdg : decode cc pc = .ok (.istore 7, 2)) (hp : (tv G a6).category = 1 := by rfl) (k : V G y cc nL ret dep bc bs (pc + 2) (a0 :: a1 :: a2 :: a3 :: a4 :: a5 :: a6 :: .int x :: t) st μ Post) : V G y cc nL ret dep bc bs pc (a0 :: a1 :: a2 :: a3 :: a4 :: a5 :: a6 :: b :: t) (.int x :: st) μ Post := V.sto (i := 7) (v := .int x) rfl (fun w hw _ => by cases hw; exact hp) (fun _ _ _ _ _ _ _ _ _ _ _ _ _ _ _ X hl kk => by
  have hi : 7 < nL := by have := hl.1; simp at this; omega
  exact lv_istore X.1 X.2.1 hdg hl.2 hi rfl kk) k
theorem v_lld7 {a0 a1 a2 a3 a4 a5 a6 : Value} {t : List Value} {x : Int64} (hdg : decode cc pc = .ok (.lload 7, 2)) (k : V G y cc nL ret dep bc bs (pc + 2) (a0 :: a1 :: a2 :: a3 :: a4 :: a5 :: a6 :: .long x :: t) (.long x :: st) μ Post) : V G y cc nL ret dep bc bs pc (a0 :: a1 :: a2 :: a3 :: a4 :: a5 :: a6 :: .long x :: t) st μ Post := V.go (fun _ _ _ _ _ _ _ _ _ _ _ _ _ _ _ X hl kk => lv_lload X.1 X.2.1 hdg (hl.at (i := 7) (v := .long x) rfl rfl) kk) k
theorem v_lst7 {a0 a1 a2 a3 a4 a5 a6 : Value} {b c : Value} {t : List Value} {x : Int64} (hdg : decode cc pc = .ok (.lstore 7, 2)) (hp : (tv G a6).category = 1 := by rfl) (k : V G y cc nL ret dep bc bs (pc + 2) (a0 :: a1 :: a2 :: a3 :: a4 :: a5 :: a6 :: .long x :: UU :: t) st μ Post) : V G y cc nL ret dep bc bs pc (a0 :: a1 :: a2 :: a3 :: a4 :: a5 :: a6 :: b :: c :: t) (.long x :: st) μ Post := V.st2 (i := 7) (v := .long x) (fun w hw _ => by cases hw; exact hp) (fun _ _ _ _ _ _ _ _ _ _ _ _ _ _ _ X hl kk => by
  have hi : 7 + 1 < nL := by have := hl.1; simp at this; omega
  exact lv_lstore X.1 X.2.1 hdg hl.2 hi rfl kk) k
theorem v_ald7 {a0 a1 a2 a3 a4 a5 a6 : Value} {t : List Value} {x : Nat} (hdg : decode cc pc = .ok (.aload 7, 2)) (k : V G y cc nL ret dep bc bs (pc + 2) (a0 :: a1 :: a2 :: a3 :: a4 :: a5 :: a6 :: .ref x :: t) (.ref x :: st) μ Post) : V G y cc nL ret dep bc bs pc (a0 :: a1 :: a2 :: a3 :: a4 :: a5 :: a6 :: .ref x :: t) st μ Post := V.go (fun _ _ _ _ _ _ _ _ _ _ _ _ _ _ _ X hl kk => lv_aload X.1 X.2.1 hdg (hl.at (i := 7) (v := .ref x) rfl rfl) kk) k
theorem v_ast7 {a0 a1 a2 a3 a4 a5 a6 : Value} {b : Value} {t : List Value} {x : Nat} (hdg : decode cc pc = .ok (.astore 7, 2)) (hp : (tv G a6).category = 1 := by rfl) (k : V G y cc nL ret dep bc bs (pc + 2) (a0 :: a1 :: a2 :: a3 :: a4 :: a5 :: a6 :: .ref x :: t) st μ Post) : V G y cc nL ret dep bc bs pc (a0 :: a1 :: a2 :: a3 :: a4 :: a5 :: a6 :: b :: t) (.ref x :: st) μ Post := V.sto (i := 7) (v := .ref x) rfl (fun w hw _ => by cases hw; exact hp) (fun _ _ _ _ _ _ _ _ _ _ _ _ _ _ _ X hl kk => by
  have hi : 7 < nL := by have := hl.1; simp at this; omega
  exact lv_astore X.1 X.2.1 hdg hl.2 hi rfl kk) k
theorem v_ald7N {a0 a1 a2 a3 a4 a5 a6 : Value} {t : List Value} (hdg : decode cc pc = .ok (.aload 7, 2)) (k : V G y cc nL ret dep bc bs (pc + 2) (a0 :: a1 :: a2 :: a3 :: a4 :: a5 :: a6 :: .null :: t) (.null :: st) μ Post) : V G y cc nL ret dep bc bs pc (a0 :: a1 :: a2 :: a3 :: a4 :: a5 :: a6 :: .null :: t) st μ Post := V.go (fun _ _ _ _ _ _ _ _ _ _ _ _ _ _ _ X hl kk => lv_aloadN X.1 X.2.1 hdg (hl.at (i := 7) (v := .null) rfl rfl) kk) k
theorem v_ast7N {a0 a1 a2 a3 a4 a5 a6 : Value} {b : Value} {t : List Value} (hdg : decode cc pc = .ok (.astore 7, 2)) (hp : (tv G a6).category = 1 := by rfl) (k : V G y cc nL ret dep bc bs (pc + 2) (a0 :: a1 :: a2 :: a3 :: a4 :: a5 :: a6 :: .null :: t) st μ Post) : V G y cc nL ret dep bc bs pc (a0 :: a1 :: a2 :: a3 :: a4 :: a5 :: a6 :: b :: t) (.null :: st) μ Post := V.sto (i := 7) (v := .null) rfl (fun w hw _ => by cases hw; exact hp) (fun _ _ _ _ _ _ _ _ _ _ _ _ _ _ _ X hl kk => by
  have hi : 7 < nL := by have := hl.1; simp at this; omega
  exact lv_astoreN X.1 X.2.1 hdg hl.2 hi rfl kk) k
theorem v_inc7 {a0 a1 a2 a3 a4 a5 a6 : Value} {t : List Value} {x : Int32} (hdg : decode cc pc = .ok (.iinc 7 1, 3)) (hp : (tv G a6).category = 1 := by rfl) (k : V G y cc nL ret dep bc bs (pc + 3) (a0 :: a1 :: a2 :: a3 :: a4 :: a5 :: a6 :: .int (x + 1) :: t) st μ Post) : V G y cc nL ret dep bc bs pc (a0 :: a1 :: a2 :: a3 :: a4 :: a5 :: a6 :: .int x :: t) st μ Post := V.sto (i := 7) (v := .int (x + 1)) rfl (fun w hw _ => by cases hw; exact hp) (fun _ _ _ _ _ _ _ _ _ _ _ _ _ _ _ X hl kk => by
  have hi : 7 < nL := by have := hl.1; simp at this; omega
  obtain ⟨k0, hk0⟩ := List.getElem?_of_mem (prs_mem (G := G) (ls := a0 :: a1 :: a2 :: a3 :: a4 :: a5 :: a6 :: .int x :: t) (i := 7) (v := .int x) rfl rfl)
  exact lv_iinc X.1 X.2.1 hdg hl.2 hk0 (by rw [show Int32.ofInt 1 = 1 by decide]) hi rfl kk) k
theorem v_incm7 {a0 a1 a2 a3 a4 a5 a6 : Value} {t : List Value} {x : Int32} (hdg : decode cc pc = .ok (.iinc 7 (-1), 3)) (hp : (tv G a6).category = 1 := by rfl) (k : V G y cc nL ret dep bc bs (pc + 3) (a0 :: a1 :: a2 :: a3 :: a4 :: a5 :: a6 :: .int (x + (-1)) :: t) st μ Post) : V G y cc nL ret dep bc bs pc (a0 :: a1 :: a2 :: a3 :: a4 :: a5 :: a6 :: .int x :: t) st μ Post := V.sto (i := 7) (v := .int (x + (-1))) rfl (fun w hw _ => by cases hw; exact hp) (fun _ _ _ _ _ _ _ _ _ _ _ _ _ _ _ X hl kk => by
  have hi : 7 < nL := by have := hl.1; simp at this; omega
  obtain ⟨k0, hk0⟩ := List.getElem?_of_mem (prs_mem (G := G) (ls := a0 :: a1 :: a2 :: a3 :: a4 :: a5 :: a6 :: .int x :: t) (i := 7) (v := .int x) rfl rfl)
  exact lv_iinc X.1 X.2.1 hdg hl.2 hk0 (by rw [show Int32.ofInt (-1) = (-1) by decide]) hi rfl kk) k
theorem v_ild8 {a0 a1 a2 a3 a4 a5 a6 a7 : Value} {t : List Value} {x : Int32} (hdg : decode cc pc = .ok (.iload 8, 2)) (k : V G y cc nL ret dep bc bs (pc + 2) (a0 :: a1 :: a2 :: a3 :: a4 :: a5 :: a6 :: a7 :: .int x :: t) (.int x :: st) μ Post) : V G y cc nL ret dep bc bs pc (a0 :: a1 :: a2 :: a3 :: a4 :: a5 :: a6 :: a7 :: .int x :: t) st μ Post := V.go (fun _ _ _ _ _ _ _ _ _ _ _ _ _ _ _ X hl kk => lv_iload X.1 X.2.1 hdg (hl.at (i := 8) (v := .int x) rfl rfl) kk) k
theorem v_ist8 {a0 a1 a2 a3 a4 a5 a6 a7 : Value} {b : Value} {t : List Value} {x : Int32} (hdg : decode cc pc = .ok (.istore 8, 2)) (hp : (tv G a7).category = 1 := by rfl) (k : V G y cc nL ret dep bc bs (pc + 2) (a0 :: a1 :: a2 :: a3 :: a4 :: a5 :: a6 :: a7 :: .int x :: t) st μ Post) : V G y cc nL ret dep bc bs pc (a0 :: a1 :: a2 :: a3 :: a4 :: a5 :: a6 :: a7 :: b :: t) (.int x :: st) μ Post := V.sto (i := 8) (v := .int x) rfl (fun w hw _ => by cases hw; exact hp) (fun _ _ _ _ _ _ _ _ _ _ _ _ _ _ _ X hl kk => by
  have hi : 8 < nL := by have := hl.1; simp at this; omega
  exact lv_istore X.1 X.2.1 hdg hl.2 hi rfl kk) k
theorem v_lld8 {a0 a1 a2 a3 a4 a5 a6 a7 : Value} {t : List Value} {x : Int64} (hdg : decode cc pc = .ok (.lload 8, 2)) (k : V G y cc nL ret dep bc bs (pc + 2) (a0 :: a1 :: a2 :: a3 :: a4 :: a5 :: a6 :: a7 :: .long x :: t) (.long x :: st) μ Post) : V G y cc nL ret dep bc bs pc (a0 :: a1 :: a2 :: a3 :: a4 :: a5 :: a6 :: a7 :: .long x :: t) st μ Post := V.go (fun _ _ _ _ _ _ _ _ _ _ _ _ _ _ _ X hl kk => lv_lload X.1 X.2.1 hdg (hl.at (i := 8) (v := .long x) rfl rfl) kk) k
theorem v_lst8 {a0 a1 a2 a3 a4 a5 a6 a7 : Value} {b c : Value} {t : List Value} {x : Int64} (hdg : decode cc pc = .ok (.lstore 8, 2)) (hp : (tv G a7).category = 1 := by rfl) (k : V G y cc nL ret dep bc bs (pc + 2) (a0 :: a1 :: a2 :: a3 :: a4 :: a5 :: a6 :: a7 :: .long x :: UU :: t) st μ Post) : V G y cc nL ret dep bc bs pc (a0 :: a1 :: a2 :: a3 :: a4 :: a5 :: a6 :: a7 :: b :: c :: t) (.long x :: st) μ Post := V.st2 (i := 8) (v := .long x) (fun w hw _ => by cases hw; exact hp) (fun _ _ _ _ _ _ _ _ _ _ _ _ _ _ _ X hl kk => by
  have hi : 8 + 1 < nL := by have := hl.1; simp at this; omega
  exact lv_lstore X.1 X.2.1 hdg hl.2 hi rfl kk) k
theorem v_ald8 {a0 a1 a2 a3 a4 a5 a6 a7 : Value} {t : List Value} {x : Nat} (hdg : decode cc pc = .ok (.aload 8, 2)) (k : V G y cc nL ret dep bc bs (pc + 2) (a0 :: a1 :: a2 :: a3 :: a4 :: a5 :: a6 :: a7 :: .ref x :: t) (.ref x :: st) μ Post) : V G y cc nL ret dep bc bs pc (a0 :: a1 :: a2 :: a3 :: a4 :: a5 :: a6 :: a7 :: .ref x :: t) st μ Post := V.go (fun _ _ _ _ _ _ _ _ _ _ _ _ _ _ _ X hl kk => lv_aload X.1 X.2.1 hdg (hl.at (i := 8) (v := .ref x) rfl rfl) kk) k
theorem v_ast8 {a0 a1 a2 a3 a4 a5 a6 a7 : Value} {b : Value} {t : List Value} {x : Nat} (hdg : decode cc pc = .ok (.astore 8, 2)) (hp : (tv G a7).category = 1 := by rfl) (k : V G y cc nL ret dep bc bs (pc + 2) (a0 :: a1 :: a2 :: a3 :: a4 :: a5 :: a6 :: a7 :: .ref x :: t) st μ Post) : V G y cc nL ret dep bc bs pc (a0 :: a1 :: a2 :: a3 :: a4 :: a5 :: a6 :: a7 :: b :: t) (.ref x :: st) μ Post := V.sto (i := 8) (v := .ref x) rfl (fun w hw _ => by cases hw; exact hp) (fun _ _ _ _ _ _ _ _ _ _ _ _ _ _ _ X hl kk => by
  have hi : 8 < nL := by have := hl.1; simp at this; omega
  exact lv_astore X.1 X.2.1 hdg hl.2 hi rfl kk) k
theorem v_ald8N {a0 a1 a2 a3 a4 a5 a6 a7 : Value} {t : List Value} (hdg : decode cc pc = .ok (.aload 8, 2)) (k : V G y cc nL ret dep bc bs (pc + 2) (a0 :: a1 :: a2 :: a3 :: a4 :: a5 :: a6 :: a7 :: .null :: t) (.null :: st) μ Post) : V G y cc nL ret dep bc bs pc (a0 :: a1 :: a2 :: a3 :: a4 :: a5 :: a6 :: a7 :: .null :: t) st μ Post := V.go (fun _ _ _ _ _ _ _ _ _ _ _ _ _ _ _ X hl kk => lv_aloadN X.1 X.2.1 hdg (hl.at (i := 8) (v := .null) rfl rfl) kk) k
theorem v_ast8N {a0 a1 a2 a3 a4 a5 a6 a7 : Value} {b : Value} {t : List Value} (hdg : decode cc pc = .ok (.astore 8, 2)) (hp : (tv G a7).category = 1 := by rfl) (k : V G y cc nL ret dep bc bs (pc + 2) (a0 :: a1 :: a2 :: a3 :: a4 :: a5 :: a6 :: a7 :: .null :: t) st μ Post) : V G y cc nL ret dep bc bs pc (a0 :: a1 :: a2 :: a3 :: a4 :: a5 :: a6 :: a7 :: b :: t) (.null :: st) μ Post := V.sto (i := 8) (v := .null) rfl (fun w hw _ => by cases hw; exact hp) (fun _ _ _ _ _ _ _ _ _ _ _ _ _ _ _ X hl kk => by
  have hi : 8 < nL := by have := hl.1; simp at this; omega
  exact lv_astoreN X.1 X.2.1 hdg hl.2 hi rfl kk) k
theorem v_inc8 {a0 a1 a2 a3 a4 a5 a6 a7 : Value} {t : List Value} {x : Int32} (hdg : decode cc pc = .ok (.iinc 8 1, 3)) (hp : (tv G a7).category = 1 := by rfl) (k : V G y cc nL ret dep bc bs (pc + 3) (a0 :: a1 :: a2 :: a3 :: a4 :: a5 :: a6 :: a7 :: .int (x + 1) :: t) st μ Post) : V G y cc nL ret dep bc bs pc (a0 :: a1 :: a2 :: a3 :: a4 :: a5 :: a6 :: a7 :: .int x :: t) st μ Post := V.sto (i := 8) (v := .int (x + 1)) rfl (fun w hw _ => by cases hw; exact hp) (fun _ _ _ _ _ _ _ _ _ _ _ _ _ _ _ X hl kk => by
  have hi : 8 < nL := by have := hl.1; simp at this; omega
  obtain ⟨k0, hk0⟩ := List.getElem?_of_mem (prs_mem (G := G) (ls := a0 :: a1 :: a2 :: a3 :: a4 :: a5 :: a6 :: a7 :: .int x :: t) (i := 8) (v := .int x) rfl rfl)
  exact lv_iinc X.1 X.2.1 hdg hl.2 hk0 (by rw [show Int32.ofInt 1 = 1 by decide]) hi rfl kk) k
theorem v_incm8 {a0 a1 a2 a3 a4 a5 a6 a7 : Value} {t : List Value} {x : Int32} (hdg : decode cc pc = .ok (.iinc 8 (-1), 3)) (hp : (tv G a7).category = 1 := by rfl) (k : V G y cc nL ret dep bc bs (pc + 3) (a0 :: a1 :: a2 :: a3 :: a4 :: a5 :: a6 :: a7 :: .int (x + (-1)) :: t) st μ Post) : V G y cc nL ret dep bc bs pc (a0 :: a1 :: a2 :: a3 :: a4 :: a5 :: a6 :: a7 :: .int x :: t) st μ Post := V.sto (i := 8) (v := .int (x + (-1))) rfl (fun w hw _ => by cases hw; exact hp) (fun _ _ _ _ _ _ _ _ _ _ _ _ _ _ _ X hl kk => by
  have hi : 8 < nL := by have := hl.1; simp at this; omega
  obtain ⟨k0, hk0⟩ := List.getElem?_of_mem (prs_mem (G := G) (ls := a0 :: a1 :: a2 :: a3 :: a4 :: a5 :: a6 :: a7 :: .int x :: t) (i := 8) (v := .int x) rfl rfl)
  exact lv_iinc X.1 X.2.1 hdg hl.2 hk0 (by rw [show Int32.ofInt (-1) = (-1) by decide]) hi rfl kk) k
theorem v_ild9 {a0 a1 a2 a3 a4 a5 a6 a7 a8 : Value} {t : List Value} {x : Int32} (hdg : decode cc pc = .ok (.iload 9, 2)) (k : V G y cc nL ret dep bc bs (pc + 2) (a0 :: a1 :: a2 :: a3 :: a4 :: a5 :: a6 :: a7 :: a8 :: .int x :: t) (.int x :: st) μ Post) : V G y cc nL ret dep bc bs pc (a0 :: a1 :: a2 :: a3 :: a4 :: a5 :: a6 :: a7 :: a8 :: .int x :: t) st μ Post := V.go (fun _ _ _ _ _ _ _ _ _ _ _ _ _ _ _ X hl kk => lv_iload X.1 X.2.1 hdg (hl.at (i := 9) (v := .int x) rfl rfl) kk) k
theorem v_ist9 {a0 a1 a2 a3 a4 a5 a6 a7 a8 : Value} {b : Value} {t : List Value} {x : Int32} (hdg : decode cc pc = .ok (.istore 9, 2)) (hp : (tv G a8).category = 1 := by rfl) (k : V G y cc nL ret dep bc bs (pc + 2) (a0 :: a1 :: a2 :: a3 :: a4 :: a5 :: a6 :: a7 :: a8 :: .int x :: t) st μ Post) : V G y cc nL ret dep bc bs pc (a0 :: a1 :: a2 :: a3 :: a4 :: a5 :: a6 :: a7 :: a8 :: b :: t) (.int x :: st) μ Post := V.sto (i := 9) (v := .int x) rfl (fun w hw _ => by cases hw; exact hp) (fun _ _ _ _ _ _ _ _ _ _ _ _ _ _ _ X hl kk => by
  have hi : 9 < nL := by have := hl.1; simp at this; omega
  exact lv_istore X.1 X.2.1 hdg hl.2 hi rfl kk) k
theorem v_lld9 {a0 a1 a2 a3 a4 a5 a6 a7 a8 : Value} {t : List Value} {x : Int64} (hdg : decode cc pc = .ok (.lload 9, 2)) (k : V G y cc nL ret dep bc bs (pc + 2) (a0 :: a1 :: a2 :: a3 :: a4 :: a5 :: a6 :: a7 :: a8 :: .long x :: t) (.long x :: st) μ Post) : V G y cc nL ret dep bc bs pc (a0 :: a1 :: a2 :: a3 :: a4 :: a5 :: a6 :: a7 :: a8 :: .long x :: t) st μ Post := V.go (fun _ _ _ _ _ _ _ _ _ _ _ _ _ _ _ X hl kk => lv_lload X.1 X.2.1 hdg (hl.at (i := 9) (v := .long x) rfl rfl) kk) k
theorem v_lst9 {a0 a1 a2 a3 a4 a5 a6 a7 a8 : Value} {b c : Value} {t : List Value} {x : Int64} (hdg : decode cc pc = .ok (.lstore 9, 2)) (hp : (tv G a8).category = 1 := by rfl) (k : V G y cc nL ret dep bc bs (pc + 2) (a0 :: a1 :: a2 :: a3 :: a4 :: a5 :: a6 :: a7 :: a8 :: .long x :: UU :: t) st μ Post) : V G y cc nL ret dep bc bs pc (a0 :: a1 :: a2 :: a3 :: a4 :: a5 :: a6 :: a7 :: a8 :: b :: c :: t) (.long x :: st) μ Post := V.st2 (i := 9) (v := .long x) (fun w hw _ => by cases hw; exact hp) (fun _ _ _ _ _ _ _ _ _ _ _ _ _ _ _ X hl kk => by
  have hi : 9 + 1 < nL := by have := hl.1; simp at this; omega
  exact lv_lstore X.1 X.2.1 hdg hl.2 hi rfl kk) k
theorem v_ald9 {a0 a1 a2 a3 a4 a5 a6 a7 a8 : Value} {t : List Value} {x : Nat} (hdg : decode cc pc = .ok (.aload 9, 2)) (k : V G y cc nL ret dep bc bs (pc + 2) (a0 :: a1 :: a2 :: a3 :: a4 :: a5 :: a6 :: a7 :: a8 :: .ref x :: t) (.ref x :: st) μ Post) : V G y cc nL ret dep bc bs pc (a0 :: a1 :: a2 :: a3 :: a4 :: a5 :: a6 :: a7 :: a8 :: .ref x :: t) st μ Post := V.go (fun _ _ _ _ _ _ _ _ _ _ _ _ _ _ _ X hl kk => lv_aload X.1 X.2.1 hdg (hl.at (i := 9) (v := .ref x) rfl rfl) kk) k
theorem v_ast9 {a0 a1 a2 a3 a4 a5 a6 a7 a8 : Value} {b : Value} {t : List Value} {x : Nat} (hdg : decode cc pc = .ok (.astore 9, 2)) (hp : (tv G a8).category = 1 := by rfl) (k : V G y cc nL ret dep bc bs (pc + 2) (a0 :: a1 :: a2 :: a3 :: a4 :: a5 :: a6 :: a7 :: a8 :: .ref x :: t) st μ Post) : V G y cc nL ret dep bc bs pc (a0 :: a1 :: a2 :: a3 :: a4 :: a5 :: a6 :: a7 :: a8 :: b :: t) (.ref x :: st) μ Post := V.sto (i := 9) (v := .ref x) rfl (fun w hw _ => by cases hw; exact hp) (fun _ _ _ _ _ _ _ _ _ _ _ _ _ _ _ X hl kk => by
  have hi : 9 < nL := by have := hl.1; simp at this; omega
  exact lv_astore X.1 X.2.1 hdg hl.2 hi rfl kk) k
theorem v_ald9N {a0 a1 a2 a3 a4 a5 a6 a7 a8 : Value} {t : List Value} (hdg : decode cc pc = .ok (.aload 9, 2)) (k : V G y cc nL ret dep bc bs (pc + 2) (a0 :: a1 :: a2 :: a3 :: a4 :: a5 :: a6 :: a7 :: a8 :: .null :: t) (.null :: st) μ Post) : V G y cc nL ret dep bc bs pc (a0 :: a1 :: a2 :: a3 :: a4 :: a5 :: a6 :: a7 :: a8 :: .null :: t) st μ Post := V.go (fun _ _ _ _ _ _ _ _ _ _ _ _ _ _ _ X hl kk => lv_aloadN X.1 X.2.1 hdg (hl.at (i := 9) (v := .null) rfl rfl) kk) k
theorem v_ast9N {a0 a1 a2 a3 a4 a5 a6 a7 a8 : Value} {b : Value} {t : List Value} (hdg : decode cc pc = .ok (.astore 9, 2)) (hp : (tv G a8).category = 1 := by rfl) (k : V G y cc nL ret dep bc bs (pc + 2) (a0 :: a1 :: a2 :: a3 :: a4 :: a5 :: a6 :: a7 :: a8 :: .null :: t) st μ Post) : V G y cc nL ret dep bc bs pc (a0 :: a1 :: a2 :: a3 :: a4 :: a5 :: a6 :: a7 :: a8 :: b :: t) (.null :: st) μ Post := V.sto (i := 9) (v := .null) rfl (fun w hw _ => by cases hw; exact hp) (fun _ _ _ _ _ _ _ _ _ _ _ _ _ _ _ X hl kk => by
  have hi : 9 < nL := by have := hl.1; simp at this; omega
  exact lv_astoreN X.1 X.2.1 hdg hl.2 hi rfl kk) k
theorem v_inc9 {a0 a1 a2 a3 a4 a5 a6 a7 a8 : Value} {t : List Value} {x : Int32} (hdg : decode cc pc = .ok (.iinc 9 1, 3)) (hp : (tv G a8).category = 1 := by rfl) (k : V G y cc nL ret dep bc bs (pc + 3) (a0 :: a1 :: a2 :: a3 :: a4 :: a5 :: a6 :: a7 :: a8 :: .int (x + 1) :: t) st μ Post) : V G y cc nL ret dep bc bs pc (a0 :: a1 :: a2 :: a3 :: a4 :: a5 :: a6 :: a7 :: a8 :: .int x :: t) st μ Post := V.sto (i := 9) (v := .int (x + 1)) rfl (fun w hw _ => by cases hw; exact hp) (fun _ _ _ _ _ _ _ _ _ _ _ _ _ _ _ X hl kk => by
  have hi : 9 < nL := by have := hl.1; simp at this; omega
  obtain ⟨k0, hk0⟩ := List.getElem?_of_mem (prs_mem (G := G) (ls := a0 :: a1 :: a2 :: a3 :: a4 :: a5 :: a6 :: a7 :: a8 :: .int x :: t) (i := 9) (v := .int x) rfl rfl)
  exact lv_iinc X.1 X.2.1 hdg hl.2 hk0 (by rw [show Int32.ofInt 1 = 1 by decide]) hi rfl kk) k
theorem v_incm9 {a0 a1 a2 a3 a4 a5 a6 a7 a8 : Value} {t : List Value} {x : Int32} (hdg : decode cc pc = .ok (.iinc 9 (-1), 3)) (hp : (tv G a8).category = 1 := by rfl) (k : V G y cc nL ret dep bc bs (pc + 3) (a0 :: a1 :: a2 :: a3 :: a4 :: a5 :: a6 :: a7 :: a8 :: .int (x + (-1)) :: t) st μ Post) : V G y cc nL ret dep bc bs pc (a0 :: a1 :: a2 :: a3 :: a4 :: a5 :: a6 :: a7 :: a8 :: .int x :: t) st μ Post := V.sto (i := 9) (v := .int (x + (-1))) rfl (fun w hw _ => by cases hw; exact hp) (fun _ _ _ _ _ _ _ _ _ _ _ _ _ _ _ X hl kk => by
  have hi : 9 < nL := by have := hl.1; simp at this; omega
  obtain ⟨k0, hk0⟩ := List.getElem?_of_mem (prs_mem (G := G) (ls := a0 :: a1 :: a2 :: a3 :: a4 :: a5 :: a6 :: a7 :: a8 :: .int x :: t) (i := 9) (v := .int x) rfl rfl)
  exact lv_iinc X.1 X.2.1 hdg hl.2 hk0 (by rw [show Int32.ofInt (-1) = (-1) by decide]) hi rfl kk) k
end VS
end
section
/-! ===== memory: fields, arrays, new ===== -/
theorem iX0 : ∀ w ∈ u_ws RX0 TX0 4, w ∈ lw0 := by decide +kernel
theorem iX1 : ∀ w ∈ u_ws RX1 TX1 14, w ∈ lw0 := by decide +kernel
theorem iX2 : ∀ w ∈ u_ws RX2 TX2 2, w ∈ lw0 := by decide +kernel
theorem iX3 : ∀ w ∈ u_ws RX3 TX3 4, w ∈ lw0 := by decide +kernel
theorem iX4 : ∀ w ∈ u_ws RX4 TX4 4, w ∈ lw0 := by decide +kernel
theorem iX5 : ∀ w ∈ u_ws RX5 TX5 4, w ∈ lw0 := by decide +kernel
theorem iX6 : ∀ w ∈ u_ws RX6 TX6 6, w ∈ lw0 := by decide +kernel
theorem iX7 : ∀ w ∈ u_ws RX7 TX7 10, w ∈ lw0 := by decide +kernel
theorem iX8 : ∀ w ∈ u_ws RX8 TX8 10, w ∈ lw0 := by decide +kernel
theorem iX9 : ∀ w ∈ u_ws RX9 TX9 46, w ∈ lw0 := by decide +kernel
theorem kls_ok : ∀ (ci : Nat) (C : String) (T : u_T) (N : Nat), kls[ci]? = some (C, T, N) → (∀ w ∈ u_ws C T N, w ∈ lw0) ∧ (∃ ty0 : Nat → FieldType, ∀ k, k < N → parseFieldDescriptor (T k).2.2.1 = some (ty0 k)) ∧ ∀ a, a < N → ∀ b, b < N → a ≠ b → (T a).2.1 ≠ (T b).2.1
  | 0, _, _, _, h => by cases h; exact ⟨iX0, ⟨tyX0, tyX0_ok⟩, nmX0⟩
  | 1, _, _, _, h => by cases h; exact ⟨iX1, ⟨tyX1, tyX1_ok⟩, nmX1⟩
  | 2, _, _, _, h => by cases h; exact ⟨iX2, ⟨tyX2, tyX2_ok⟩, nmX2⟩
  | 3, _, _, _, h => by cases h; exact ⟨iX3, ⟨tyX3, tyX3_ok⟩, nmX3⟩
  | 4, _, _, _, h => by cases h; exact ⟨iX4, ⟨tyX4, tyX4_ok⟩, nmX4⟩
  | 5, _, _, _, h => by cases h; exact ⟨iX5, ⟨tyX5, tyX5_ok⟩, nmX5⟩
  | 6, _, _, _, h => by cases h; exact ⟨iX6, ⟨tyX6, tyX6_ok⟩, nmX6⟩
  | 7, _, _, _, h => by cases h; exact ⟨iX7, ⟨tyX7, tyX7_ok⟩, nmX7⟩
  | 8, _, _, _, h => by cases h; exact ⟨iX8, ⟨tyX8, tyX8_ok⟩, nmX8⟩
  | 9, _, _, _, h => by cases h; exact ⟨iX9, ⟨tyX9, tyX9_ok⟩, nmX9⟩
  | n + 10, _, _, _, h => by simp [kls] at h
/-- a field by its link: the class's number, how many fields it has, the field's number -/
def LkF (own : String) (idx ci N f : Nat) : Prop := ∃ (C : String) (T : u_T), kls[ci]? = some (C, T, N) ∧ f < N ∧ ci < 10 ∧ Cond.fieldLink own idx (T f).1 (T f).2.1 (T f).2.2.1 ∈ lw0
section VM
variable {G : GG} {y : MethodName} {cc : ByteArray} {nL : Nat} {ret : Option FieldType} {dep bc bs pc : Nat} {ls st : List Value} {Post : Option Value → Mem → Prop}
variable {n : Nat} {I : Nat → Nat → Int32} {L : Nat → Nat → Int64} {P : Nat → Nat → Option Nat}
theorem V.get {μ : Mem} {idx ci N f a : Nat} {v : Value} (hdg : decode cc pc = .ok (.getfield idx, 3)) (lk : LkF y.cls idx ci N f) (ha : lay a = (ci, N)) (hn : a < μ.1) (hv : sv G μ a f = tv G v) (k : V G y cc nL ret dep bc bs (pc + 3) ls (v :: st) μ Post) : V G y cc nL ret dep bc bs pc ls (.ref a :: st) μ Post := by
  intro p e R s m args below meth c H locs cells slots Q lr X hl hR hS hd hc hend
  obtain ⟨hx, hb, hml, hown, hts, hin, hK⟩ := id X
  obtain ⟨C, T, hcl, hf, hci, hlk⟩ := lk
  obtain ⟨hin', -, -⟩ := kls_ok ci C T N hcl
  have hob := (hR.2 a hn).2 (by rw [ha]; exact hci)
  rw [ha] at hob
  obtain ⟨cell, q1, q2, q3, q4⟩ := hob
  obtain ⟨hSl, hfc, kC, hkC, hkind⟩ := hK.1.1 ci _ hcl
  obtain ⟨cf, kf, fi, fd, hi, hsl⟩ := hSl f hf
  refine W.getf (v := tv G v) hx hb hown (hts _ hlk) hi (u_facts hfc hkC (u_lays hts hin' hf) hi).1 q1 (by rw [q3]; exact fun h => by cases h) ?_ rfl rfl hdg (k p e R s m args below meth c H locs cells slots Q lr X hl hR hS hd hc hend)
  rw [hsl, q4 f hf, hv]
theorem v_getI {idx ci N f a : Nat} (hdg : decode cc pc = .ok (.getfield idx, 3)) (lk : LkF y.cls idx ci N f) (ha : lay a = (ci, N)) (hk : kdT ci f = 0) (hn : a < n) (k : V G y cc nL ret dep bc bs (pc + 3) ls (.int (I a f) :: st) (n, I, L, P) Post) : V G y cc nL ret dep bc bs pc ls (.ref a :: st) (n, I, L, P) Post :=
  V.get hdg lk ha hn (sv_I (by rw [kd, ha]; exact hk)) k
theorem v_getP {idx ci N f a q : Nat} (hdg : decode cc pc = .ok (.getfield idx, 3)) (lk : LkF y.cls idx ci N f) (ha : lay a = (ci, N)) (hk : kdT ci f = 2) (hn : a < n) (hp : P a f = some q) (k : V G y cc nL ret dep bc bs (pc + 3) ls (.ref q :: st) (n, I, L, P) Post) : V G y cc nL ret dep bc bs pc ls (.ref a :: st) (n, I, L, P) Post :=
  V.get hdg lk ha hn (sv_P (by rw [kd, ha]; exact hk) hp) k
/-- a field is written: not final -/
theorem V.put {μ μ' : Mem} {idx ci N f a : Nat} {v : Value} (hdg : decode cc pc = .ok (.putfield idx, 3)) (lk : LkF y.cls idx ci N f) (hty : ∀ (C : String) (T : u_T), kls[ci]? = some (C, T, N) → (T f).2.2.2 = false ∧ ∃ ty, parseFieldDescriptor (T f).2.2.1 = some ty ∧ narrow ty (tv G v) = tv G v ∧ fits ty (tv G v) = true) (ha : lay a = (ci, N)) (hn : a < μ.1) (hn' : μ'.1 = μ.1) (hv : ∀ x y, sv G μ' x y = if x = a ∧ y = f then tv G v else sv G μ x y) (k : V G y cc nL ret dep bc bs (pc + 3) ls st μ' Post) : V G y cc nL ret dep bc bs pc ls (v :: .ref a :: st) μ Post := by
  intro p e R s m args below meth c H locs cells slots Q lr X hl hR hS hd hc hend
  obtain ⟨hx, hb, hml, hown, hts, hin, hK⟩ := id X
  obtain ⟨C, T, hcl, hf, hci, hlk⟩ := lk
  obtain ⟨hin', ⟨ty0, hty0⟩, hnm⟩ := kls_ok ci C T N hcl
  obtain ⟨hfin, ty, hpd, hnar, hfit⟩ := hty C T hcl
  have hci' : (lay a).1 < 10 := by rw [ha]; exact hci
  have hob := (hR.2 a hn).2 hci'
  rw [ha] at hob
  obtain ⟨cell, q1, q2, q3, q4⟩ := hob
  have hap := va_apart (own := y.cls) hts hin' ty0 hty0 hnm hK.1 hcl
  obtain ⟨hSl, hfc, kC, hkC, hkind⟩ := hK.1.1 ci _ hcl
  obtain ⟨cf, kf, fi, fd, hi, hsl⟩ := hSl f hf
  have hlay := hts _ (hin' _ (u_in_lay hf))
  unfold u_lay at hlay
  rw [if_neg (by rw [hfin]; decide)] at hlay
  have hst := (u_facts hfc hkC (u_lays hts hin' hf) hi).1
  have h6 := u_store hfc hkC hkind hlay hi hpd hnar hfit
  refine W.putK hx hb (f := fd) ⟨hown, hts _ hlk, ⟨_, _, _, hi⟩, hst⟩ (by rw [q2]; exact h6) q1 q3 (by rw [hsl]; exact k2_hasslot (q4 f hf)) rfl rfl hdg fun H' e1 e2 e3 => ?_
  rw [hsl] at e1 ⊢
  refine k p e R s m args below meth c H' _ cells slots Q lr X hl (hR.obj hn hci' ?_ e2 e3 hn' hv) (hS.put e2 e3 (Nat.le_add_right _ _)) hd hc hend
  rw [ha]
  exact ⟨_, e1, q2, q3, t_set q4 hap hf (tv G v)⟩
/-- a final field is written in a constructor -/
theorem V.putF {μ μ' : Mem} {idx ci N f a : Nat} {v : Value} (hdg : decode cc pc = .ok (.putfield idx, 3)) (lk : LkF y.cls idx ci N f) (hy : y.name = "<init>") (hty : ∀ (C : String) (T : u_T), kls[ci]? = some (C, T, N) → (T f).2.2.2 = true ∧ (T f).1 = y.cls ∧ ∃ ty, parseFieldDescriptor (T f).2.2.1 = some ty ∧ narrow ty (tv G v) = tv G v ∧ fits ty (tv G v) = true) (ha : lay a = (ci, N)) (hn : a < μ.1) (hn' : μ'.1 = μ.1) (hv : ∀ x y, sv G μ' x y = if x = a ∧ y = f then tv G v else sv G μ x y) (k : V G y cc nL ret dep bc bs (pc + 3) ls st μ' Post) : V G y cc nL ret dep bc bs pc ls (v :: .ref a :: st) μ Post := by
  intro p e R s m args below meth c H locs cells slots Q lr X hl hR hS hd hc hend
  obtain ⟨hx, hb, hml, hown, hts, hin, hK⟩ := id X
  obtain ⟨C, T, hcl, hf, hci, hlk⟩ := lk
  obtain ⟨hin', ⟨ty0, hty0⟩, hnm⟩ := kls_ok ci C T N hcl
  obtain ⟨hfin, hdecl, ty, hpd, hnar, hfit⟩ := hty C T hcl
  have hci' : (lay a).1 < 10 := by rw [ha]; exact hci
  have hob := (hR.2 a hn).2 hci'
  rw [ha] at hob
  obtain ⟨cell, q1, q2, q3, q4⟩ := hob
  have hap := va_apart (own := y.cls) hts hin' ty0 hty0 hnm hK.1 hcl
  obtain ⟨hSl, hfc, kC, hkC, hkind⟩ := hK.1.1 ci _ hcl
  obtain ⟨cf, kf, fi, fd, hi, hsl⟩ := hSl f hf
  have hlay := hts _ (hin' _ (u_in_lay hf))
  unfold u_lay at hlay
  rw [if_pos hfin] at hlay
  have hst := (u_facts hfc hkC (u_lays hts hin' hf) hi).1
  have hcf : m.cls = cf := by
    obtain ⟨_, _, c', _, _, _, -, -, hf', -, -, -, hown2, -⟩ := Cond.laysFinal_spec hlay
    have e1 : c' = cf := by have := hi.symm.trans hf'; simp at this; exact this.1.symm
    rw [hdecl] at hown2
    rw [← e1]; exact Option.some.inj (hown.symm.trans hown2)
  have h6 := u_fits hfc hkC hkind (Or.inr hlay) hi hpd hnar hfit
  refine W.putFinK hx hb hown (hts _ hlk) hi hst hcf (by rw [hin, hy]) (by rw [q2]; exact h6) q1 q3 (by rw [hsl]; exact k2_hasslot (q4 f hf)) rfl rfl hdg fun H' e1 e2 e3 => ?_
  rw [hsl] at e1 ⊢
  refine k p e R s m args below meth c H' _ cells slots Q lr X hl (hR.obj hn hci' ?_ e2 e3 hn' hv) (hS.put e2 e3 (Nat.le_add_right _ _)) hd hc hend
  rw [ha]
  exact ⟨_, e1, q2, q3, t_set q4 hap hf (tv G v)⟩
/-- what a written field is: 0 an int, 1 a boolean, 2 a final int, 3 a final reference -/
def FtI (ci N f : Nat) : Prop := ∀ (C : String) (T : u_T), kls[ci]? = some (C, T, N) → (T f).2.2.2 = false ∧ parseFieldDescriptor (T f).2.2.1 = some .int
def FtZ (ci N f : Nat) : Prop := ∀ (C : String) (T : u_T), kls[ci]? = some (C, T, N) → (T f).2.2.2 = false ∧ parseFieldDescriptor (T f).2.2.1 = some .boolean
def FtF (own : String) (ci N f : Nat) : Prop := ∀ (C : String) (T : u_T), kls[ci]? = some (C, T, N) → (T f).2.2.2 = true ∧ (T f).1 = own ∧ parseFieldDescriptor (T f).2.2.1 = some .int
def FtP (own : String) (ci N f : Nat) : Prop := ∀ (C : String) (T : u_T), kls[ci]? = some (C, T, N) → (T f).2.2.2 = true ∧ (T f).1 = own ∧ ((∃ c, parseFieldDescriptor (T f).2.2.1 = some (.object c)) ∨ ∃ t, parseFieldDescriptor (T f).2.2.1 = some (.array t))
theorem v_putI {idx ci N f a : Nat} {x : Int32} (hdg : decode cc pc = .ok (.putfield idx, 3)) (lk : LkF y.cls idx ci N f) (hty : FtI ci N f) (ha : lay a = (ci, N)) (hk : kdT ci f = 0) (hn : a < n) (k : V G y cc nL ret dep bc bs (pc + 3) ls st (n, u2 I a f x, L, P) Post) : V G y cc nL ret dep bc bs pc ls (.int x :: .ref a :: st) (n, I, L, P) Post :=
  V.put (μ' := (n, u2 I a f x, L, P)) hdg lk (fun C T h => ⟨(hty C T h).1, .int, (hty C T h).2, rfl, rfl⟩) ha hn rfl (sv_uI (by rw [kd, ha]; exact hk)) k
theorem v_putZ {idx ci N f a : Nat} {x : Int32} (hdg : decode cc pc = .ok (.putfield idx, 3)) (lk : LkF y.cls idx ci N f) (hty : FtZ ci N f) (ha : lay a = (ci, N)) (hk : kdT ci f = 0) (hn : a < n) (hx : x = 0 ∨ x = 1) (k : V G y cc nL ret dep bc bs (pc + 3) ls st (n, u2 I a f x, L, P) Post) : V G y cc nL ret dep bc bs pc ls (.int x :: .ref a :: st) (n, I, L, P) Post :=
  V.put (μ' := (n, u2 I a f x, L, P)) hdg lk (fun C T h => ⟨(hty C T h).1, .boolean, (hty C T h).2, show narrow .boolean (.int x) = .int x by rcases hx with rfl | rfl <;> decide, show fits .boolean (.int x) = true by rcases hx with rfl | rfl <;> decide⟩) ha hn rfl (sv_uI (by rw [kd, ha]; exact hk)) k
theorem v_putF {idx ci N f a : Nat} {x : Int32} (hdg : decode cc pc = .ok (.putfield idx, 3)) (lk : LkF y.cls idx ci N f) (hy : y.name = "<init>") (hty : FtF y.cls ci N f) (ha : lay a = (ci, N)) (hk : kdT ci f = 0) (hn : a < n) (k : V G y cc nL ret dep bc bs (pc + 3) ls st (n, u2 I a f x, L, P) Post) : V G y cc nL ret dep bc bs pc ls (.int x :: .ref a :: st) (n, I, L, P) Post :=
  V.putF (μ' := (n, u2 I a f x, L, P)) hdg lk hy (fun C T h => ⟨(hty C T h).1, (hty C T h).2.1, .int, (hty C T h).2.2, rfl, rfl⟩) ha hn rfl (sv_uI (by rw [kd, ha]; exact hk)) k
theorem v_putP {idx ci N f a q : Nat} (hdg : decode cc pc = .ok (.putfield idx, 3)) (lk : LkF y.cls idx ci N f) (hy : y.name = "<init>") (hty : FtP y.cls ci N f) (ha : lay a = (ci, N)) (hk : kdT ci f = 2) (hn : a < n) (k : V G y cc nL ret dep bc bs (pc + 3) ls st (n, I, L, u2 P a f (some q)) Post) : V G y cc nL ret dep bc bs pc ls (.ref q :: .ref a :: st) (n, I, L, P) Post :=
  V.putF (μ' := (n, I, L, u2 P a f (some q))) hdg lk hy (fun C T h => ⟨(hty C T h).1, (hty C T h).2.1, by
    rcases (hty C T h).2.2 with ⟨c, hc⟩ | ⟨t, ht⟩
    · exact ⟨_, hc, rfl, rfl⟩
    · exact ⟨_, ht, rfl, rfl⟩⟩) ha hn rfl (sv_uP (v := some q) (by rw [kd, ha]; exact hk)) k
/-! arrays -/
/-- an index: the int, the length, the place -/
def ix (i : Int32) (N j : Nat) : Prop := i = nI j ∧ j < N ∧ N < 2 ^ 31
theorem ix_in {i : Int32} {N j : Nat} (h : ix i N j) : ¬ (i < 0 ∨ N ≤ i.toNatClampNeg) ∧ i.toNatClampNeg = j := by
  obtain ⟨rfl, h1, h2⟩ := h
  exact ⟨nI_in h1 h2, nI_clamp (by omega)⟩
theorem ix_arr {i : Int32} {N j : Nat} {cA : ClassId} {f : Nat → Value} (h : ix i N j) : ¬ (i < 0 ∨ (arrV cA N f).slots.size ≤ i.toNatClampNeg) ∧ (arrV cA N f).slots[i.toNatClampNeg]? = some (f j) := by
  obtain ⟨h1, h2⟩ := ix_in h
  refine ⟨by rw [arrV_size]; exact h1, ?_⟩
  rw [h2, arrV_read _ _ h.2.1]
theorem v_iald {i : Int32} {a N j : Nat} (hdg : decode cc pc = .ok (.iaload, 1)) (ha : lay a = (10, N)) (hn : a < n) (hi : ix i N j) (k : V G y cc nL ret dep bc bs (pc + 1) ls (.int (I a j) :: st) (n, I, L, P) Post) : V G y cc nL ret dep bc bs pc ls (.int i :: .ref a :: st) (n, I, L, P) Post := by
  intro p e R s m args below meth c H locs cells slots Q lr X hl hR hS hd hc hend
  have hob := (hR.2 a hn).1 (by rw [ha]; exact Nat.le_of_ble_eq_true rfl)
  rw [ha] at hob
  obtain ⟨h1, h2⟩ := ix_arr (cA := gA G 10) (f := sv G (n, I, L, P) a) hi
  rw [sv_I (by rw [kd, ha]; rfl)] at h2
  exact W.iald X.1 X.2.1 hob ((X.2.2.2.2.2.2.1.2 0 _ rfl).1 _ _) (fun q => by cases q) h1 h2 rfl rfl hdg (k p e R s m args below meth c H locs cells slots Q lr X hl hR hS hd hc hend)
theorem v_zald {i : Int32} {a N j : Nat} (hdg : decode cc pc = .ok (.baload, 1)) (ha : lay a = (12, N)) (hn : a < n) (hi : ix i N j) (k : V G y cc nL ret dep bc bs (pc + 1) ls (.int (I a j) :: st) (n, I, L, P) Post) : V G y cc nL ret dep bc bs pc ls (.int i :: .ref a :: st) (n, I, L, P) Post := by
  intro p e R s m args below meth c H locs cells slots Q lr X hl hR hS hd hc hend
  have hob := (hR.2 a hn).1 (by rw [ha]; exact Nat.le_of_ble_eq_true rfl)
  rw [ha] at hob
  obtain ⟨h1, h2⟩ := ix_arr (cA := gA G 12) (f := sv G (n, I, L, P) a) hi
  rw [sv_I (by rw [kd, ha]; rfl)] at h2
  exact W.zald X.1 X.2.1 hob ((X.2.2.2.2.2.2.1.2 2 _ rfl).1 _ _) (fun q => by cases q) h1 h2 rfl rfl hdg (k p e R s m args below meth c H locs cells slots Q lr X hl hR hS hd hc hend)
theorem v_lald {i : Int32} {a N j : Nat} (hdg : decode cc pc = .ok (.laload, 1)) (ha : lay a = (11, N)) (hn : a < n) (hi : ix i N j) (k : V G y cc nL ret dep bc bs (pc + 1) ls (.long (L a j) :: st) (n, I, L, P) Post) : V G y cc nL ret dep bc bs pc ls (.int i :: .ref a :: st) (n, I, L, P) Post := by
  intro p e R s m args below meth c H locs cells slots Q lr X hl hR hS hd hc hend
  have hob := (hR.2 a hn).1 (by rw [ha]; exact Nat.le_of_ble_eq_true rfl)
  rw [ha] at hob
  obtain ⟨h1, h2⟩ := ix_arr (cA := gA G 11) (f := sv G (n, I, L, P) a) hi
  rw [sv_L (by rw [kd, ha]; rfl)] at h2
  exact W.lald X.1 X.2.1 hob ((X.2.2.2.2.2.2.1.2 1 _ rfl).1 _ _) (fun q => by cases q) h1 h2 rfl rfl hdg (k p e R s m args below meth c H locs cells slots Q lr X hl hR hS hd hc hend)
/-- Door[] (13), Shelf[] (14) -/
theorem V.aald {μ : Mem} {i : Int32} {a N j t : Nat} {v : Value} (ht : t = 13 ∨ t = 14) (hdg : decode cc pc = .ok (.aaload, 1)) (ha : lay a = (t, N)) (hn : a < μ.1) (hi : ix i N j) (hv : sv G μ a j = tv G v) (k : V G y cc nL ret dep bc bs (pc + 1) ls (v :: st) μ Post) : V G y cc nL ret dep bc bs pc ls (.int i :: .ref a :: st) μ Post := by
  intro p e R s m args below meth c H locs cells slots Q lr X hl hR hS hd hc hend
  have hob := (hR.2 a hn).1 (by rw [ha]; rcases ht with rfl | rfl <;> exact Nat.le_of_ble_eq_true rfl)
  rw [ha] at hob
  obtain ⟨h1, h2⟩ := ix_arr (cA := gA G t) (f := sv G μ a) hi
  rw [hv] at h2
  rcases ht with rfl | rfl
  · exact W.aald X.1 X.2.1 hob ((X.2.2.2.2.2.2.1.2 3 _ rfl).1 _ _) rfl (fun q => by cases q) h1 h2 rfl rfl hdg (k p e R s m args below meth c H locs cells slots Q lr X hl hR hS hd hc hend)
  · exact W.aald X.1 X.2.1 hob ((X.2.2.2.2.2.2.1.2 4 _ rfl).1 _ _) rfl (fun q => by cases q) h1 h2 rfl rfl hdg (k p e R s m args below meth c H locs cells slots Q lr X hl hR hS hd hc hend)
theorem v_aald13 {i : Int32} {a N j q : Nat} (hdg : decode cc pc = .ok (.aaload, 1)) (ha : lay a = (13, N)) (hn : a < n) (hi : ix i N j) (hp : P a j = some q) (k : V G y cc nL ret dep bc bs (pc + 1) ls (.ref q :: st) (n, I, L, P) Post) : V G y cc nL ret dep bc bs pc ls (.int i :: .ref a :: st) (n, I, L, P) Post :=
  V.aald (Or.inl rfl) hdg ha hn hi (sv_P (by rw [kd, ha]; rfl) hp) k
theorem v_aald14 {i : Int32} {a N j q : Nat} (hdg : decode cc pc = .ok (.aaload, 1)) (ha : lay a = (14, N)) (hn : a < n) (hi : ix i N j) (hp : P a j = some q) (k : V G y cc nL ret dep bc bs (pc + 1) ls (.ref q :: st) (n, I, L, P) Post) : V G y cc nL ret dep bc bs pc ls (.int i :: .ref a :: st) (n, I, L, P) Post :=
  V.aald (Or.inr rfl) hdg ha hn hi (sv_P (by rw [kd, ha]; rfl) hp) k
theorem v_iast {i x : Int32} {a N j : Nat} (hdg : decode cc pc = .ok (.iastore, 1)) (ha : lay a = (10, N)) (hn : a < n) (hi : ix i N j) (k : V G y cc nL ret dep bc bs (pc + 1) ls st (n, u2 I a j x, L, P) Post) : V G y cc nL ret dep bc bs pc ls (.int x :: .int i :: .ref a :: st) (n, I, L, P) Post := by
  intro p e R s m args below meth c H locs cells slots Q lr X hl hR hS hd hc hend
  have ht : 10 ≤ (lay a).1 := by rw [ha]; exact Nat.le_of_ble_eq_true rfl
  have hob := (hR.2 a hn).1 ht
  have hob' := hob
  rw [ha] at hob'
  obtain ⟨h1, -⟩ := ix_arr (cA := gA G 10) (f := sv G (n, I, L, P) a) hi
  refine W.iast X.1 X.2.1 hob' ((X.2.2.2.2.2.2.1.2 0 _ rfl).1 _ _) (fun q => by cases q) h1 rfl rfl hdg fun H' e1 e2 e3 => ?_
  rw [(ix_in hi).2] at e1 ⊢
  exact k p e R s m args below meth c H' _ cells slots Q lr X hl (hR.arr hn ht (by rw [ha]; exact e1) e2 e3 rfl (sv_uI (by rw [kd, ha]; rfl))) (hS.put e2 e3 (Nat.le_add_right _ _)) hd hc hend
theorem v_zast {i x : Int32} {a N j : Nat} (hdg : decode cc pc = .ok (.bastore, 1)) (ha : lay a = (12, N)) (hn : a < n) (hi : ix i N j) (hx : x = 0 ∨ x = 1) (k : V G y cc nL ret dep bc bs (pc + 1) ls st (n, u2 I a j x, L, P) Post) : V G y cc nL ret dep bc bs pc ls (.int x :: .int i :: .ref a :: st) (n, I, L, P) Post := by
  intro p e R s m args below meth c H locs cells slots Q lr X hl hR hS hd hc hend
  have ht : 10 ≤ (lay a).1 := by rw [ha]; exact Nat.le_of_ble_eq_true rfl
  have hob := (hR.2 a hn).1 ht
  have hob' := hob
  rw [ha] at hob'
  obtain ⟨h1, -⟩ := ix_arr (cA := gA G 12) (f := sv G (n, I, L, P) a) hi
  refine W.zast X.1 X.2.1 hob' ((X.2.2.2.2.2.2.1.2 2 _ rfl).1 _ _) (fun q => by cases q) h1 rfl rfl hdg fun H' e1 e2 e3 => ?_
  rw [(ix_in hi).2, show narrow .boolean (.int x) = .int x by rcases hx with rfl | rfl <;> decide] at e1
  rw [(ix_in hi).2]
  exact k p e R s m args below meth c H' _ cells slots Q lr X hl (hR.arr hn ht (by rw [ha]; exact e1) e2 e3 rfl (sv_uI (by rw [kd, ha]; rfl))) (hS.put e2 e3 (Nat.le_add_right _ _)) hd hc hend
theorem v_last {i : Int32} {x : Int64} {a N j : Nat} (hdg : decode cc pc = .ok (.lastore, 1)) (ha : lay a = (11, N)) (hn : a < n) (hi : ix i N j) (k : V G y cc nL ret dep bc bs (pc + 1) ls st (n, I, u2 L a j x, P) Post) : V G y cc nL ret dep bc bs pc ls (.long x :: .int i :: .ref a :: st) (n, I, L, P) Post := by
  intro p e R s m args below meth c H locs cells slots Q lr X hl hR hS hd hc hend
  have ht : 10 ≤ (lay a).1 := by rw [ha]; exact Nat.le_of_ble_eq_true rfl
  have hob := (hR.2 a hn).1 ht
  have hob' := hob
  rw [ha] at hob'
  obtain ⟨h1, -⟩ := ix_arr (cA := gA G 11) (f := sv G (n, I, L, P) a) hi
  refine W.last X.1 X.2.1 hob' ((X.2.2.2.2.2.2.1.2 1 _ rfl).1 _ _) (fun q => by cases q) h1 rfl rfl hdg fun H' e1 e2 e3 => ?_
  rw [(ix_in hi).2] at e1 ⊢
  exact k p e R s m args below meth c H' _ cells slots Q lr X hl (hR.arr hn ht (by rw [ha]; exact e1) e2 e3 rfl (sv_uL (by rw [kd, ha]; rfl))) (hS.put e2 e3 (Nat.le_add_right _ _)) hd hc hend
/-- an object into Door[] (t 13, class 1), Shelf[] (t 14, class 4) -/
theorem V.aast {i : Int32} {a N j t q ci nf t0 : Nat} {C : String} {T : u_T} (hd0 : (tyl G)[t0]? = some (gA G t, .object C)) (hcl : kls[ci]? = some (C, T, nf)) (hci : ci < 10) (ht10 : 10 ≤ t) (hkd : kdT t j = 2) (hdg : decode cc pc = .ok (.aastore, 1)) (ha : lay a = (t, N)) (hn : a < n) (hq : lay q = (ci, nf)) (hqn : q < n) (hi : ix i N j) (k : V G y cc nL ret dep bc bs (pc + 1) ls st (n, I, L, u2 P a j (some q)) Post) : V G y cc nL ret dep bc bs pc ls (.ref q :: .int i :: .ref a :: st) (n, I, L, P) Post := by
  intro p e R s m args below meth c H locs cells slots Q lr X hl hR hS hd hc hend
  have ht : 10 ≤ (lay a).1 := by rw [ha]; exact ht10
  have hob := (hR.2 a hn).1 ht
  have hob' := hob
  rw [ha] at hob'
  have hoq := (hR.2 q hqn).2 (by rw [hq]; exact hci)
  rw [hq] at hoq
  obtain ⟨cell, g1, g2, g3, g4⟩ := hoq
  have hK := X.2.2.2.2.2.2.1
  have hcls := (hK.1 ci _ hcl).2
  obtain ⟨kA, comp, k1, k2, k3, -⟩ := (hK.2 t0 _ hd0).2
  have hcomp : comp = (gD G).1 ci := Option.some.inj (k3.symm.trans hcls.1)
  subst hcomp
  obtain ⟨kC, hkC, -⟩ := hcls.2
  obtain ⟨h1, h2⟩ := ix_in hi
  have h0 : ¬ i < 0 := fun z => h1 (Or.inl z)
  have hlt : i.toNatClampNeg < N := Nat.not_le.mp fun z => h1 (Or.inr z)
  refine W.aast X.1 X.2.1 hob' (fun q h => by cases h) (fun h => by cases h) k1 k2 rfl hkC ⟨h0, by rw [arrV_size]; exact hlt⟩ g1 (fun q h => by rw [g3] at h; cases h) (by rw [g2]; exact hkC) (by rw [g2]; exact va_assign hcls) rfl rfl hdg fun H' e1 e2 e3 => ?_
  rw [h2] at e1 ⊢
  exact k p e R s m args below meth c H' _ cells slots Q lr X hl (hR.arr hn ht (by rw [ha]; exact e1) e2 e3 rfl (sv_uP (v := some q) (by rw [kd, ha]; exact hkd))) (hS.put e2 e3 (Nat.le_add_right _ _)) hd hc hend
theorem v_alen {a N t : Nat} {v : Int32} {μ : Mem} (ht : t = 10 ∨ t = 11) (hdg : decode cc pc = .ok (.arraylength, 1)) (ha : lay a = (t, N)) (hn : a < μ.1) (hv : nI N = v) (k : V G y cc nL ret dep bc bs (pc + 1) ls (.int v :: st) μ Post) : V G y cc nL ret dep bc bs pc ls (.ref a :: st) μ Post := by
  intro p e R s m args below meth c H locs cells slots Q lr X hl hR hS hd hc hend
  have hob := (hR.2 a hn).1 (by rw [ha]; rcases ht with rfl | rfl <;> exact Nat.le_of_ble_eq_true rfl)
  rw [ha] at hob
  rcases ht with rfl | rfl
  · exact W.alen X.1 X.2.1 hob ((X.2.2.2.2.2.2.1.2 0 _ rfl).1 _ _) (by rw [arrV_size]; exact hv) rfl rfl hdg (k p e R s m args below meth c H locs cells slots Q lr X hl hR hS hd hc hend)
  · exact W.alen X.1 X.2.1 hob ((X.2.2.2.2.2.2.1.2 1 _ rfl).1 _ _) (by rw [arrV_size]; exact hv) rfl rfl hdg (k p e R s m args below meth c H locs cells slots Q lr X hl hR hS hd hc hend)
end VM
end
section
/-! ===== new cells ===== -/
section VN
variable {G : GG} {y : MethodName} {cc : ByteArray} {nL : Nat} {ret : Option FieldType} {dep bc bs pc : Nat} {ls st : List Value} {Post : Option Value → Mem → Prop}
variable {n : Nat} {I : Nat → Nat → Int32} {L : Nat → Nat → Int64} {P : Nat → Nat → Option Nat}
/-- a cell that was not there holds nothing -/
def Z0 (n : Nat) (I : Nat → Nat → Int32) (L : Nat → Nat → Int64) (P : Nat → Nat → Option Nat) : Prop := ∀ j, I n j = 0 ∧ L n j = 0 ∧ P n j = none
def LkC (own : String) (idx ci N : Nat) : Prop := ∃ (C : String) (T : u_T) (ty : Nat → FieldType), kls[ci]? = some (C, T, N) ∧ ci < 10 ∧ Cond.classLink own idx C ∈ lw0 ∧ Cond.instantiable C N ∈ lw0 ∧ Cond.initialized C ∈ lw0 ∧ (∀ k, k < N → parseFieldDescriptor (T k).2.2.1 = some (ty k)) ∧ ∀ k, k < N → defaultValue (ty k) = if kdT ci k = 0 then .int 0 else .null
theorem sv_Z {G : GG} {ci N : Nat} (hz : Z0 n I L P) (hl : lay n = (ci, N)) (h1 : ∀ j, j < N → kdT ci j = 0 ∨ kdT ci j = 2) {j : Nat} (hj : j < N) : sv G (n + 1, I, L, P) n j = if kdT ci j = 0 then .int 0 else .null := by
  have hk : kd n j = kdT ci j := by rw [kd, hl]
  rcases h1 j hj with h | h
  · rw [if_pos h, sv_I (by rw [hk]; exact h), (hz j).1]
  · rw [if_neg (by omega), sv_N (by rw [hk]; exact h) (hz j).2.2]
theorem kdT_obj {ci : Nat} (h : ci < 10) (j : Nat) : kdT ci j = 0 ∨ kdT ci j = 2 := by
  unfold kdT
  rw [if_neg (by omega), if_neg (by omega), if_neg (by omega)]
  split
  · exact Or.inr rfl
  · exact Or.inl rfl
theorem v_new {idx ci N : Nat} (hdg : decode cc pc = .ok (.new idx, 3)) (lk : LkC y.cls idx ci N) (hl0 : lay n = (ci, N)) (hz : Z0 n I L P) (k : V G y cc nL ret dep bc bs (pc + 3) ls (.ref n :: st) (n + 1, I, L, P) Post) : V G y cc nL ret dep (bc + 1) (bs + N) pc ls st (n, I, L, P) Post := by
  intro p e R s m args below meth c H locs cells slots Q lr X hl hR hS hd hc hend
  obtain ⟨hx, hb, hml, hown, hts, hin, hK⟩ := id X
  obtain ⟨C, T, ty, hcl, hci, w1, w2, w3, hty, hdf⟩ := lk
  obtain ⟨hin', -, -⟩ := kls_ok ci C T N hcl
  have hKn := hK.1.1 ci _ hcl
  have hsz : H.size = gB G + n := hR.1
  refine W.newcK hx hb hown (hts _ w1) (hts _ w2) (hts _ w3) rfl hdg (by omega) (by omega) hKn.2.1 hsz fun H1 kC hkC e1 z1 o1 => ?_
  have hob := u_born ty hts hin' hKn hkC e1 hty
  refine k p e R s m args below meth c H1 locs (cells + 1) (slots + N) Q lr X hl ?_ ⟨Nat.le_trans hS.1 (by omega), fun q h1 h2 => (o1 q (by have := hS.1; omega)).trans (hS.2.1 q h1 h2), hS.2.2⟩ hd ⟨by omega, by omega⟩ (fun r μ' H' locs' cells' slots' pc' lr' a b c' d e' f g => hend r μ' H' locs' cells' slots' pc' lr' a b c' d e' (by omega) (by omega))
  refine hR.push (by omega) (fun q hq => o1 q (by omega)) rfl (fun x y _ => rfl) ⟨fun h => by simp only [hl0] at h; omega, fun _ => ?_⟩
  simp only [hl0]
  refine hob.to fun j hj => ?_
  rw [hdf j hj, sv_Z hz hl0 (fun j _ => kdT_obj hci j) hj]
theorem v_newaI {N : Nat} {v : Int32} (hdg : decode cc pc = .ok (.newarray .int, 2)) (hw : Cond.arrayClass .int ∈ lw0) (hl0 : lay n = (10, N)) (hv : v = nI N) (hN : N ≤ 1000) (hz : Z0 n I L P) (k : V G y cc nL ret dep bc bs (pc + 2) ls (.ref n :: st) (n + 1, I, L, P) Post) : V G y cc nL ret dep (bc + 1) (bs + N) pc ls (.int v :: st) (n, I, L, P) Post := by
  intro p e R s m args below meth c H locs cells slots Q lr X hl hR hS hd hc hend
  obtain ⟨hx, hb, hml, hown, hts, hin, hK⟩ := id X
  subst hv
  have hsz : H.size = gB G + n := hR.1
  refine va_newaK hx hb (atype := .int) (hts _ hw) rfl hdg rfl (nI_pos (by omega)) (nI_clamp (by omega)) (show N * 4 ≤ _ by omega) (by omega) (by omega) hsz fun H1 cA e1 z1 o1 hAr hNm => ?_
  have hcA : cA = gA G 10 := Option.some.inj (hNm.symm.trans (hK.1.2 0 _ rfl).2)
  subst hcA
  refine k p e R s m args below meth c H1 locs (cells + 1) (slots + N) Q lr X hl ?_ ⟨Nat.le_trans hS.1 (by omega), fun q h1 h2 => (o1 q (by have := hS.1; omega)).trans (hS.2.1 q h1 h2), hS.2.2⟩ hd ⟨by omega, by omega⟩ (fun r μ' H' locs' cells' slots' pc' lr' a b c' d e' f g => hend r μ' H' locs' cells' slots' pc' lr' a b c' d e' (by omega) (by omega))
  refine hR.push (by omega) (fun q hq => o1 q (by omega)) rfl (fun x y _ => rfl) ⟨fun h => ?_, fun h => by simp only [hl0] at h; omega⟩
  simp only [hl0]
  rw [e1]
  congr 2
  funext j
  rw [sv_I (by rw [kd, hl0]; rfl), (hz j).1]
  rfl
theorem v_newaL {N : Nat} {v : Int32} (hdg : decode cc pc = .ok (.newarray .long, 2)) (hw : Cond.arrayClass .long ∈ lw0) (hl0 : lay n = (11, N)) (hv : v = nI N) (hN : N ≤ 1000) (hz : Z0 n I L P) (k : V G y cc nL ret dep bc bs (pc + 2) ls (.ref n :: st) (n + 1, I, L, P) Post) : V G y cc nL ret dep (bc + 1) (bs + N) pc ls (.int v :: st) (n, I, L, P) Post := by
  intro p e R s m args below meth c H locs cells slots Q lr X hl hR hS hd hc hend
  obtain ⟨hx, hb, hml, hown, hts, hin, hK⟩ := id X
  subst hv
  have hsz : H.size = gB G + n := hR.1
  refine va_newaK hx hb (atype := .long) (hts _ hw) rfl hdg rfl (nI_pos (by omega)) (nI_clamp (by omega)) (show N * 8 ≤ _ by omega) (by omega) (by omega) hsz fun H1 cA e1 z1 o1 hAr hNm => ?_
  have hcA : cA = gA G 11 := Option.some.inj (hNm.symm.trans (hK.1.2 1 _ rfl).2)
  subst hcA
  refine k p e R s m args below meth c H1 locs (cells + 1) (slots + N) Q lr X hl ?_ ⟨Nat.le_trans hS.1 (by omega), fun q h1 h2 => (o1 q (by have := hS.1; omega)).trans (hS.2.1 q h1 h2), hS.2.2⟩ hd ⟨by omega, by omega⟩ (fun r μ' H' locs' cells' slots' pc' lr' a b c' d e' f g => hend r μ' H' locs' cells' slots' pc' lr' a b c' d e' (by omega) (by omega))
  refine hR.push (by omega) (fun q hq => o1 q (by omega)) rfl (fun x y _ => rfl) ⟨fun h => ?_, fun h => by simp only [hl0] at h; omega⟩
  simp only [hl0]
  rw [e1]
  congr 2
  funext j
  rw [sv_L (by rw [kd, hl0]; rfl), (hz j).2.1]
  rfl
theorem v_newaZ {N : Nat} {v : Int32} (hdg : decode cc pc = .ok (.newarray .boolean, 2)) (hw : Cond.arrayClass .boolean ∈ lw0) (hl0 : lay n = (12, N)) (hv : v = nI N) (hN : N ≤ 1000) (hz : Z0 n I L P) (k : V G y cc nL ret dep bc bs (pc + 2) ls (.ref n :: st) (n + 1, I, L, P) Post) : V G y cc nL ret dep (bc + 1) (bs + N) pc ls (.int v :: st) (n, I, L, P) Post := by
  intro p e R s m args below meth c H locs cells slots Q lr X hl hR hS hd hc hend
  obtain ⟨hx, hb, hml, hown, hts, hin, hK⟩ := id X
  subst hv
  have hsz : H.size = gB G + n := hR.1
  refine va_newaK hx hb (atype := .boolean) (hts _ hw) rfl hdg rfl (nI_pos (by omega)) (nI_clamp (by omega)) (show N * 1 ≤ _ by omega) (by omega) (by omega) hsz fun H1 cA e1 z1 o1 hAr hNm => ?_
  have hcA : cA = gA G 12 := Option.some.inj (hNm.symm.trans (hK.1.2 2 _ rfl).2)
  subst hcA
  refine k p e R s m args below meth c H1 locs (cells + 1) (slots + N) Q lr X hl ?_ ⟨Nat.le_trans hS.1 (by omega), fun q h1 h2 => (o1 q (by have := hS.1; omega)).trans (hS.2.1 q h1 h2), hS.2.2⟩ hd ⟨by omega, by omega⟩ (fun r μ' H' locs' cells' slots' pc' lr' a b c' d e' f g => hend r μ' H' locs' cells' slots' pc' lr' a b c' d e' (by omega) (by omega))
  refine hR.push (by omega) (fun q hq => o1 q (by omega)) rfl (fun x y _ => rfl) ⟨fun h => ?_, fun h => by simp only [hl0] at h; omega⟩
  simp only [hl0]
  rw [e1]
  congr 2
  funext j
  rw [sv_I (by rw [kd, hl0]; rfl), (hz j).1]
  rfl
theorem v_anew {N t t0 idx : Nat} {v : Int32} {C : String} (ht : t = 13 ∨ t = 14) (hd0 : (tyl G)[t0]? = some (gA G t, .object C)) (hdg : decode cc pc = .ok (.anewarray idx, 3)) (hw : Cond.classLink y.cls idx C ∈ lw0) (hw2 : Cond.arrayOver (.object C) ∈ lw0) (hl0 : lay n = (t, N)) (hv : v = nI N) (hN : N ≤ 1000) (hz : Z0 n I L P) (k : V G y cc nL ret dep bc bs (pc + 3) ls (.ref n :: st) (n + 1, I, L, P) Post) : V G y cc nL ret dep (bc + 1) (bs + N) pc ls (.int v :: st) (n, I, L, P) Post := by
  intro p e R s m args below meth c H locs cells slots Q lr X hl hR hS hd hc hend
  obtain ⟨hx, hb, hml, hown, hts, hin, hK⟩ := id X
  subst hv
  have hsz : H.size = gB G + n := hR.1
  have hcl : (nI N).toNatClampNeg = N := nI_clamp (by omega)
  refine W.anew hx hb hown (hts _ hw) (hts _ hw2) rfl hdg rfl (nI_pos (by omega)) (by rw [hcl]; omega) (by omega) (by rw [hcl]; omega) fun cA kA comp f1 f2 f3 f4 => ?_
  rw [hcl]
  generalize hH1 : H.push ({ cls := cA, slots := Array.replicate N .null, vm := .none } : Cell) = H1
  have z1 : H1.size = H.size + 1 := by rw [← hH1, Array.size_push]
  have e1 : H1[H.size]? = some (arrV cA N (fun _ => .null)) := by rw [← hH1, Array.getElem?_push_size, ← arrV_new]
  have o1 : ∀ q : Nat, q < H.size → H1[q]? = H[q]? := fun q hq => by rw [← hH1, Array.getElem?_push, if_neg (Nat.ne_of_lt hq)]
  have hcA : cA = gA G t := by
    obtain ⟨-, -, -, -, -, h4⟩ := (hK.1.2 t0 _ hd0).2
    exact Option.some.inj (f1.symm.trans h4)
  subst hcA
  have hW : W p (gl G) e R s m args below meth c H1 locs (cells + 1) (slots + N) Q (F0 m (pc + 3) lr ((Value.ref n :: st).map (tv G))) := by
    refine k p e R s m args below meth c H1 locs (cells + 1) (slots + N) Q lr X hl ?_ ⟨Nat.le_trans hS.1 (by omega), fun q h1 h2 => (o1 q (by have := hS.1; omega)).trans (hS.2.1 q h1 h2), hS.2.2⟩ hd ⟨by omega, by omega⟩ (fun r μ' H' locs' cells' slots' pc' lr' a b c' d e' f g => hend r μ' H' locs' cells' slots' pc' lr' a b c' d e' (by omega) (by omega))
    refine hR.push z1 o1 rfl (fun x y _ => rfl) ⟨fun h => ?_, fun h => by simp only [hl0] at h; omega⟩
    simp only [hl0]
    rw [← hsz, e1]
    congr 2
    funext j
    rw [sv_N (by rw [kd, hl0]; rcases ht with rfl | rfl <;> rfl) (hz j).2.2]
  have e9 : tv G (.ref n) = .ref H.size := by rw [hsz]; rfl
  rw [List.map_cons, e9] at hW
  exact hW
theorem v_objInit {idx a : Nat} {μ : Mem} (hdg : decode cc pc = .ok (.invokespecial idx, 3)) (hw : Cond.methodLink y.cls idx objectInit ∈ lw0) (hw2 : Cond.instanceMethod objectInit ∈ lw0) (hw3 : Cond.code objectInit ⟨#[0xb1]⟩ 1 none ∈ lw0) (hdep : 1 ≤ dep) (hst : st = []) (k : V G y cc nL ret dep bc bs (pc + 3) ls st μ Post) : V G y cc nL ret dep bc bs pc ls (.ref a :: st) μ Post := by
  intro p e R s m args below meth c H locs cells slots Q lr X hl hR hS hd hc hend
  obtain ⟨hx, hb, hml, hown, hts, hin, hK⟩ := id X
  subst hst
  exact W.objInit hx hb hown (hts _ hw) (hts _ hw2) (hts _ hw3) rfl (by rw [hml]; exact hl.2.1) rfl hdg (by omega) (show 2 * 0 + 0 + 12 ≤ R.locals by omega) (k p e R s m args below meth c H locs cells slots Q lr X hl hR hS hd hc hend)
end VN
/-! ===== calls ===== -/
def csum : List Value → Nat
  | [] => 0
  | .float _ :: vs => 100 + csum vs
  | .long _ :: vs => 2 + csum vs
  | .double _ :: vs => 2 + csum vs
  | _ :: vs => 1 + csum vs
theorem csum_le (G : GG) : ∀ (vs : List Value), csum vs ≤ 50 → ((vs.map (tv G)).map fun v => v.category).sum ≤ csum vs
  | [], _ => Nat.le_refl _
  | v :: vs, h => by
    have hs : (((v :: vs).map (tv G)).map fun v => v.category).sum = (tv G v).category + ((vs.map (tv G)).map fun v => v.category).sum := by simp
    rw [hs]
    cases v <;> simp only [csum] at h ⊢ <;> first | omega | (have := csum_le G vs (by omega); first | (show 1 + _ ≤ _; omega) | (show 2 + _ ≤ _; omega))
def MthN (y : MethodName) (cc : ByteArray) (nL : Nat) (ret : Option FieldType) (n : Nat) : Prop := Cond.code y cc nL ret ∈ lw0 ∧ Cond.initialized y.cls ∈ lw0 ∧ (y.cls ≠ "java/lang/invoke/MethodHandle" ∧ y.cls ≠ "java/lang/invoke/VarHandle") ∧ (parseMethodDescriptor y.desc).map (fun d => d.parameters.length) = some n ∧ nL ≤ 40
def LkS (own : String) (idx : Nat) (y : MethodName) (cc : ByteArray) (nL : Nat) (ret : Option FieldType) (n : Nat) : Prop := MthN y cc nL ret n ∧ Cond.methodLink own idx y ∈ lw0 ∧ Cond.static y ∈ lw0
def LkV (own : String) (idx : Nat) (y : MethodName) (cc : ByteArray) (nL : Nat) (ret : Option FieldType) (n ci : Nat) : Prop := MthN y cc nL ret n ∧ Cond.methodLink own idx y ∈ lw0 ∧ Cond.instanceMethod y ∈ lw0 ∧ Cond.selects y.cls y y ∈ lw0 ∧ ci < 10 ∧ (kls[ci]?).map (fun q => q.1) = some y.cls
def LkI (own : String) (idx : Nat) (y : MethodName) (cc : ByteArray) (nL n : Nat) : Prop := MthN y cc nL none n ∧ Cond.methodLink own idx y ∈ lw0 ∧ Cond.instanceMethod y ∈ lw0 ∧ y.name = "<init>"
def LkN (own : String) (idx : Nat) (y : MethodName) (cc : ByteArray) (nL n : Nat) : Prop := MthN y cc nL none n ∧ (own, idx, y) ∈ nestL ∧ Cond.instanceMethod y ∈ lw0 ∧ y.name = "<init>"
section VC
variable {G : GG} {y : MethodName} {cc : ByteArray} {nL : Nat} {ret : Option FieldType} {dep bc bs pc : Nat} {ls st : List Value} {Post : Option Value → Mem → Prop} {μ : Mem}
variable {y' : MethodName} {cc' : ByteArray} {nL' dep' bc' bs' idx : Nat} {ret' : Option FieldType} {Post' : Option Value → Mem → Prop}
theorem blindN {av : List Value} : FrameBlind (va_Pc (av.map (tv G)) (fun U => Rep G μ U.heap ∧ KK G U)) := fun _ _ _ _ h => ⟨h.1, h.2.1, h.2.2.calling⟩
theorem callBN {own : String} {R : Room} {s : State} {args : Array Value} {n : Nat} (hts : ∀ w ∈ lw0, w.before args s = true) (hm : MthN y' cc' nL' ret' n) (hlk : Cond.methodLink own idx y' ∈ lw0) (hd : dep' + 1 ≤ dep) (hr : dep ≤ R.frames ∧ 64 * dep ≤ R.locals) : CallB R s args own idx y' cc' nL' ret' (Cond.code y' cc' nL' ret' :: lw0) (rmN dep' bc' bs') bc' bs' n := by
  obtain ⟨h1, h2, h3, h4, h5⟩ := hm
  have hG : GoodIn lw0 (Cond.code y' cc' nL' ret' :: lw0) := fun w hw => by
    have hm : w ∈ lw0 := (List.mem_cons.mp hw).elim (fun e => e ▸ h1) id
    exact ⟨hm, lw0_good hm⟩
  exact callB_of n hts hG rfl rfl rfl (hts _ h2) (hts _ hlk) ⟨h3.1, h3.2, h4⟩ ⟨by show dep' + 1 ≤ R.frames; omega, by show 8 + (nL' + 11) + 64 * dep' ≤ R.locals; omega⟩
/-- behind a call -/
theorem V.after {p : Program} {e : Env} {R : Room} {s : State} {m : MethodId} {args : Array Value} {below : List Frame} {meth : Method} {c : Code} {H : Heap} {locs : List Loc} {cells slots : Nat} {Q : State → Prop} {lr : Array Slot} {a : Array Value} {st0 : List Value}
    (run : va_Run p (gl G) e R s m args below meth c H locs cells slots bc' bs' (F0 m pc lr st0) (st.map (tv G)) (Qn G Post' a) (AA G))
    (k : ∀ r μ', Post' r μ' → V G y cc nL ret dep bc bs (pc + 3) ls (r.toList ++ st) μ' Post) (X : Cx G y cc nL p s m args meth c) (hl : LR G lr nL ls) (hS : va_S (AA G) s.heap H locs) (hd : dep ≤ R.frames ∧ 64 * dep ≤ R.locals) (hc : cells + (bc + bc') ≤ R.cells ∧ slots + (bs + bs') ≤ R.slots)
    (hend : ∀ (r : Option Value) (μ' : Mem) (H' : Heap) (locs' : List Loc) (cells' slots' pc' : Nat) (lr' : Array Slot), Post r μ' → RetOK ret r → decode cc pc' = .ok (RetI r, 1) → Rep G μ' H' → va_S (AA G) s.heap H' locs' → cells' ≤ cells + (bc + bc') → slots' ≤ slots + (bs + bs') → W p (gl G) e R s m args below meth c H' locs' cells' slots' Q (F0 m pc' lr' (r.toList.map (tv G)))) :
    W p (gl G) e R s m args below meth c H locs cells slots Q (F0 m pc lr st0) := by
  intro T hT X'
  obtain ⟨v, st₀, t, T', Lc, h0, X'', hL, e1, e2, ⟨⟨r, μ', hv, hp, hR'⟩, hF⟩, hgo⟩ := run T hT X'
  have hv' : v = r.map (tv G) := by injection hv
  subst hv'
  have hFz := hF.1
  have hFk := hF.2
  rw [h0] at hFz hFk
  obtain ⟨t2, a1, b1⟩ := k r μ' hp p e R s m args below meth c T'.heap (locs ++ Lc) (cells + bc') (slots + bs') Q lr X hl (by rw [e1]; exact hR')
    ⟨Nat.le_trans hS.1 (by rw [e1]; exact hFz), fun q h1 h2 => by rw [e1, hFk q (Nat.lt_of_lt_of_le h1 hS.1) h2]; exact hS.2.1 q h1 h2, fun q hq => by
      rcases List.mem_append.mp hq with h | h
      · exact hS.2.2 q h
      · exact hL q h⟩ hd ⟨by omega, by omega⟩ (fun r μ' H' locs' cells' slots' pc' lr' a b c' d e' f g => hend r μ' H' locs' cells' slots' pc' lr' a b c' d e' (by omega) (by omega)) T' rfl X''
  refine ⟨t2, hgo t2 ?_, b1⟩
  have es : (r.toList ++ st).map (tv G) = (r.map (tv G)).toList ++ st.map (tv G) := by cases r <;> simp
  rw [es] at a1
  exact a1
theorem V.invS {av : List Value} {stk : List Value} (hC : Cn G y' cc' nL' ret' dep' bc' bs' av μ Post') (lk : LkS y.cls idx y' cc' nL' ret' av.length) (hdg : decode cc pc = .ok (.invokestatic idx, 3)) (hd1 : dep' + 1 ≤ dep) (hst : csum st ≤ 8) (hs : stk = av.reverse ++ st)
    (k : ∀ r μ', Post' r μ' → V G y cc nL ret dep bc bs (pc + 3) ls (r.toList ++ st) μ' Post) : V G y cc nL ret dep (bc + bc') (bs + bs') pc ls stk μ Post := by
  intro p e R s m args below meth c H locs cells slots Q lr X hl hR hS hd hc hend
  obtain ⟨hx, hb, hml, hown, hts, hin, hK⟩ := id X
  subst hs
  have hroom := csum_le G st (by omega)
  have run := va_runS (l := gl G) (e := e) (below := below) (meth := meth) (locs := locs) (cells := cells) (slots := slots) (g := F0 m pc lr ((av.reverse ++ st).map (tv G))) (As := av.map (tv G)) (rest := st.map (tv G)) (H := H) ⟨hx, hb, hml, hown, hts⟩ hC ⟨callBN (R := R) hts lk.1 lk.2.1 hd1 hd, hts _ lk.2.2⟩ ⟨blindN, fun U hU hW => ⟨rfl, by rw [hU]; exact hR, hK.moved hS hU hW⟩⟩ rfl (by simp) hl.2.1 (by simp) (lv_room (by omega)) hdg ⟨by omega, by omega⟩
  exact V.after run k X hl hS hd hc hend
theorem V.invV {av : List Value} {stk : List Value} {o ci N : Nat} (hC : Cn G y' cc' nL' ret' dep' bc' bs' (.ref o :: av) μ Post') (lk : LkV y.cls idx y' cc' nL' ret' av.length ci) (hdg : decode cc pc = .ok (.invokevirtual idx, 3)) (hd1 : dep' + 1 ≤ dep) (hst : csum st ≤ 8) (hs : stk = av.reverse ++ .ref o :: st) (ho : lay o = (ci, N)) (hn : o < μ.1)
    (k : ∀ r μ', Post' r μ' → V G y cc nL ret dep bc bs (pc + 3) ls (r.toList ++ st) μ' Post) : V G y cc nL ret dep (bc + bc') (bs + bs') pc ls stk μ Post := by
  intro p e R s m args below meth c H locs cells slots Q lr X hl hR hS hd hc hend
  obtain ⟨hx, hb, hml, hown, hts, hin, hK⟩ := id X
  subst hs
  have hroom := csum_le G st (by omega)
  obtain ⟨lk1, lk2, lk3, lk4, hci, hkc⟩ := lk
  have hob := (hR.2 o hn).2 (by rw [ho]; exact hci)
  rw [ho] at hob
  obtain ⟨cell, q1, q2, q3, q4⟩ := hob
  have hcls : s.vm.findClass y'.cls = some cell.cls := by
    cases hk : kls[ci]? with
    | none => rw [hk] at hkc; cases hkc
    | some w =>
      rw [hk] at hkc
      have hw : w.1 = y'.cls := Option.some.inj hkc
      rw [q2, ← hw]
      exact (hK.1.1 ci w hk).2.1
  have run := va_runV (l := gl G) (e := e) (below := below) (meth := meth) (locs := locs) (cells := cells) (slots := slots) (g := F0 m pc lr ((av.reverse ++ .ref o :: st).map (tv G))) (As := av.map (tv G)) (rest := st.map (tv G)) (b := gB G + o) (C := y'.cls) (H := H) ⟨hx, hb, hml, hown, hts⟩ hC ⟨callBN (R := R) hts lk1 lk2 hd1 hd, hts _ lk3, hts _ lk4⟩ ⟨blindN, ⟨cell, q1, by rw [q3]; rfl, hcls⟩, fun U hU hW => ⟨rfl, by rw [hU]; exact hR, hK.moved hS hU hW⟩⟩ rfl (by simp) hl.2.1 (by simp [tv]) (lv_room (by omega)) hdg ⟨by omega, by omega⟩
  exact V.after run k X hl hS hd hc hend
theorem V.invI {av : List Value} {stk : List Value} {o : Nat} (hC : Cn G y' cc' nL' none dep' bc' bs' (.ref o :: av) μ Post') (lk : LkI y.cls idx y' cc' nL' av.length) (hdg : decode cc pc = .ok (.invokespecial idx, 3)) (hd1 : dep' + 1 ≤ dep) (hst : csum st ≤ 8) (hs : stk = av.reverse ++ .ref o :: st)
    (k : ∀ r μ', Post' r μ' → V G y cc nL ret dep bc bs (pc + 3) ls (r.toList ++ st) μ' Post) : V G y cc nL ret dep (bc + bc') (bs + bs') pc ls stk μ Post := by
  intro p e R s m args below meth c H locs cells slots Q lr X hl hR hS hd hc hend
  obtain ⟨hx, hb, hml, hown, hts, hin, hK⟩ := id X
  subst hs
  have hroom := csum_le G st (by omega)
  obtain ⟨lk1, lk2, lk3, lk4⟩ := lk
  have run := va_runI (l := gl G) (e := e) (below := below) (meth := meth) (locs := locs) (cells := cells) (slots := slots) (g := F0 m pc lr ((av.reverse ++ .ref o :: st).map (tv G))) (As := av.map (tv G)) (rest := st.map (tv G)) (b := gB G + o) (H := H) ⟨hx, hb, hml, hown, hts⟩ hC ⟨callBN (R := R) hts lk1 lk2 hd1 hd, lk4, hts _ lk3⟩ ⟨blindN, fun U hU hW => ⟨rfl, by rw [hU]; exact hR, hK.moved hS hU hW⟩⟩ rfl (by simp) hl.2.1 (by simp [tv]) (lv_room (by omega)) hdg ⟨by omega, by omega⟩
  exact V.after run k X hl hS hd hc hend
theorem V.invN {av : List Value} {stk : List Value} {o : Nat} (hC : Cn G y' cc' nL' none dep' bc' bs' (.ref o :: av) μ Post') (lk : LkN y.cls idx y' cc' nL' av.length) (hdg : decode cc pc = .ok (.invokespecial idx, 3)) (hd1 : dep' + 1 ≤ dep) (hst : csum st ≤ 8) (hs : stk = av.reverse ++ .ref o :: st)
    (k : ∀ r μ', Post' r μ' → V G y cc nL ret dep bc bs (pc + 3) ls (r.toList ++ st) μ' Post) : V G y cc nL ret dep (bc + bc') (bs + bs') pc ls stk μ Post := by
  intro p e R s m args below meth c H locs cells slots Q lr X hl hR hS hd hc hend
  obtain ⟨hx, hb, hml, hown, hts, hin, hK⟩ := id X
  subst hs
  have hroom := csum_le G st (by omega)
  obtain ⟨⟨h1, h2, h3, h4, h5⟩, lk2, lk3, lk4⟩ := lk
  have hG : GoodIn lw0 (Cond.code y' cc' nL' none :: lw0) := fun w hw => by
    have hm : w ∈ lw0 := (List.mem_cons.mp hw).elim (fun e => e ▸ h1) id
    exact ⟨hm, lw0_good hm⟩
  have hcn := va_cnB (R := R) (rm := rmN dep' bc' bs') av.length hts hG rfl rfl rfl (hK.2.2.1 _ lk2) (hts _ h2) ⟨h3.1, h3.2, h4⟩ ⟨by show dep' + 1 ≤ R.frames; omega, by show 8 + (nL' + 11) + 64 * dep' ≤ R.locals; omega⟩
  have run := va_runIN (l := gl G) (e := e) (below := below) (meth := meth) (locs := locs) (cells := cells) (slots := slots) (g := F0 m pc lr ((av.reverse ++ .ref o :: st).map (tv G))) (As := av.map (tv G)) (rest := st.map (tv G)) (b := gB G + o) (H := H) ⟨hx, hb, hml, hown, hts⟩ hC ⟨hcn, lk4, hts _ lk3⟩ ⟨blindN, fun U hU hW => ⟨rfl, by rw [hU]; exact hR, hK.moved hS hU hW⟩⟩ rfl (by simp) hl.2.1 (by simp [tv]) (lv_room (by omega)) hdg ⟨by omega, by omega⟩
  exact V.after run k X hl hS hd hc hend
end VC
end
