section
-- ===== PART A: goes FIRST, ahead of the names: the tables' words, and 'selects' of the private methods out of them =====
/-- a private method of a class that the tables say can be made, by its rows of tables_1 -/
def lw_okq (q : MethodName × Nat) : Prop := (q.1.cls ≠ "java/lang/invoke/MethodHandle" ∧ q.1.cls ≠ "java/lang/invoke/VarHandle") ∧ Cond.instantiable q.1.cls q.2 ∈ tables_1 ∧ Cond.privateMethod q.1 ∈ tables_1 ∧ Cond.instanceMethod q.1 ∈ tables_1
theorem lw_p0 : lw_okq (⟨"DoorTown$Reader", "nextToken", "()Z"⟩, 7) := ⟨⟨by decide +kernel, by decide +kernel⟩, List.mem_of_getElem? (i := 25) (by decide +kernel), List.mem_of_getElem? (i := 264) (by decide +kernel), List.mem_of_getElem? (i := 265) (by decide +kernel)⟩
theorem lw_p1 : lw_okq (⟨"DoorTown$Tape", "byteAt", "(I)I"⟩, 6) := ⟨⟨by decide +kernel, by decide +kernel⟩, List.mem_of_getElem? (i := 31) (by decide +kernel), List.mem_of_getElem? (i := 272) (by decide +kernel), List.mem_of_getElem? (i := 273) (by decide +kernel)⟩
theorem lw_p2 : lw_okq (⟨"DoorTown$Reader", "refuse", "(I)V"⟩, 7) := ⟨⟨by decide +kernel, by decide +kernel⟩, List.mem_of_getElem? (i := 25) (by decide +kernel), List.mem_of_getElem? (i := 279) (by decide +kernel), List.mem_of_getElem? (i := 280) (by decide +kernel)⟩
theorem lw_p3 : lw_okq (⟨"DoorTown$Reader", "kindNamed", "()I"⟩, 7) := ⟨⟨by decide +kernel, by decide +kernel⟩, List.mem_of_getElem? (i := 25) (by decide +kernel), List.mem_of_getElem? (i := 283) (by decide +kernel), List.mem_of_getElem? (i := 284) (by decide +kernel)⟩
theorem lw_p4 : lw_okq (⟨"DoorTown$Reader", "readOne", "(I)V"⟩, 7) := ⟨⟨by decide +kernel, by decide +kernel⟩, List.mem_of_getElem? (i := 25) (by decide +kernel), List.mem_of_getElem? (i := 346) (by decide +kernel), List.mem_of_getElem? (i := 347) (by decide +kernel)⟩
theorem lw_p5 : lw_okq (⟨"DoorTown$Reader", "nextNumber", "(I)I"⟩, 7) := ⟨⟨by decide +kernel, by decide +kernel⟩, List.mem_of_getElem? (i := 25) (by decide +kernel), List.mem_of_getElem? (i := 350) (by decide +kernel), List.mem_of_getElem? (i := 351) (by decide +kernel)⟩
theorem lw_p6 : lw_okq (⟨"DoorTown$Reader", "numberHere", "(I)I"⟩, 7) := ⟨⟨by decide +kernel, by decide +kernel⟩, List.mem_of_getElem? (i := 25) (by decide +kernel), List.mem_of_getElem? (i := 354) (by decide +kernel), List.mem_of_getElem? (i := 355) (by decide +kernel)⟩
theorem lw_p7 : lw_okq (⟨"DoorTown$Reader", "hangToldDoor", "()V"⟩, 7) := ⟨⟨by decide +kernel, by decide +kernel⟩, List.mem_of_getElem? (i := 25) (by decide +kernel), List.mem_of_getElem? (i := 362) (by decide +kernel), List.mem_of_getElem? (i := 363) (by decide +kernel)⟩
theorem lw_p8 : lw_okq (⟨"DoorTown$Reader", "takeSign", "()V"⟩, 7) := ⟨⟨by decide +kernel, by decide +kernel⟩, List.mem_of_getElem? (i := 25) (by decide +kernel), List.mem_of_getElem? (i := 370) (by decide +kernel), List.mem_of_getElem? (i := 371) (by decide +kernel)⟩
theorem lw_p9 : lw_okq (⟨"DoorTown$Reader", "readWall", "()V"⟩, 7) := ⟨⟨by decide +kernel, by decide +kernel⟩, List.mem_of_getElem? (i := 25) (by decide +kernel), List.mem_of_getElem? (i := 375) (by decide +kernel), List.mem_of_getElem? (i := 376) (by decide +kernel)⟩
theorem lw_p10 : lw_okq (⟨"DoorTown$Reader", "readRoom", "()V"⟩, 7) := ⟨⟨by decide +kernel, by decide +kernel⟩, List.mem_of_getElem? (i := 25) (by decide +kernel), List.mem_of_getElem? (i := 384) (by decide +kernel), List.mem_of_getElem? (i := 385) (by decide +kernel)⟩
theorem lw_p11 : lw_okq (⟨"DoorTown$Reader", "readPlan", "()V"⟩, 7) := ⟨⟨by decide +kernel, by decide +kernel⟩, List.mem_of_getElem? (i := 25) (by decide +kernel), List.mem_of_getElem? (i := 395) (by decide +kernel), List.mem_of_getElem? (i := 396) (by decide +kernel)⟩
theorem lw_p12 : lw_okq (⟨"DoorTown$Town", "firstTowards", "(III)I"⟩, 13) := ⟨⟨by decide +kernel, by decide +kernel⟩, List.mem_of_getElem? (i := 62) (by decide +kernel), List.mem_of_getElem? (i := 568) (by decide +kernel), List.mem_of_getElem? (i := 569) (by decide +kernel)⟩
theorem lw_p13 : lw_okq (⟨"DoorTown$Town", "otherSide", "(II)I"⟩, 13) := ⟨⟨by decide +kernel, by decide +kernel⟩, List.mem_of_getElem? (i := 62) (by decide +kernel), List.mem_of_getElem? (i := 573) (by decide +kernel), List.mem_of_getElem? (i := 574) (by decide +kernel)⟩
theorem lw_p14 : lw_okq (⟨"DoorTown", "reachedByPlan", "(I)I"⟩, 10) := ⟨⟨by decide +kernel, by decide +kernel⟩, List.mem_of_getElem? (i := 17) (by decide +kernel), List.mem_of_getElem? (i := 641) (by decide +kernel), List.mem_of_getElem? (i := 642) (by decide +kernel)⟩
theorem lw_p15 : lw_okq (⟨"DoorTown", "wallsAsSeen", "(I)I"⟩, 10) := ⟨⟨by decide +kernel, by decide +kernel⟩, List.mem_of_getElem? (i := 17) (by decide +kernel), List.mem_of_getElem? (i := 704) (by decide +kernel), List.mem_of_getElem? (i := 705) (by decide +kernel)⟩
def lw_privs_1 : List (MethodName × Nat) := [(⟨"DoorTown$Reader", "nextToken", "()Z"⟩, 7), (⟨"DoorTown$Tape", "byteAt", "(I)I"⟩, 6), (⟨"DoorTown$Reader", "refuse", "(I)V"⟩, 7), (⟨"DoorTown$Reader", "kindNamed", "()I"⟩, 7), (⟨"DoorTown$Reader", "readOne", "(I)V"⟩, 7), (⟨"DoorTown$Reader", "nextNumber", "(I)I"⟩, 7), (⟨"DoorTown$Reader", "numberHere", "(I)I"⟩, 7), (⟨"DoorTown$Reader", "hangToldDoor", "()V"⟩, 7), (⟨"DoorTown$Reader", "takeSign", "()V"⟩, 7), (⟨"DoorTown$Reader", "readWall", "()V"⟩, 7), (⟨"DoorTown$Reader", "readRoom", "()V"⟩, 7), (⟨"DoorTown$Reader", "readPlan", "()V"⟩, 7), (⟨"DoorTown$Town", "firstTowards", "(III)I"⟩, 13), (⟨"DoorTown$Town", "otherSide", "(II)I"⟩, 13), (⟨"DoorTown", "reachedByPlan", "(I)I"⟩, 10), (⟨"DoorTown", "wallsAsSeen", "(I)I"⟩, 10)]
theorem lw_r1 : ∀ q ∈ lw_privs_1, lw_okq q := List.forall_mem_cons.mpr ⟨lw_p0, List.forall_mem_cons.mpr ⟨lw_p1, List.forall_mem_cons.mpr ⟨lw_p2, List.forall_mem_cons.mpr ⟨lw_p3, List.forall_mem_cons.mpr ⟨lw_p4, List.forall_mem_cons.mpr ⟨lw_p5, List.forall_mem_cons.mpr ⟨lw_p6, List.forall_mem_cons.mpr ⟨lw_p7, List.forall_mem_cons.mpr ⟨lw_p8, List.forall_mem_cons.mpr ⟨lw_p9, List.forall_mem_cons.mpr ⟨lw_p10, List.forall_mem_cons.mpr ⟨lw_p11, List.forall_mem_cons.mpr ⟨lw_p12, List.forall_mem_cons.mpr ⟨lw_p13, List.forall_mem_cons.mpr ⟨lw_p14, List.forall_mem_cons.mpr ⟨lw_p15, fun _ h => absurd h List.not_mem_nil⟩⟩⟩⟩⟩⟩⟩⟩⟩⟩⟩⟩⟩⟩⟩⟩
theorem lw_p16 : lw_okq (⟨"DoorTown", "countReaching", "(III)V"⟩, 10) := ⟨⟨by decide +kernel, by decide +kernel⟩, List.mem_of_getElem? (i := 17) (by decide +kernel), List.mem_of_getElem? (i := 717) (by decide +kernel), List.mem_of_getElem? (i := 718) (by decide +kernel)⟩
theorem lw_p17 : lw_okq (⟨"DoorTownModel", "step", "()V"⟩, 32) := ⟨⟨by decide +kernel, by decide +kernel⟩, List.mem_of_getElem? (i := 782) (by decide +kernel), List.mem_of_getElem? (i := 901) (by decide +kernel), List.mem_of_getElem? (i := 902) (by decide +kernel)⟩
theorem lw_p18 : lw_okq (⟨"DoorTownModel", "byteAt", "(I)I"⟩, 32) := ⟨⟨by decide +kernel, by decide +kernel⟩, List.mem_of_getElem? (i := 782) (by decide +kernel), List.mem_of_getElem? (i := 905) (by decide +kernel), List.mem_of_getElem? (i := 906) (by decide +kernel)⟩
theorem lw_p19 : lw_okq (⟨"DoorTownModel", "fails", "(I)V"⟩, 32) := ⟨⟨by decide +kernel, by decide +kernel⟩, List.mem_of_getElem? (i := 782) (by decide +kernel), List.mem_of_getElem? (i := 913) (by decide +kernel), List.mem_of_getElem? (i := 914) (by decide +kernel)⟩
theorem lw_p20 : lw_okq (⟨"DoorTownModel", "readLine", "()V"⟩, 32) := ⟨⟨by decide +kernel, by decide +kernel⟩, List.mem_of_getElem? (i := 782) (by decide +kernel), List.mem_of_getElem? (i := 917) (by decide +kernel), List.mem_of_getElem? (i := 918) (by decide +kernel)⟩
theorem lw_p21 : lw_okq (⟨"DoorTownModel", "nameHere", "()I"⟩, 32) := ⟨⟨by decide +kernel, by decide +kernel⟩, List.mem_of_getElem? (i := 782) (by decide +kernel), List.mem_of_getElem? (i := 921) (by decide +kernel), List.mem_of_getElem? (i := 922) (by decide +kernel)⟩
theorem lw_p22 : lw_okq (⟨"DoorTownModel", "readMore", "(I)V"⟩, 32) := ⟨⟨by decide +kernel, by decide +kernel⟩, List.mem_of_getElem? (i := 782) (by decide +kernel), List.mem_of_getElem? (i := 926) (by decide +kernel), List.mem_of_getElem? (i := 927) (by decide +kernel)⟩
theorem lw_p23 : lw_okq (⟨"DoorTownModel", "readOne", "(I)V"⟩, 32) := ⟨⟨by decide +kernel, by decide +kernel⟩, List.mem_of_getElem? (i := 782) (by decide +kernel), List.mem_of_getElem? (i := 930) (by decide +kernel), List.mem_of_getElem? (i := 931) (by decide +kernel)⟩
theorem lw_p24 : lw_okq (⟨"DoorTownModel", "other", "(III)I"⟩, 32) := ⟨⟨by decide +kernel, by decide +kernel⟩, List.mem_of_getElem? (i := 782) (by decide +kernel), List.mem_of_getElem? (i := 934) (by decide +kernel), List.mem_of_getElem? (i := 935) (by decide +kernel)⟩
theorem lw_p25 : lw_okq (⟨"DoorTownModel", "wallHere", "(I)I"⟩, 32) := ⟨⟨by decide +kernel, by decide +kernel⟩, List.mem_of_getElem? (i := 782) (by decide +kernel), List.mem_of_getElem? (i := 938) (by decide +kernel), List.mem_of_getElem? (i := 939) (by decide +kernel)⟩
theorem lw_p26 : lw_okq (⟨"DoorTownModel", "readWall", "()V"⟩, 32) := ⟨⟨by decide +kernel, by decide +kernel⟩, List.mem_of_getElem? (i := 782) (by decide +kernel), List.mem_of_getElem? (i := 942) (by decide +kernel), List.mem_of_getElem? (i := 943) (by decide +kernel)⟩
theorem lw_p27 : lw_okq (⟨"DoorTownModel", "readPlan", "()V"⟩, 32) := ⟨⟨by decide +kernel, by decide +kernel⟩, List.mem_of_getElem? (i := 782) (by decide +kernel), List.mem_of_getElem? (i := 946) (by decide +kernel), List.mem_of_getElem? (i := 947) (by decide +kernel)⟩
theorem lw_p28 : lw_okq (⟨"DoorTownModel", "isFreeOn", "(II)Z"⟩, 32) := ⟨⟨by decide +kernel, by decide +kernel⟩, List.mem_of_getElem? (i := 782) (by decide +kernel), List.mem_of_getElem? (i := 958) (by decide +kernel), List.mem_of_getElem? (i := 959) (by decide +kernel)⟩
theorem lw_p29 : lw_okq (⟨"DoorTownModel", "whoReaches", "(I)I"⟩, 32) := ⟨⟨by decide +kernel, by decide +kernel⟩, List.mem_of_getElem? (i := 782) (by decide +kernel), List.mem_of_getElem? (i := 962) (by decide +kernel), List.mem_of_getElem? (i := 963) (by decide +kernel)⟩
theorem lw_p30 : lw_okq (⟨"DoorTownModel", "reachesOn", "(II)I"⟩, 32) := ⟨⟨by decide +kernel, by decide +kernel⟩, List.mem_of_getElem? (i := 782) (by decide +kernel), List.mem_of_getElem? (i := 966) (by decide +kernel), List.mem_of_getElem? (i := 967) (by decide +kernel)⟩
theorem lw_p31 : lw_okq (⟨"DoorTownModel", "goesFrom", "(III)I"⟩, 32) := ⟨⟨by decide +kernel, by decide +kernel⟩, List.mem_of_getElem? (i := 782) (by decide +kernel), List.mem_of_getElem? (i := 970) (by decide +kernel), List.mem_of_getElem? (i := 971) (by decide +kernel)⟩
def lw_privs_2 : List (MethodName × Nat) := [(⟨"DoorTown", "countReaching", "(III)V"⟩, 10), (⟨"DoorTownModel", "step", "()V"⟩, 32), (⟨"DoorTownModel", "byteAt", "(I)I"⟩, 32), (⟨"DoorTownModel", "fails", "(I)V"⟩, 32), (⟨"DoorTownModel", "readLine", "()V"⟩, 32), (⟨"DoorTownModel", "nameHere", "()I"⟩, 32), (⟨"DoorTownModel", "readMore", "(I)V"⟩, 32), (⟨"DoorTownModel", "readOne", "(I)V"⟩, 32), (⟨"DoorTownModel", "other", "(III)I"⟩, 32), (⟨"DoorTownModel", "wallHere", "(I)I"⟩, 32), (⟨"DoorTownModel", "readWall", "()V"⟩, 32), (⟨"DoorTownModel", "readPlan", "()V"⟩, 32), (⟨"DoorTownModel", "isFreeOn", "(II)Z"⟩, 32), (⟨"DoorTownModel", "whoReaches", "(I)I"⟩, 32), (⟨"DoorTownModel", "reachesOn", "(II)I"⟩, 32), (⟨"DoorTownModel", "goesFrom", "(III)I"⟩, 32)]
theorem lw_r2 : ∀ q ∈ lw_privs_2, lw_okq q := List.forall_mem_cons.mpr ⟨lw_p16, List.forall_mem_cons.mpr ⟨lw_p17, List.forall_mem_cons.mpr ⟨lw_p18, List.forall_mem_cons.mpr ⟨lw_p19, List.forall_mem_cons.mpr ⟨lw_p20, List.forall_mem_cons.mpr ⟨lw_p21, List.forall_mem_cons.mpr ⟨lw_p22, List.forall_mem_cons.mpr ⟨lw_p23, List.forall_mem_cons.mpr ⟨lw_p24, List.forall_mem_cons.mpr ⟨lw_p25, List.forall_mem_cons.mpr ⟨lw_p26, List.forall_mem_cons.mpr ⟨lw_p27, List.forall_mem_cons.mpr ⟨lw_p28, List.forall_mem_cons.mpr ⟨lw_p29, List.forall_mem_cons.mpr ⟨lw_p30, List.forall_mem_cons.mpr ⟨lw_p31, fun _ h => absurd h List.not_mem_nil⟩⟩⟩⟩⟩⟩⟩⟩⟩⟩⟩⟩⟩⟩⟩⟩
theorem lw_p32 : lw_okq (⟨"DoorTownModel", "passesOn", "(III)Z"⟩, 32) := ⟨⟨by decide +kernel, by decide +kernel⟩, List.mem_of_getElem? (i := 782) (by decide +kernel), List.mem_of_getElem? (i := 974) (by decide +kernel), List.mem_of_getElem? (i := 975) (by decide +kernel)⟩
theorem lw_p33 : lw_okq (⟨"DoorTownModel", "doorOn", "(II)I"⟩, 32) := ⟨⟨by decide +kernel, by decide +kernel⟩, List.mem_of_getElem? (i := 782) (by decide +kernel), List.mem_of_getElem? (i := 978) (by decide +kernel), List.mem_of_getElem? (i := 979) (by decide +kernel)⟩
theorem lw_p34 : lw_okq (⟨"DoorTownModel", "letsOn", "(III)Z"⟩, 32) := ⟨⟨by decide +kernel, by decide +kernel⟩, List.mem_of_getElem? (i := 782) (by decide +kernel), List.mem_of_getElem? (i := 982) (by decide +kernel), List.mem_of_getElem? (i := 983) (by decide +kernel)⟩
theorem lw_p35 : lw_okq (⟨"DoorTownModel", "hungOn", "(I)I"⟩, 32) := ⟨⟨by decide +kernel, by decide +kernel⟩, List.mem_of_getElem? (i := 782) (by decide +kernel), List.mem_of_getElem? (i := 986) (by decide +kernel), List.mem_of_getElem? (i := 987) (by decide +kernel)⟩
theorem lw_p36 : lw_okq (⟨"DoorTownModel", "isOne", "(I)Z"⟩, 32) := ⟨⟨by decide +kernel, by decide +kernel⟩, List.mem_of_getElem? (i := 782) (by decide +kernel), List.mem_of_getElem? (i := 994) (by decide +kernel), List.mem_of_getElem? (i := 995) (by decide +kernel)⟩
theorem lw_p37 : lw_okq (⟨"DoorTownModel", "gainOn", "(II)I"⟩, 32) := ⟨⟨by decide +kernel, by decide +kernel⟩, List.mem_of_getElem? (i := 782) (by decide +kernel), List.mem_of_getElem? (i := 998) (by decide +kernel), List.mem_of_getElem? (i := 999) (by decide +kernel)⟩
theorem lw_p38 : lw_okq (⟨"DoorTownModel", "isWall", "(I)Z"⟩, 32) := ⟨⟨by decide +kernel, by decide +kernel⟩, List.mem_of_getElem? (i := 782) (by decide +kernel), List.mem_of_getElem? (i := 1006) (by decide +kernel), List.mem_of_getElem? (i := 1007) (by decide +kernel)⟩
theorem lw_p39 : lw_okq (⟨"DoorTownModel", "puts", "(ZII)I"⟩, 32) := ⟨⟨by decide +kernel, by decide +kernel⟩, List.mem_of_getElem? (i := 782) (by decide +kernel), List.mem_of_getElem? (i := 1028) (by decide +kernel), List.mem_of_getElem? (i := 1029) (by decide +kernel)⟩
theorem lw_p40 : lw_okq (⟨"DoorTownModel", "hangs", "(II)I"⟩, 32) := ⟨⟨by decide +kernel, by decide +kernel⟩, List.mem_of_getElem? (i := 782) (by decide +kernel), List.mem_of_getElem? (i := 1053) (by decide +kernel), List.mem_of_getElem? (i := 1054) (by decide +kernel)⟩
theorem lw_p41 : lw_okq (⟨"DoorTownModel", "hangsOn", "(III)Z"⟩, 32) := ⟨⟨by decide +kernel, by decide +kernel⟩, List.mem_of_getElem? (i := 782) (by decide +kernel), List.mem_of_getElem? (i := 1057) (by decide +kernel), List.mem_of_getElem? (i := 1058) (by decide +kernel)⟩
theorem lw_p42 : lw_okq (⟨"DoorTownModel", "fillsOn", "(II)I"⟩, 32) := ⟨⟨by decide +kernel, by decide +kernel⟩, List.mem_of_getElem? (i := 782) (by decide +kernel), List.mem_of_getElem? (i := 1065) (by decide +kernel), List.mem_of_getElem? (i := 1066) (by decide +kernel)⟩
theorem lw_p43 : lw_okq (⟨"DoorTownModel", "stepsOn", "(III)I"⟩, 32) := ⟨⟨by decide +kernel, by decide +kernel⟩, List.mem_of_getElem? (i := 782) (by decide +kernel), List.mem_of_getElem? (i := 1073) (by decide +kernel), List.mem_of_getElem? (i := 1074) (by decide +kernel)⟩
theorem lw_p44 : lw_okq (⟨"DoorTownModel", "planGoes", "(I)V"⟩, 32) := ⟨⟨by decide +kernel, by decide +kernel⟩, List.mem_of_getElem? (i := 782) (by decide +kernel), List.mem_of_getElem? (i := 1089) (by decide +kernel), List.mem_of_getElem? (i := 1090) (by decide +kernel)⟩
theorem lw_p45 : lw_okq (⟨"DoorTownModel", "copies", "(II)V"⟩, 32) := ⟨⟨by decide +kernel, by decide +kernel⟩, List.mem_of_getElem? (i := 782) (by decide +kernel), List.mem_of_getElem? (i := 1093) (by decide +kernel), List.mem_of_getElem? (i := 1094) (by decide +kernel)⟩
theorem lw_p46 : lw_okq (⟨"DoorTownModel", "allOn", "(I)I"⟩, 32) := ⟨⟨by decide +kernel, by decide +kernel⟩, List.mem_of_getElem? (i := 782) (by decide +kernel), List.mem_of_getElem? (i := 1097) (by decide +kernel), List.mem_of_getElem? (i := 1098) (by decide +kernel)⟩
theorem lw_p47 : lw_okq (⟨"DoorTownModel", "stepsBy", "(IIII)I"⟩, 32) := ⟨⟨by decide +kernel, by decide +kernel⟩, List.mem_of_getElem? (i := 782) (by decide +kernel), List.mem_of_getElem? (i := 1112) (by decide +kernel), List.mem_of_getElem? (i := 1113) (by decide +kernel)⟩
def lw_privs_3 : List (MethodName × Nat) := [(⟨"DoorTownModel", "passesOn", "(III)Z"⟩, 32), (⟨"DoorTownModel", "doorOn", "(II)I"⟩, 32), (⟨"DoorTownModel", "letsOn", "(III)Z"⟩, 32), (⟨"DoorTownModel", "hungOn", "(I)I"⟩, 32), (⟨"DoorTownModel", "isOne", "(I)Z"⟩, 32), (⟨"DoorTownModel", "gainOn", "(II)I"⟩, 32), (⟨"DoorTownModel", "isWall", "(I)Z"⟩, 32), (⟨"DoorTownModel", "puts", "(ZII)I"⟩, 32), (⟨"DoorTownModel", "hangs", "(II)I"⟩, 32), (⟨"DoorTownModel", "hangsOn", "(III)Z"⟩, 32), (⟨"DoorTownModel", "fillsOn", "(II)I"⟩, 32), (⟨"DoorTownModel", "stepsOn", "(III)I"⟩, 32), (⟨"DoorTownModel", "planGoes", "(I)V"⟩, 32), (⟨"DoorTownModel", "copies", "(II)V"⟩, 32), (⟨"DoorTownModel", "allOn", "(I)I"⟩, 32), (⟨"DoorTownModel", "stepsBy", "(IIII)I"⟩, 32)]
theorem lw_r3 : ∀ q ∈ lw_privs_3, lw_okq q := List.forall_mem_cons.mpr ⟨lw_p32, List.forall_mem_cons.mpr ⟨lw_p33, List.forall_mem_cons.mpr ⟨lw_p34, List.forall_mem_cons.mpr ⟨lw_p35, List.forall_mem_cons.mpr ⟨lw_p36, List.forall_mem_cons.mpr ⟨lw_p37, List.forall_mem_cons.mpr ⟨lw_p38, List.forall_mem_cons.mpr ⟨lw_p39, List.forall_mem_cons.mpr ⟨lw_p40, List.forall_mem_cons.mpr ⟨lw_p41, List.forall_mem_cons.mpr ⟨lw_p42, List.forall_mem_cons.mpr ⟨lw_p43, List.forall_mem_cons.mpr ⟨lw_p44, List.forall_mem_cons.mpr ⟨lw_p45, List.forall_mem_cons.mpr ⟨lw_p46, List.forall_mem_cons.mpr ⟨lw_p47, fun _ h => absurd h List.not_mem_nil⟩⟩⟩⟩⟩⟩⟩⟩⟩⟩⟩⟩⟩⟩⟩⟩
theorem lw_p48 : lw_okq (⟨"DoorTownModel", "byJams", "(IIII)J"⟩, 32) := ⟨⟨by decide +kernel, by decide +kernel⟩, List.mem_of_getElem? (i := 782) (by decide +kernel), List.mem_of_getElem? (i := 1145) (by decide +kernel), List.mem_of_getElem? (i := 1146) (by decide +kernel)⟩
theorem lw_p49 : lw_okq (⟨"DoorTownModel", "isAsSeen", "(I)Z"⟩, 32) := ⟨⟨by decide +kernel, by decide +kernel⟩, List.mem_of_getElem? (i := 782) (by decide +kernel), List.mem_of_getElem? (i := 1169) (by decide +kernel), List.mem_of_getElem? (i := 1170) (by decide +kernel)⟩
theorem lw_p50 : lw_okq (⟨"DoorTownModel", "wallsOf", "(I)I"⟩, 32) := ⟨⟨by decide +kernel, by decide +kernel⟩, List.mem_of_getElem? (i := 782) (by decide +kernel), List.mem_of_getElem? (i := 1177) (by decide +kernel), List.mem_of_getElem? (i := 1178) (by decide +kernel)⟩
def lw_privs_4 : List (MethodName × Nat) := [(⟨"DoorTownModel", "byJams", "(IIII)J"⟩, 32), (⟨"DoorTownModel", "isAsSeen", "(I)Z"⟩, 32), (⟨"DoorTownModel", "wallsOf", "(I)I"⟩, 32)]
theorem lw_r4 : ∀ q ∈ lw_privs_4, lw_okq q := List.forall_mem_cons.mpr ⟨lw_p48, List.forall_mem_cons.mpr ⟨lw_p49, List.forall_mem_cons.mpr ⟨lw_p50, fun _ h => absurd h List.not_mem_nil⟩⟩⟩
def lw_privs : List (MethodName × Nat) := lw_privs_1 ++ (lw_privs_2 ++ (lw_privs_3 ++ (lw_privs_4)))
def lw_tbl : List Cond := k2_sels lw_privs ++ tables_1
theorem lw_privs_ok : ∀ q ∈ lw_privs, lw_okq q := by
  show ∀ q ∈ lw_privs_1 ++ (lw_privs_2 ++ (lw_privs_3 ++ (lw_privs_4))), lw_okq q
  exact List.forall_mem_append.mpr ⟨lw_r1, List.forall_mem_append.mpr ⟨lw_r2, List.forall_mem_append.mpr ⟨lw_r3, lw_r4⟩⟩⟩
end
section
def RX0 : String := "DoorTown$Reader"
def TX0 : u_T := fun k => match k with
  | 0 => ("DoorTown$Reader", "tape", "LDoorTown$Tape;", true)
  | 1 => ("DoorTown$Reader", "told", "LDoorTown$Town;", true)
  | 2 => ("DoorTown$Reader", "lines", "I", false)
  | 3 => ("DoorTown$Reader", "found", "I", false)
  | 4 => ("DoorTown$Reader", "foundAt", "I", false)
  | 5 => ("DoorTown$Reader", "roomsTold", "I", false)
  | _ => ("DoorTown$Reader", "planTold", "Z", false)
def tyX0 : Nat → FieldType := fun k => match k with
  | 0 => .object "DoorTown$Tape"
  | 1 => .object "DoorTown$Town"
  | 2 => .int
  | 3 => .int
  | 4 => .int
  | 5 => .int
  | _ => .boolean
abbrev wsX00 : List Cond := u_ws RX0 TX0 7
theorem nmX0 : ∀ a, a < 7 → ∀ b, b < 7 → a ≠ b → (TX0 a).2.1 ≠ (TX0 b).2.1 := by decide +kernel
theorem tyX0_ok : ∀ k, k < 7 → parseFieldDescriptor (TX0 k).2.2.1 = some (tyX0 k) := by decide +kernel
abbrev cX0_init : ByteArray := prog_2_method_1_code
def yX0_init : MethodName := ⟨RX0, "<init>", "()V"⟩
abbrev cX0_readAll : ByteArray := prog_2_method_2_code
def yX0_readAll : MethodName := ⟨RX0, "readAll", "()V"⟩
abbrev cX0_kindNamed : ByteArray := prog_2_method_3_code
def yX0_kindNamed : MethodName := ⟨RX0, "kindNamed", "()I"⟩
abbrev cX0_nameOfKind : ByteArray := prog_2_method_4_code
def yX0_nameOfKind : MethodName := ⟨RX0, "nameOfKind", "(I)Ljava/lang/String;"⟩
abbrev cX0_readOne : ByteArray := prog_2_method_5_code
def yX0_readOne : MethodName := ⟨RX0, "readOne", "(I)V"⟩
abbrev cX0_hangToldDoor : ByteArray := prog_2_method_6_code
def yX0_hangToldDoor : MethodName := ⟨RX0, "hangToldDoor", "()V"⟩
abbrev cX0_readWall : ByteArray := prog_2_method_7_code
def yX0_readWall : MethodName := ⟨RX0, "readWall", "()V"⟩
abbrev cX0_readRoom : ByteArray := prog_2_method_8_code
def yX0_readRoom : MethodName := ⟨RX0, "readRoom", "()V"⟩
abbrev cX0_readPlan : ByteArray := prog_2_method_9_code
def yX0_readPlan : MethodName := ⟨RX0, "readPlan", "()V"⟩
abbrev cX0_nextToken : ByteArray := prog_2_method_10_code
def yX0_nextToken : MethodName := ⟨RX0, "nextToken", "()Z"⟩
abbrev cX0_nextNumber : ByteArray := prog_2_method_11_code
def yX0_nextNumber : MethodName := ⟨RX0, "nextNumber", "(I)I"⟩
abbrev cX0_numberHere : ByteArray := prog_2_method_12_code
def yX0_numberHere : MethodName := ⟨RX0, "numberHere", "(I)I"⟩
abbrev cX0_takeSign : ByteArray := prog_2_method_13_code
def yX0_takeSign : MethodName := ⟨RX0, "takeSign", "()V"⟩
abbrev cX0_refuse : ByteArray := prog_2_method_14_code
def yX0_refuse : MethodName := ⟨RX0, "refuse", "(I)V"⟩
def RX1 : String := "DoorTown$Sheet"
def TX1 : u_T := fun k => match k with
  | 0 => ("DoorTown$Sheet", "cells", "[I", true)
  | 1 => ("DoorTown$Sheet", "lane", "I", false)
  | _ => ("DoorTown$Sheet", "size", "I", false)
def tyX1 : Nat → FieldType := fun k => match k with
  | 0 => .array .int
  | 1 => .int
  | _ => .int
abbrev wsX10 : List Cond := u_ws RX1 TX1 3
theorem nmX1 : ∀ a, a < 3 → ∀ b, b < 3 → a ≠ b → (TX1 a).2.1 ≠ (TX1 b).2.1 := by decide +kernel
theorem tyX1_ok : ∀ k, k < 3 → parseFieldDescriptor (TX1 k).2.2.1 = some (tyX1 k) := by decide +kernel
abbrev cX1_init : ByteArray := prog_3_method_1_code
def yX1_init : MethodName := ⟨RX1, "<init>", "()V"⟩
abbrev cX1_renew : ByteArray := prog_3_method_2_code
def yX1_renew : MethodName := ⟨RX1, "renew", "(II)V"⟩
abbrev cX1_faultAt : ByteArray := prog_3_method_3_code
def yX1_faultAt : MethodName := ⟨RX1, "faultAt", "(IJ)I"⟩
abbrev cX1_faultAtTwo : ByteArray := prog_3_method_4_code
def yX1_faultAtTwo : MethodName := ⟨RX1, "faultAtTwo", "(III)I"⟩
def RX2 : String := "DoorTown$Sightings"
def TX2 : u_T := fun k => match k with
  | 0 => ("DoorTown$Sightings", "who", "[I", true)
  | 1 => ("DoorTown$Sightings", "where", "[I", true)
  | 2 => ("DoorTown$Sightings", "reaches", "[Z", true)
  | _ => ("DoorTown$Sightings", "size", "I", false)
def tyX2 : Nat → FieldType := fun k => match k with
  | 0 => .array .int
  | 1 => .array .int
  | 2 => .array .boolean
  | _ => .int
abbrev wsX20 : List Cond := u_ws RX2 TX2 4
theorem nmX2 : ∀ a, a < 4 → ∀ b, b < 4 → a ≠ b → (TX2 a).2.1 ≠ (TX2 b).2.1 := by decide +kernel
theorem tyX2_ok : ∀ k, k < 4 → parseFieldDescriptor (TX2 k).2.2.1 = some (tyX2 k) := by decide +kernel
abbrev cX2_init : ByteArray := prog_4_method_1_code
def yX2_init : MethodName := ⟨RX2, "<init>", "()V"⟩
abbrev cX2_note : ByteArray := prog_4_method_2_code
def yX2_note : MethodName := ⟨RX2, "note", "(IIZ)Z"⟩
abbrev cX2_allHoldIn : ByteArray := prog_4_method_3_code
def yX2_allHoldIn : MethodName := ⟨RX2, "allHoldIn", "(LDoorTown$Town;)Z"⟩
def RX3 : String := "DoorTown$Tape"
def TX3 : u_T := fun k => match k with
  | 0 => ("DoorTown$Tape", "bytes", "[B", true)
  | 1 => ("DoorTown$Tape", "length", "I", false)
  | 2 => ("DoorTown$Tape", "token", "I", false)
  | 3 => ("DoorTown$Tape", "place", "I", false)
  | 4 => ("DoorTown$Tape", "value", "I", false)
  | _ => ("DoorTown$Tape", "cursor", "I", false)
def tyX3 : Nat → FieldType := fun k => match k with
  | 0 => .array .byte
  | 1 => .int
  | 2 => .int
  | 3 => .int
  | 4 => .int
  | _ => .int
abbrev wsX30 : List Cond := u_ws RX3 TX3 6
theorem nmX3 : ∀ a, a < 6 → ∀ b, b < 6 → a ≠ b → (TX3 a).2.1 ≠ (TX3 b).2.1 := by decide +kernel
theorem tyX3_ok : ∀ k, k < 6 → parseFieldDescriptor (TX3 k).2.2.1 = some (tyX3 k) := by decide +kernel
abbrev cX3_init : ByteArray := prog_5_method_1_code
def yX3_init : MethodName := ⟨RX3, "<init>", "()V"⟩
abbrev cX3_append : ByteArray := prog_5_method_2_code
def yX3_append : MethodName := ⟨RX3, "append", "(I)Z"⟩
abbrev cX3_rewind : ByteArray := prog_5_method_3_code
def yX3_rewind : MethodName := ⟨RX3, "rewind", "()V"⟩
abbrev cX3_readToken : ByteArray := prog_5_method_4_code
def yX3_readToken : MethodName := ⟨RX3, "readToken", "()V"⟩
abbrev cX3_tokenOf : ByteArray := prog_5_method_5_code
def yX3_tokenOf : MethodName := ⟨RX3, "tokenOf", "(I)I"⟩
abbrev cX3_isName : ByteArray := prog_5_method_6_code
def yX3_isName : MethodName := ⟨RX3, "isName", "(Ljava/lang/String;)Z"⟩
abbrev cX3_byteAt : ByteArray := prog_5_method_7_code
def yX3_byteAt : MethodName := ⟨RX3, "byteAt", "(I)I"⟩
def RX4 : String := "DoorTown$Town"
def TX4 : u_T := fun k => match k with
  | 0 => ("DoorTown$Town", "kind", "[I", true)
  | 1 => ("DoorTown$Town", "house", "[I", true)
  | 2 => ("DoorTown$Town", "home", "[I", true)
  | 3 => ("DoorTown$Town", "at", "[I", true)
  | 4 => ("DoorTown$Town", "sideA", "[I", true)
  | 5 => ("DoorTown$Town", "sideB", "[I", true)
  | 6 => ("DoorTown$Town", "owner", "[I", true)
  | 7 => ("DoorTown$Town", "worth", "[I", true)
  | 8 => ("DoorTown$Town", "actOne", "[I", true)
  | 9 => ("DoorTown$Town", "actWall", "[I", true)
  | 10 => ("DoorTown$Town", "people", "I", false)
  | 11 => ("DoorTown$Town", "walls", "I", false)
  | _ => ("DoorTown$Town", "acts", "I", false)
def tyX4 : Nat → FieldType := fun k => match k with
  | 0 => .array .int
  | 1 => .array .int
  | 2 => .array .int
  | 3 => .array .int
  | 4 => .array .int
  | 5 => .array .int
  | 6 => .array .int
  | 7 => .array .int
  | 8 => .array .int
  | 9 => .array .int
  | 10 => .int
  | 11 => .int
  | _ => .int
abbrev wsX40 : List Cond := u_ws RX4 TX4 13
theorem nmX4 : ∀ a, a < 13 → ∀ b, b < 13 → a ≠ b → (TX4 a).2.1 ≠ (TX4 b).2.1 := by decide +kernel
theorem tyX4_ok : ∀ k, k < 13 → parseFieldDescriptor (TX4 k).2.2.1 = some (tyX4 k) := by decide +kernel
abbrev cX4_init : ByteArray := prog_6_method_1_code
def yX4_init : MethodName := ⟨RX4, "<init>", "()V"⟩
abbrev cX4_clear : ByteArray := prog_6_method_2_code
def yX4_clear : MethodName := ⟨RX4, "clear", "()V"⟩
abbrev cX4_become : ByteArray := prog_6_method_3_code
def yX4_become : MethodName := ⟨RX4, "become", "(LDoorTown$Town;)V"⟩
abbrev cX4_isOne : ByteArray := prog_6_method_4_code
def yX4_isOne : MethodName := ⟨RX4, "isOne", "(I)Z"⟩
abbrev cX4_isWall : ByteArray := prog_6_method_5_code
def yX4_isWall : MethodName := ⟨RX4, "isWall", "(I)Z"⟩
abbrev cX4_addOne : ByteArray := prog_6_method_6_code
def yX4_addOne : MethodName := ⟨RX4, "addOne", "(III)Z"⟩
abbrev cX4_addWall : ByteArray := prog_6_method_7_code
def yX4_addWall : MethodName := ⟨RX4, "addWall", "(II)Z"⟩
abbrev cX4_addAct : ByteArray := prog_6_method_8_code
def yX4_addAct : MethodName := ⟨RX4, "addAct", "(II)Z"⟩
abbrev cX4_namesMissing : ByteArray := prog_6_method_9_code
def yX4_namesMissing : MethodName := ⟨RX4, "namesMissing", "()Z"⟩
abbrev cX4_canHang : ByteArray := prog_6_method_10_code
def yX4_canHang : MethodName := ⟨RX4, "canHang", "(II)Z"⟩
abbrev cX4_hangDoor : ByteArray := prog_6_method_11_code
def yX4_hangDoor : MethodName := ⟨RX4, "hangDoor", "(II)Z"⟩
abbrev cX4_takeDoor : ByteArray := prog_6_method_12_code
def yX4_takeDoor : MethodName := ⟨RX4, "takeDoor", "(II)I"⟩
abbrev cX4_moveDoor : ByteArray := prog_6_method_13_code
def yX4_moveDoor : MethodName := ⟨RX4, "moveDoor", "(II)Z"⟩
abbrev cX4_doorState : ByteArray := prog_6_method_14_code
def yX4_doorState : MethodName := ⟨RX4, "doorState", "(I)I"⟩
abbrev cX4_doorsAt : ByteArray := prog_6_method_15_code
def yX4_doorsAt : MethodName := ⟨RX4, "doorsAt", "(I)I"⟩
abbrev cX4_hungWalls : ByteArray := prog_6_method_16_code
def yX4_hungWalls : MethodName := ⟨RX4, "hungWalls", "()I"⟩
abbrev cX4_lets : ByteArray := prog_6_method_17_code
def yX4_lets : MethodName := ⟨RX4, "lets", "(II)Z"⟩
abbrev cX4_whomLets : ByteArray := prog_6_method_18_code
def yX4_whomLets : MethodName := ⟨RX4, "whomLets", "(I)I"⟩
abbrev cX4_passed : ByteArray := prog_6_method_19_code
def yX4_passed : MethodName := ⟨RX4, "passed", "(I)I"⟩
abbrev cX4_passedIfHung : ByteArray := prog_6_method_20_code
def yX4_passedIfHung : MethodName := ⟨RX4, "passedIfHung", "(III)I"⟩
abbrev cX4_nextTo : ByteArray := prog_6_method_21_code
def yX4_nextTo : MethodName := ⟨RX4, "nextTo", "(II)I"⟩
abbrev cX4_spread : ByteArray := prog_6_method_22_code
def yX4_spread : MethodName := ⟨RX4, "spread", "(II)I"⟩
abbrev cX4_distance : ByteArray := prog_6_method_23_code
def yX4_distance : MethodName := ⟨RX4, "distance", "(III)I"⟩
abbrev cX4_distanceIfHung : ByteArray := prog_6_method_24_code
def yX4_distanceIfHung : MethodName := ⟨RX4, "distanceIfHung", "(IIII)I"⟩
abbrev cX4_gainIfHung : ByteArray := prog_6_method_25_code
def yX4_gainIfHung : MethodName := ⟨RX4, "gainIfHung", "(II)I"⟩
abbrev cX4_reached : ByteArray := prog_6_method_26_code
def yX4_reached : MethodName := ⟨RX4, "reached", "(I)I"⟩
abbrev cX4_wallOnWay : ByteArray := prog_6_method_27_code
def yX4_wallOnWay : MethodName := ⟨RX4, "wallOnWay", "(III)I"⟩
abbrev cX4_firstTowards : ByteArray := prog_6_method_28_code
def yX4_firstTowards : MethodName := ⟨RX4, "firstTowards", "(III)I"⟩
abbrev cX4_otherSide : ByteArray := prog_6_method_29_code
def yX4_otherSide : MethodName := ⟨RX4, "otherSide", "(II)I"⟩
abbrev cX4_unreached : ByteArray := prog_6_method_30_code
def yX4_unreached : MethodName := ⟨RX4, "unreached", "()I"⟩
abbrev cX4_whoReaches : ByteArray := prog_6_method_31_code
def yX4_whoReaches : MethodName := ⟨RX4, "whoReaches", "(I)I"⟩
abbrev cX4_reachedByAll : ByteArray := prog_6_method_32_code
def yX4_reachedByAll : MethodName := ⟨RX4, "reachedByAll", "()I"⟩
abbrev cX4_worthOf : ByteArray := prog_6_method_33_code
def yX4_worthOf : MethodName := ⟨RX4, "worthOf", "(I)I"⟩
abbrev cX4_gainOf : ByteArray := prog_6_method_34_code
def yX4_gainOf : MethodName := ⟨RX4, "gainOf", "(II)I"⟩
abbrev cX4_leastShutting : ByteArray := prog_6_method_35_code
def yX4_leastShutting : MethodName := ⟨RX4, "leastShutting", "(II)I"⟩
abbrev cX4_followPlan : ByteArray := prog_6_method_36_code
def yX4_followPlan : MethodName := ⟨RX4, "followPlan", "(I)I"⟩
abbrev cX4_driftOnce : ByteArray := prog_6_method_37_code
def yX4_driftOnce : MethodName := ⟨RX4, "driftOnce", "(I)V"⟩
abbrev cX4_jamWeights : ByteArray := prog_6_method_38_code
def yX4_jamWeights : MethodName := ⟨RX4, "jamWeights", "()J"⟩
abbrev cX4_reachedWhenJammed : ByteArray := prog_6_method_39_code
def yX4_reachedWhenJammed : MethodName := ⟨RX4, "reachedWhenJammed", "(III)J"⟩
abbrev cX4_power : ByteArray := prog_6_method_40_code
def yX4_power : MethodName := ⟨RX4, "power", "(II)J"⟩
def RX5 : String := "DoorTown"
def TX5 : u_T := fun k => match k with
  | 0 => ("DoorTown", "reader", "LDoorTown$Reader;", true)
  | 1 => ("DoorTown", "town", "LDoorTown$Town;", true)
  | 2 => ("DoorTown", "trial", "LDoorTown$Town;", true)
  | 3 => ("DoorTown", "seen", "LDoorTown$Sightings;", true)
  | 4 => ("DoorTown", "images", "[LDoorTown$Town;", true)
  | 5 => ("DoorTown", "kept", "[Z", true)
  | 6 => ("DoorTown", "sheets", "[LDoorTown$Sheet;", true)
  | 7 => ("DoorTown", "reaching", "[I", true)
  | 8 => ("DoorTown", "textFault", "I", false)
  | _ => ("DoorTown", "readFault", "I", false)
def tyX5 : Nat → FieldType := fun k => match k with
  | 0 => .object "DoorTown$Reader"
  | 1 => .object "DoorTown$Town"
  | 2 => .object "DoorTown$Town"
  | 3 => .object "DoorTown$Sightings"
  | 4 => .array (.object "DoorTown$Town")
  | 5 => .array .boolean
  | 6 => .array (.object "DoorTown$Sheet")
  | 7 => .array .int
  | 8 => .int
  | _ => .int
abbrev wsX50 : List Cond := u_ws RX5 TX5 10
theorem nmX5 : ∀ a, a < 10 → ∀ b, b < 10 → a ≠ b → (TX5 a).2.1 ≠ (TX5 b).2.1 := by decide +kernel
theorem tyX5_ok : ∀ k, k < 10 → parseFieldDescriptor (TX5 k).2.2.1 = some (tyX5 k) := by decide +kernel
abbrev cX5_init : ByteArray := prog_1_method_1_code
def yX5_init : MethodName := ⟨RX5, "<init>", "()V"⟩
abbrev cX5_feed : ByteArray := prog_1_method_2_code
def yX5_feed : MethodName := ⟨RX5, "feed", "(I)I"⟩
abbrev cX5_end : ByteArray := prog_1_method_3_code
def yX5_end : MethodName := ⟨RX5, "end", "(I)I"⟩
abbrev cX5_text : ByteArray := prog_1_method_4_code
def yX5_text : MethodName := ⟨RX5, "text", "()I"⟩
abbrev cX5_fault : ByteArray := prog_1_method_5_code
def yX5_fault : MethodName := ⟨RX5, "fault", "()I"⟩
abbrev cX5_rule : ByteArray := prog_1_method_6_code
def yX5_rule : MethodName := ⟨RX5, "rule", "(I)I"⟩
abbrev cX5_one : ByteArray := prog_1_method_7_code
def yX5_one : MethodName := ⟨RX5, "one", "(II)I"⟩
abbrev cX5_wall : ByteArray := prog_1_method_8_code
def yX5_wall : MethodName := ⟨RX5, "wall", "(II)I"⟩
abbrev cX5_room : ByteArray := prog_1_method_9_code
def yX5_room : MethodName := ⟨RX5, "room", "(II)I"⟩
abbrev cX5_act : ByteArray := prog_1_method_10_code
def yX5_act : MethodName := ⟨RX5, "act", "(II)I"⟩
abbrev cX5_alter : ByteArray := prog_1_method_11_code
def yX5_alter : MethodName := ⟨RX5, "alter", "(III)I"⟩
abbrev cX5_price : ByteArray := prog_1_method_12_code
def yX5_price : MethodName := ⟨RX5, "price", "(II)I"⟩
abbrev cX5_build : ByteArray := prog_1_method_13_code
def yX5_build : MethodName := ⟨RX5, "build", "(II)I"⟩
abbrev cX5_plan : ByteArray := prog_1_method_14_code
def yX5_plan : MethodName := ⟨RX5, "plan", "(II)I"⟩
abbrev cX5_cut : ByteArray := prog_1_method_15_code
def yX5_cut : MethodName := ⟨RX5, "cut", "(I)I"⟩
abbrev cX5_hang : ByteArray := prog_1_method_16_code
def yX5_hang : MethodName := ⟨RX5, "hang", "(II)I"⟩
abbrev cX5_fill : ByteArray := prog_1_method_17_code
def yX5_fill : MethodName := ⟨RX5, "fill", "(I)I"⟩
abbrev cX5_steps : ByteArray := prog_1_method_18_code
def yX5_steps : MethodName := ⟨RX5, "steps", "(II)I"⟩
abbrev cX5_way : ByteArray := prog_1_method_19_code
def yX5_way : MethodName := ⟨RX5, "way", "(III)I"⟩
abbrev cX5_meet : ByteArray := prog_1_method_20_code
def yX5_meet : MethodName := ⟨RX5, "meet", "(II)I"⟩
abbrev cX5_runs : ByteArray := prog_1_method_21_code
def yX5_runs : MethodName := ⟨RX5, "runs", "(I)I"⟩
abbrev cX5_ahead : ByteArray := prog_1_method_22_code
def yX5_ahead : MethodName := ⟨RX5, "ahead", "(I)I"⟩
abbrev cX5_best : ByteArray := prog_1_method_23_code
def yX5_best : MethodName := ⟨RX5, "best", "(III)I"⟩
abbrev cX5_friend : ByteArray := prog_1_method_24_code
def yX5_friend : MethodName := ⟨RX5, "friend", "(III)I"⟩
abbrev cX5_gain : ByteArray := prog_1_method_25_code
def yX5_gain : MethodName := ⟨RX5, "gain", "(II)I"⟩
abbrev cX5_shut : ByteArray := prog_1_method_26_code
def yX5_shut : MethodName := ⟨RX5, "shut", "(III)I"⟩
abbrev cX5_leave : ByteArray := prog_1_method_27_code
def yX5_leave : MethodName := ⟨RX5, "leave", "(I)I"⟩
abbrev cX5_kindly : ByteArray := prog_1_method_28_code
def yX5_kindly : MethodName := ⟨RX5, "kindly", "(II)I"⟩
abbrev cX5_dear : ByteArray := prog_1_method_29_code
def yX5_dear : MethodName := ⟨RX5, "dear", "(II)I"⟩
abbrev cX5_luck : ByteArray := prog_1_method_30_code
def yX5_luck : MethodName := ⟨RX5, "luck", "(IIII)J"⟩
abbrev cX5_mean : ByteArray := prog_1_method_31_code
def yX5_mean : MethodName := ⟨RX5, "mean", "(III)J"⟩
abbrev cX5_see : ByteArray := prog_1_method_32_code
def yX5_see : MethodName := ⟨RX5, "see", "(IIZ)I"⟩
abbrev cX5_forget : ByteArray := prog_1_method_33_code
def yX5_forget : MethodName := ⟨RX5, "forget", "(I)I"⟩
abbrev cX5_kinds : ByteArray := prog_1_method_34_code
def yX5_kinds : MethodName := ⟨RX5, "kinds", "(I)I"⟩
abbrev cX5_walls : ByteArray := prog_1_method_35_code
def yX5_walls : MethodName := ⟨RX5, "walls", "(I)I"⟩
abbrev cX5_ask : ByteArray := prog_1_method_36_code
def yX5_ask : MethodName := ⟨RX5, "ask", "(II)I"⟩
abbrev cX5_drift : ByteArray := prog_1_method_37_code
def yX5_drift : MethodName := ⟨RX5, "drift", "(III)I"⟩
abbrev cX5_keep : ByteArray := prog_1_method_38_code
def yX5_keep : MethodName := ⟨RX5, "keep", "(I)I"⟩
abbrev cX5_back : ByteArray := prog_1_method_39_code
def yX5_back : MethodName := ⟨RX5, "back", "(I)I"⟩
abbrev cX5_sheet : ByteArray := prog_1_method_40_code
def yX5_sheet : MethodName := ⟨RX5, "sheet", "(III)I"⟩
abbrev cX5_lay : ByteArray := prog_1_method_41_code
def yX5_lay : MethodName := ⟨RX5, "lay", "(III)I"⟩
abbrev cX5_read : ByteArray := prog_1_method_42_code
def yX5_read : MethodName := ⟨RX5, "read", "(IIII)I"⟩
abbrev cX5_torn : ByteArray := prog_1_method_43_code
def yX5_torn : MethodName := ⟨RX5, "torn", "()I"⟩
abbrev cX5_count : ByteArray := prog_1_method_44_code
def yX5_count : MethodName := ⟨RX5, "count", "(I)I"⟩
abbrev cX5_isUpTo : ByteArray := prog_1_method_45_code
def yX5_isUpTo : MethodName := ⟨RX5, "isUpTo", "(II)Z"⟩
abbrev cX5_isRoom : ByteArray := prog_1_method_46_code
def yX5_isRoom : MethodName := ⟨RX5, "isRoom", "(I)Z"⟩
abbrev cX5_hasBit : ByteArray := prog_1_method_47_code
def yX5_hasBit : MethodName := ⟨RX5, "hasBit", "(II)Z"⟩
abbrev cX5_replaced : ByteArray := prog_1_method_48_code
def yX5_replaced : MethodName := ⟨RX5, "replaced", "([IIII)I"⟩
abbrev cX5_firstMissing : ByteArray := prog_1_method_49_code
def yX5_firstMissing : MethodName := ⟨RX5, "firstMissing", "(II)I"⟩
abbrev cX5_inLowestTerms : ByteArray := prog_1_method_50_code
def yX5_inLowestTerms : MethodName := ⟨RX5, "inLowestTerms", "(JJI)J"⟩
abbrev cX5_narrowed : ByteArray := prog_1_method_51_code
def yX5_narrowed : MethodName := ⟨RX5, "narrowed", "(II)I"⟩
abbrev cX5_reachedByPlan : ByteArray := prog_1_method_52_code
def yX5_reachedByPlan : MethodName := ⟨RX5, "reachedByPlan", "(I)I"⟩
abbrev cX5_wallsAsSeen : ByteArray := prog_1_method_53_code
def yX5_wallsAsSeen : MethodName := ⟨RX5, "wallsAsSeen", "(I)I"⟩
abbrev cX5_countReaching : ByteArray := prog_1_method_54_code
def yX5_countReaching : MethodName := ⟨RX5, "countReaching", "(III)V"⟩
def RX6 : String := "DoorTownModel"
def TX6 : u_T := fun k => match k with
  | 0 => ("DoorTownModel", "state", "[I", true)
  | 1 => ("DoorTownModel", "oneMany", "I", false)
  | 2 => ("DoorTownModel", "readPage", "[I", true)
  | 3 => ("DoorTownModel", "readOnes", "I", false)
  | 4 => ("DoorTownModel", "hungTold", "I", false)
  | 5 => ("DoorTownModel", "roomsTold", "I", false)
  | 6 => ("DoorTownModel", "isPlanTold", "Z", false)
  | 7 => ("DoorTownModel", "highOne", "I", false)
  | 8 => ("DoorTownModel", "highWall", "I", false)
  | 9 => ("DoorTownModel", "tape", "[I", true)
  | 10 => ("DoorTownModel", "taped", "I", false)
  | 11 => ("DoorTownModel", "fault", "I", false)
  | 12 => ("DoorTownModel", "broken", "I", false)
  | 13 => ("DoorTownModel", "brokenAt", "I", false)
  | 14 => ("DoorTownModel", "spot", "I", false)
  | 15 => ("DoorTownModel", "here", "I", false)
  | 16 => ("DoorTownModel", "token", "I", false)
  | 17 => ("DoorTownModel", "value", "I", false)
  | 18 => ("DoorTownModel", "cuts", "[I", true)
  | 19 => ("DoorTownModel", "letters", "[I", true)
  | 20 => ("DoorTownModel", "jammed", "I", false)
  | 21 => ("DoorTownModel", "far", "[I", true)
  | 22 => ("DoorTownModel", "cameMany", "I", false)
  | 23 => ("DoorTownModel", "firstNot", "I", false)
  | 24 => ("DoorTownModel", "seen", "[I", true)
  | 25 => ("DoorTownModel", "seenMany", "I", false)
  | 26 => ("DoorTownModel", "reachBy", "[I", true)
  | 27 => ("DoorTownModel", "isKept", "[Z", true)
  | 28 => ("DoorTownModel", "lanes", "[I", true)
  | 29 => ("DoorTownModel", "lengths", "[I", true)
  | 30 => ("DoorTownModel", "cells", "[I", true)
  | _ => ("DoorTownModel", "torn", "I", false)
def tyX6 : Nat → FieldType := fun k => match k with
  | 0 => .array .int
  | 1 => .int
  | 2 => .array .int
  | 3 => .int
  | 4 => .int
  | 5 => .int
  | 6 => .boolean
  | 7 => .int
  | 8 => .int
  | 9 => .array .int
  | 10 => .int
  | 11 => .int
  | 12 => .int
  | 13 => .int
  | 14 => .int
  | 15 => .int
  | 16 => .int
  | 17 => .int
  | 18 => .array .int
  | 19 => .array .int
  | 20 => .int
  | 21 => .array .int
  | 22 => .int
  | 23 => .int
  | 24 => .array .int
  | 25 => .int
  | 26 => .array .int
  | 27 => .array .boolean
  | 28 => .array .int
  | 29 => .array .int
  | 30 => .array .int
  | _ => .int
abbrev wsX60 : List Cond := u_ws RX6 TX6 32
theorem nmX6 : ∀ a, a < 32 → ∀ b, b < 32 → a ≠ b → (TX6 a).2.1 ≠ (TX6 b).2.1 := by decide +kernel
theorem tyX6_ok : ∀ k, k < 32 → parseFieldDescriptor (TX6 k).2.2.1 = some (tyX6 k) := by decide +kernel
abbrev cX6_init : ByteArray := prog_8_method_1_code
def yX6_init : MethodName := ⟨RX6, "<init>", "()V"⟩
abbrev cX6_in : ByteArray := prog_8_method_3_code
def yX6_in : MethodName := ⟨RX6, "in", "(JJJ)Z"⟩
abbrev cX6_feed : ByteArray := prog_8_method_4_code
def yX6_feed : MethodName := ⟨RX6, "feed", "(I)I"⟩
abbrev cX6_end : ByteArray := prog_8_method_5_code
def yX6_end : MethodName := ⟨RX6, "end", "(I)I"⟩
abbrev cX6_byteAt : ByteArray := prog_8_method_6_code
def yX6_byteAt : MethodName := ⟨RX6, "byteAt", "(I)I"⟩
abbrev cX6_fails : ByteArray := prog_8_method_7_code
def yX6_fails : MethodName := ⟨RX6, "fails", "(I)V"⟩
abbrev cX6_nameHere : ByteArray := prog_8_method_8_code
def yX6_nameHere : MethodName := ⟨RX6, "nameHere", "()I"⟩
abbrev cX6_step : ByteArray := prog_8_method_9_code
def yX6_step : MethodName := ⟨RX6, "step", "()V"⟩
abbrev cX6_other : ByteArray := prog_8_method_10_code
def yX6_other : MethodName := ⟨RX6, "other", "(III)I"⟩
abbrev cX6_wallHere : ByteArray := prog_8_method_11_code
def yX6_wallHere : MethodName := ⟨RX6, "wallHere", "(I)I"⟩
abbrev cX6_readOne : ByteArray := prog_8_method_12_code
def yX6_readOne : MethodName := ⟨RX6, "readOne", "(I)V"⟩
abbrev cX6_readWall : ByteArray := prog_8_method_13_code
def yX6_readWall : MethodName := ⟨RX6, "readWall", "()V"⟩
abbrev cX6_readPlan : ByteArray := prog_8_method_14_code
def yX6_readPlan : MethodName := ⟨RX6, "readPlan", "()V"⟩
abbrev cX6_readMore : ByteArray := prog_8_method_15_code
def yX6_readMore : MethodName := ⟨RX6, "readMore", "(I)V"⟩
abbrev cX6_readLine : ByteArray := prog_8_method_16_code
def yX6_readLine : MethodName := ⟨RX6, "readLine", "()V"⟩
abbrev cX6_text : ByteArray := prog_8_method_17_code
def yX6_text : MethodName := ⟨RX6, "text", "()I"⟩
abbrev cX6_fault : ByteArray := prog_8_method_18_code
def yX6_fault : MethodName := ⟨RX6, "fault", "()I"⟩
abbrev cX6_isOne : ByteArray := prog_8_method_19_code
def yX6_isOne : MethodName := ⟨RX6, "isOne", "(I)Z"⟩
abbrev cX6_isWall : ByteArray := prog_8_method_20_code
def yX6_isWall : MethodName := ⟨RX6, "isWall", "(I)Z"⟩
abbrev cX6_isRoom : ByteArray := prog_8_method_21_code
def yX6_isRoom : MethodName := ⟨RX6, "isRoom", "(I)Z"⟩
abbrev cX6_doorOn : ByteArray := prog_8_method_22_code
def yX6_doorOn : MethodName := ⟨RX6, "doorOn", "(II)I"⟩
abbrev cX6_letsOn : ByteArray := prog_8_method_23_code
def yX6_letsOn : MethodName := ⟨RX6, "letsOn", "(III)Z"⟩
abbrev cX6_passesOn : ByteArray := prog_8_method_24_code
def yX6_passesOn : MethodName := ⟨RX6, "passesOn", "(III)Z"⟩
abbrev cX6_goesFrom : ByteArray := prog_8_method_25_code
def yX6_goesFrom : MethodName := ⟨RX6, "goesFrom", "(III)I"⟩
abbrev cX6_reachesOn : ByteArray := prog_8_method_26_code
def yX6_reachesOn : MethodName := ⟨RX6, "reachesOn", "(II)I"⟩
abbrev cX6_gainOn : ByteArray := prog_8_method_27_code
def yX6_gainOn : MethodName := ⟨RX6, "gainOn", "(II)I"⟩
abbrev cX6_bitsOf : ByteArray := prog_8_method_28_code
def yX6_bitsOf : MethodName := ⟨RX6, "bitsOf", "(I)I"⟩
abbrev cX6_allOn : ByteArray := prog_8_method_29_code
def yX6_allOn : MethodName := ⟨RX6, "allOn", "(I)I"⟩
abbrev cX6_hungOn : ByteArray := prog_8_method_30_code
def yX6_hungOn : MethodName := ⟨RX6, "hungOn", "(I)I"⟩
abbrev cX6_isFreeOn : ByteArray := prog_8_method_31_code
def yX6_isFreeOn : MethodName := ⟨RX6, "isFreeOn", "(II)Z"⟩
abbrev cX6_whoReaches : ByteArray := prog_8_method_32_code
def yX6_whoReaches : MethodName := ⟨RX6, "whoReaches", "(I)I"⟩
abbrev cX6_rule : ByteArray := prog_8_method_33_code
def yX6_rule : MethodName := ⟨RX6, "rule", "(I)I"⟩
abbrev cX6_one : ByteArray := prog_8_method_34_code
def yX6_one : MethodName := ⟨RX6, "one", "(II)I"⟩
abbrev cX6_wall : ByteArray := prog_8_method_35_code
def yX6_wall : MethodName := ⟨RX6, "wall", "(II)I"⟩
abbrev cX6_room : ByteArray := prog_8_method_36_code
def yX6_room : MethodName := ⟨RX6, "room", "(II)I"⟩
abbrev cX6_act : ByteArray := prog_8_method_37_code
def yX6_act : MethodName := ⟨RX6, "act", "(II)I"⟩
abbrev cX6_puts : ByteArray := prog_8_method_38_code
def yX6_puts : MethodName := ⟨RX6, "puts", "(ZII)I"⟩
abbrev cX6_alter : ByteArray := prog_8_method_39_code
def yX6_alter : MethodName := ⟨RX6, "alter", "(III)I"⟩
abbrev cX6_price : ByteArray := prog_8_method_40_code
def yX6_price : MethodName := ⟨RX6, "price", "(II)I"⟩
abbrev cX6_build : ByteArray := prog_8_method_41_code
def yX6_build : MethodName := ⟨RX6, "build", "(II)I"⟩
abbrev cX6_plan : ByteArray := prog_8_method_42_code
def yX6_plan : MethodName := ⟨RX6, "plan", "(II)I"⟩
abbrev cX6_cut : ByteArray := prog_8_method_43_code
def yX6_cut : MethodName := ⟨RX6, "cut", "(I)I"⟩
abbrev cX6_hangsOn : ByteArray := prog_8_method_44_code
def yX6_hangsOn : MethodName := ⟨RX6, "hangsOn", "(III)Z"⟩
abbrev cX6_hangs : ByteArray := prog_8_method_45_code
def yX6_hangs : MethodName := ⟨RX6, "hangs", "(II)I"⟩
abbrev cX6_hang : ByteArray := prog_8_method_46_code
def yX6_hang : MethodName := ⟨RX6, "hang", "(II)I"⟩
abbrev cX6_fillsOn : ByteArray := prog_8_method_47_code
def yX6_fillsOn : MethodName := ⟨RX6, "fillsOn", "(II)I"⟩
abbrev cX6_fill : ByteArray := prog_8_method_48_code
def yX6_fill : MethodName := ⟨RX6, "fill", "(I)I"⟩
abbrev cX6_stepsOn : ByteArray := prog_8_method_49_code
def yX6_stepsOn : MethodName := ⟨RX6, "stepsOn", "(III)I"⟩
abbrev cX6_steps : ByteArray := prog_8_method_50_code
def yX6_steps : MethodName := ⟨RX6, "steps", "(II)I"⟩
abbrev cX6_way : ByteArray := prog_8_method_51_code
def yX6_way : MethodName := ⟨RX6, "way", "(III)I"⟩
abbrev cX6_meet : ByteArray := prog_8_method_52_code
def yX6_meet : MethodName := ⟨RX6, "meet", "(II)I"⟩
abbrev cX6_copies : ByteArray := prog_8_method_53_code
def yX6_copies : MethodName := ⟨RX6, "copies", "(II)V"⟩
abbrev cX6_planGoes : ByteArray := prog_8_method_54_code
def yX6_planGoes : MethodName := ⟨RX6, "planGoes", "(I)V"⟩
abbrev cX6_runs : ByteArray := prog_8_method_55_code
def yX6_runs : MethodName := ⟨RX6, "runs", "(I)I"⟩
abbrev cX6_ahead : ByteArray := prog_8_method_56_code
def yX6_ahead : MethodName := ⟨RX6, "ahead", "(I)I"⟩
abbrev cX6_stepsBy : ByteArray := prog_8_method_57_code
def yX6_stepsBy : MethodName := ⟨RX6, "stepsBy", "(IIII)I"⟩
abbrev cX6_best : ByteArray := prog_8_method_58_code
def yX6_best : MethodName := ⟨RX6, "best", "(III)I"⟩
abbrev cX6_friend : ByteArray := prog_8_method_59_code
def yX6_friend : MethodName := ⟨RX6, "friend", "(III)I"⟩
abbrev cX6_gain : ByteArray := prog_8_method_60_code
def yX6_gain : MethodName := ⟨RX6, "gain", "(II)I"⟩
abbrev cX6_shut : ByteArray := prog_8_method_61_code
def yX6_shut : MethodName := ⟨RX6, "shut", "(III)I"⟩
abbrev cX6_leave : ByteArray := prog_8_method_62_code
def yX6_leave : MethodName := ⟨RX6, "leave", "(I)I"⟩
abbrev cX6_kindly : ByteArray := prog_8_method_63_code
def yX6_kindly : MethodName := ⟨RX6, "kindly", "(II)I"⟩
abbrev cX6_dear : ByteArray := prog_8_method_64_code
def yX6_dear : MethodName := ⟨RX6, "dear", "(II)I"⟩
abbrev cX6_lowest : ByteArray := prog_8_method_65_code
def yX6_lowest : MethodName := ⟨RX6, "lowest", "(JJI)J"⟩
abbrev cX6_byJams : ByteArray := prog_8_method_66_code
def yX6_byJams : MethodName := ⟨RX6, "byJams", "(IIII)J"⟩
abbrev cX6_luck : ByteArray := prog_8_method_67_code
def yX6_luck : MethodName := ⟨RX6, "luck", "(IIII)J"⟩
abbrev cX6_mean : ByteArray := prog_8_method_68_code
def yX6_mean : MethodName := ⟨RX6, "mean", "(III)J"⟩
abbrev cX6_see : ByteArray := prog_8_method_69_code
def yX6_see : MethodName := ⟨RX6, "see", "(IIZ)I"⟩
abbrev cX6_forget : ByteArray := prog_8_method_70_code
def yX6_forget : MethodName := ⟨RX6, "forget", "(I)I"⟩
abbrev cX6_isAsSeen : ByteArray := prog_8_method_71_code
def yX6_isAsSeen : MethodName := ⟨RX6, "isAsSeen", "(I)Z"⟩
abbrev cX6_kinds : ByteArray := prog_8_method_72_code
def yX6_kinds : MethodName := ⟨RX6, "kinds", "(I)I"⟩
abbrev cX6_wallsOf : ByteArray := prog_8_method_73_code
def yX6_wallsOf : MethodName := ⟨RX6, "wallsOf", "(I)I"⟩
abbrev cX6_walls : ByteArray := prog_8_method_74_code
def yX6_walls : MethodName := ⟨RX6, "walls", "(I)I"⟩
abbrev cX6_ask : ByteArray := prog_8_method_75_code
def yX6_ask : MethodName := ⟨RX6, "ask", "(II)I"⟩
abbrev cX6_drift : ByteArray := prog_8_method_76_code
def yX6_drift : MethodName := ⟨RX6, "drift", "(III)I"⟩
abbrev cX6_keep : ByteArray := prog_8_method_77_code
def yX6_keep : MethodName := ⟨RX6, "keep", "(I)I"⟩
abbrev cX6_back : ByteArray := prog_8_method_78_code
def yX6_back : MethodName := ⟨RX6, "back", "(I)I"⟩
abbrev cX6_sheet : ByteArray := prog_8_method_79_code
def yX6_sheet : MethodName := ⟨RX6, "sheet", "(III)I"⟩
abbrev cX6_lay : ByteArray := prog_8_method_80_code
def yX6_lay : MethodName := ⟨RX6, "lay", "(III)I"⟩
abbrev cX6_read : ByteArray := prog_8_method_81_code
def yX6_read : MethodName := ⟨RX6, "read", "(IIII)I"⟩
abbrev cX6_torn : ByteArray := prog_8_method_82_code
def yX6_torn : MethodName := ⟨RX6, "torn", "()I"⟩
abbrev cX6_count : ByteArray := prog_8_method_83_code
def yX6_count : MethodName := ⟨RX6, "count", "(I)I"⟩
def RJx145de : String := "java/io/Serializable"
def TJx145de : u_T := fun k => match k with
  | _ => ("", "", "", false)
def tyJx145de : Nat → FieldType := fun k => match k with
  | _ => .int
abbrev wsJx145de0 : List Cond := u_ws RJx145de TJx145de 0
theorem nmJx145de : ∀ a, a < 0 → ∀ b, b < 0 → a ≠ b → (TJx145de a).2.1 ≠ (TJx145de b).2.1 := by decide +kernel
theorem tyJx145de_ok : ∀ k, k < 0 → parseFieldDescriptor (TJx145de k).2.2.1 = some (tyJx145de k) := by decide +kernel
def RJx9f9b0 : String := "java/lang/CharSequence"
def TJx9f9b0 : u_T := fun k => match k with
  | _ => ("", "", "", false)
def tyJx9f9b0 : Nat → FieldType := fun k => match k with
  | _ => .int
abbrev wsJx9f9b00 : List Cond := u_ws RJx9f9b0 TJx9f9b0 0
theorem nmJx9f9b0 : ∀ a, a < 0 → ∀ b, b < 0 → a ≠ b → (TJx9f9b0 a).2.1 ≠ (TJx9f9b0 b).2.1 := by decide +kernel
theorem tyJx9f9b0_ok : ∀ k, k < 0 → parseFieldDescriptor (TJx9f9b0 k).2.2.1 = some (tyJx9f9b0 k) := by decide +kernel
def RJxb160c : String := "java/lang/Comparable"
def TJxb160c : u_T := fun k => match k with
  | _ => ("", "", "", false)
def tyJxb160c : Nat → FieldType := fun k => match k with
  | _ => .int
abbrev wsJxb160c0 : List Cond := u_ws RJxb160c TJxb160c 0
theorem nmJxb160c : ∀ a, a < 0 → ∀ b, b < 0 → a ≠ b → (TJxb160c a).2.1 ≠ (TJxb160c b).2.1 := by decide +kernel
theorem tyJxb160c_ok : ∀ k, k < 0 → parseFieldDescriptor (TJxb160c k).2.2.1 = some (tyJxb160c k) := by decide +kernel
def RJ6 : String := "java/lang/Integer"
def TJ6 : u_T := fun k => match k with
  | _ => ("", "", "", false)
def tyJ6 : Nat → FieldType := fun k => match k with
  | _ => .int
abbrev wsJ60 : List Cond := u_ws RJ6 TJ6 0
theorem nmJ6 : ∀ a, a < 0 → ∀ b, b < 0 → a ≠ b → (TJ6 a).2.1 ≠ (TJ6 b).2.1 := by decide +kernel
theorem tyJ6_ok : ∀ k, k < 0 → parseFieldDescriptor (TJ6 k).2.2.1 = some (tyJ6 k) := by decide +kernel
abbrev cJ6_bitCount_0f7a4 : ByteArray := prog_9_method_49_code
def yJ6_bitCount_0f7a4 : MethodName := ⟨RJ6, "bitCount", "(I)I"⟩
def RJ9 : String := "java/lang/Math"
def TJ9 : u_T := fun k => match k with
  | _ => ("", "", "", false)
def tyJ9 : Nat → FieldType := fun k => match k with
  | _ => .int
abbrev wsJ90 : List Cond := u_ws RJ9 TJ9 0
theorem nmJ9 : ∀ a, a < 0 → ∀ b, b < 0 → a ≠ b → (TJ9 a).2.1 ≠ (TJ9 b).2.1 := by decide +kernel
theorem tyJ9_ok : ∀ k, k < 0 → parseFieldDescriptor (TJ9 k).2.2.1 = some (tyJ9 k) := by decide +kernel
abbrev cJ9_max_7cf53 : ByteArray := prog_10_method_65_code
def yJ9_max_7cf53 : MethodName := ⟨RJ9, "max", "(II)I"⟩
def RJ0 : String := "java/lang/String"
def TJ0 : u_T := fun k => match k with
  | _ => ("", "", "", false)
def tyJ0 : Nat → FieldType := fun k => match k with
  | _ => .int
abbrev wsJ00 : List Cond := u_ws RJ0 TJ0 0
theorem nmJ0 : ∀ a, a < 0 → ∀ b, b < 0 → a ≠ b → (TJ0 a).2.1 ≠ (TJ0 b).2.1 := by decide +kernel
theorem tyJ0_ok : ∀ k, k < 0 → parseFieldDescriptor (TJ0 k).2.2.1 = some (tyJ0 k) := by decide +kernel
abbrev cJ0_length_8abf5 : ByteArray := prog_11_method_54_code
def yJ0_length_8abf5 : MethodName := ⟨RJ0, "length", "()I"⟩
abbrev cJ0_charAt_5068e : ByteArray := prog_11_method_56_code
def yJ0_charAt_5068e : MethodName := ⟨RJ0, "charAt", "(I)C"⟩
abbrev cJ0_coder_7d493 : ByteArray := prog_11_method_152_code
def yJ0_coder_7d493 : MethodName := ⟨RJ0, "coder", "()B"⟩
abbrev cJ0_isLatin1_aae02 : ByteArray := prog_11_method_154_code
def yJ0_isLatin1_aae02 : MethodName := ⟨RJ0, "isLatin1", "()Z"⟩
abbrev cJ0_checkIndex_df160 : ByteArray := prog_11_method_155_code
def yJ0_checkIndex_df160 : MethodName := ⟨RJ0, "checkIndex", "(II)V"⟩
def RJ1 : String := "java/lang/StringLatin1"
def TJ1 : u_T := fun k => match k with
  | _ => ("", "", "", false)
def tyJ1 : Nat → FieldType := fun k => match k with
  | _ => .int
abbrev wsJ10 : List Cond := u_ws RJ1 TJ1 0
theorem nmJ1 : ∀ a, a < 0 → ∀ b, b < 0 → a ≠ b → (TJ1 a).2.1 ≠ (TJ1 b).2.1 := by decide +kernel
theorem tyJ1_ok : ∀ k, k < 0 → parseFieldDescriptor (TJ1 k).2.2.1 = some (tyJ1 k) := by decide +kernel
abbrev cJ1_charAt_3b067 : ByteArray := prog_12_method_2_code
def yJ1_charAt_3b067 : MethodName := ⟨RJ1, "charAt", "([BI)C"⟩
def RJ2 : String := "java/lang/StringUTF16"
def TJ2 : u_T := fun k => match k with
  | _ => ("", "", "", false)
def tyJ2 : Nat → FieldType := fun k => match k with
  | _ => .int
abbrev wsJ20 : List Cond := u_ws RJ2 TJ2 0
theorem nmJ2 : ∀ a, a < 0 → ∀ b, b < 0 → a ≠ b → (TJ2 a).2.1 ≠ (TJ2 b).2.1 := by decide +kernel
theorem tyJ2_ok : ∀ k, k < 0 → parseFieldDescriptor (TJ2 k).2.2.1 = some (tyJ2 k) := by decide +kernel
abbrev cJ2_getChar_3b067 : ByteArray := prog_13_method_5_code
def yJ2_getChar_3b067 : MethodName := ⟨RJ2, "getChar", "([BI)C"⟩
abbrev cJ2_length_9d52b : ByteArray := prog_13_method_6_code
def yJ2_length_9d52b : MethodName := ⟨RJ2, "length", "([B)I"⟩
abbrev cJ2_charAt_3b067 : ByteArray := prog_13_method_83_code
def yJ2_charAt_3b067 : MethodName := ⟨RJ2, "charAt", "([BI)C"⟩
abbrev cJ2_checkIndex_2214a : ByteArray := prog_13_method_91_code
def yJ2_checkIndex_2214a : MethodName := ⟨RJ2, "checkIndex", "(I[B)V"⟩
def RJ10 : String := "java/lang/System"
def TJ10 : u_T := fun k => match k with
  | _ => ("", "", "", false)
def tyJ10 : Nat → FieldType := fun k => match k with
  | _ => .int
abbrev wsJ100 : List Cond := u_ws RJ10 TJ10 0
theorem nmJ10 : ∀ a, a < 0 → ∀ b, b < 0 → a ≠ b → (TJ10 a).2.1 ≠ (TJ10 b).2.1 := by decide +kernel
theorem tyJ10_ok : ∀ k, k < 0 → parseFieldDescriptor (TJ10 k).2.2.1 = some (tyJ10 k) := by decide +kernel
def RJxfd54e : String := "java/lang/constant/Constable"
def TJxfd54e : u_T := fun k => match k with
  | _ => ("", "", "", false)
def tyJxfd54e : Nat → FieldType := fun k => match k with
  | _ => .int
abbrev wsJxfd54e0 : List Cond := u_ws RJxfd54e TJxfd54e 0
theorem nmJxfd54e : ∀ a, a < 0 → ∀ b, b < 0 → a ≠ b → (TJxfd54e a).2.1 ≠ (TJxfd54e b).2.1 := by decide +kernel
theorem tyJxfd54e_ok : ∀ k, k < 0 → parseFieldDescriptor (TJxfd54e k).2.2.1 = some (tyJxfd54e k) := by decide +kernel
def RJx3cf43 : String := "java/lang/constant/ConstantDesc"
def TJx3cf43 : u_T := fun k => match k with
  | _ => ("", "", "", false)
def tyJx3cf43 : Nat → FieldType := fun k => match k with
  | _ => .int
abbrev wsJx3cf430 : List Cond := u_ws RJx3cf43 TJx3cf43 0
theorem nmJx3cf43 : ∀ a, a < 0 → ∀ b, b < 0 → a ≠ b → (TJx3cf43 a).2.1 ≠ (TJx3cf43 b).2.1 := by decide +kernel
theorem tyJx3cf43_ok : ∀ k, k < 0 → parseFieldDescriptor (TJx3cf43 k).2.2.1 = some (tyJx3cf43 k) := by decide +kernel
def RJ7 : String := "java/util/Arrays"
def TJ7 : u_T := fun k => match k with
  | _ => ("", "", "", false)
def tyJ7 : Nat → FieldType := fun k => match k with
  | _ => .int
abbrev wsJ70 : List Cond := u_ws RJ7 TJ7 0
theorem nmJ7 : ∀ a, a < 0 → ∀ b, b < 0 → a ≠ b → (TJ7 a).2.1 ≠ (TJ7 b).2.1 := by decide +kernel
theorem tyJ7_ok : ∀ k, k < 0 → parseFieldDescriptor (TJ7 k).2.2.1 = some (tyJ7 k) := by decide +kernel
abbrev cJ7_fill_53178 : ByteArray := prog_15_method_103_code
def yJ7_fill_53178 : MethodName := ⟨RJ7, "fill", "([II)V"⟩
def RJ3 : String := "jdk/internal/util/Preconditions"
def TJ3 : u_T := fun k => match k with
  | _ => ("", "", "", false)
def tyJ3 : Nat → FieldType := fun k => match k with
  | _ => .int
abbrev wsJ30 : List Cond := u_ws RJ3 TJ3 0
theorem nmJ3 : ∀ a, a < 0 → ∀ b, b < 0 → a ≠ b → (TJ3 a).2.1 ≠ (TJ3 b).2.1 := by decide +kernel
theorem tyJ3_ok : ∀ k, k < 0 → parseFieldDescriptor (TJ3 k).2.2.1 = some (tyJ3 k) := by decide +kernel
abbrev cJ3_checkIndex_8e157 : ByteArray := prog_16_method_11_code
def yJ3_checkIndex_8e157 : MethodName := ⟨RJ3, "checkIndex", "(IILjava/util/function/BiFunction;)I"⟩
def RL : String := "DoorTownLaw"
abbrev cL_law : ByteArray := code
def yL_law : MethodName := ⟨RL, "law", "([I)Z"⟩
def wsX3_init : List Cond := .code yX3_init cX3_init 1 none :: ([.methodLink RX3 3 objectInit, .instanceMethod objectInit, .code objectInit ⟨#[0xb1]⟩ 1 none, .arrayClass .byte, .fieldLink RX3 9 "DoorTown$Tape" "bytes" "[B"] ++ wsX30)
abbrev vwCl : List vw_C := [(RX0, TX0, 7), (RX1, TX1, 3), (RX2, TX2, 4), (RX3, TX3, 6), (RX4, TX4, 13), (RX5, TX5, 10), (RX6, TX6, 32)]
end
section
theorem dX0_init_0 : decode cX0_init 0 = .ok (.aload_n 0, 1) := by decide +kernel
theorem dX0_init_1 : decode cX0_init 1 = .ok (.invokespecial 3, 3) := by decide +kernel
theorem dX0_init_4 : decode cX0_init 4 = .ok (.aload_n 0, 1) := by decide +kernel
theorem dX0_init_5 : decode cX0_init 5 = .ok (.new 9, 3) := by decide +kernel
theorem dX0_init_8 : decode cX0_init 8 = .ok (.dup, 1) := by decide +kernel
theorem dX0_init_9 : decode cX0_init 9 = .ok (.invokespecial 11, 3) := by decide +kernel
theorem dX0_init_12 : decode cX0_init 12 = .ok (.putfield 12, 3) := by decide +kernel
theorem dX0_init_15 : decode cX0_init 15 = .ok (.aload_n 0, 1) := by decide +kernel
theorem dX0_init_16 : decode cX0_init 16 = .ok (.new 18, 3) := by decide +kernel
theorem dX0_init_19 : decode cX0_init 19 = .ok (.dup, 1) := by decide +kernel
theorem dX0_init_20 : decode cX0_init 20 = .ok (.invokespecial 20, 3) := by decide +kernel
theorem dX0_init_23 : decode cX0_init 23 = .ok (.putfield 21, 3) := by decide +kernel
theorem dX0_init_26 : decode cX0_init 26 = .ok (.return_, 1) := by decide +kernel
theorem dX0_readAll_0 : decode cX0_readAll 0 = .ok (.aload_n 0, 1) := by decide +kernel
theorem dX0_readAll_1 : decode cX0_readAll 1 = .ok (.getfield 12, 3) := by decide +kernel
theorem dX0_readAll_4 : decode cX0_readAll 4 = .ok (.invokevirtual 25, 3) := by decide +kernel
theorem dX0_readAll_7 : decode cX0_readAll 7 = .ok (.aload_n 0, 1) := by decide +kernel
theorem dX0_readAll_8 : decode cX0_readAll 8 = .ok (.getfield 21, 3) := by decide +kernel
theorem dX0_readAll_11 : decode cX0_readAll 11 = .ok (.invokevirtual 28, 3) := by decide +kernel
theorem dX0_readAll_14 : decode cX0_readAll 14 = .ok (.aload_n 0, 1) := by decide +kernel
theorem dX0_readAll_15 : decode cX0_readAll 15 = .ok (.iconst 0, 1) := by decide +kernel
theorem dX0_readAll_16 : decode cX0_readAll 16 = .ok (.putfield 31, 3) := by decide +kernel
theorem dX0_readAll_19 : decode cX0_readAll 19 = .ok (.aload_n 0, 1) := by decide +kernel
theorem dX0_readAll_20 : decode cX0_readAll 20 = .ok (.iconst 0, 1) := by decide +kernel
theorem dX0_readAll_21 : decode cX0_readAll 21 = .ok (.putfield 35, 3) := by decide +kernel
theorem dX0_readAll_24 : decode cX0_readAll 24 = .ok (.aload_n 0, 1) := by decide +kernel
theorem dX0_readAll_25 : decode cX0_readAll 25 = .ok (.iconst 0, 1) := by decide +kernel
theorem dX0_readAll_26 : decode cX0_readAll 26 = .ok (.putfield 38, 3) := by decide +kernel
theorem dX0_readAll_29 : decode cX0_readAll 29 = .ok (.aload_n 0, 1) := by decide +kernel
theorem dX0_readAll_30 : decode cX0_readAll 30 = .ok (.iconst 0, 1) := by decide +kernel
theorem dX0_readAll_31 : decode cX0_readAll 31 = .ok (.putfield 41, 3) := by decide +kernel
theorem dX0_readAll_34 : decode cX0_readAll 34 = .ok (.aload_n 0, 1) := by decide +kernel
theorem dX0_readAll_35 : decode cX0_readAll 35 = .ok (.iconst 0, 1) := by decide +kernel
theorem dX0_readAll_36 : decode cX0_readAll 36 = .ok (.putfield 44, 3) := by decide +kernel
theorem dX0_readAll_39 : decode cX0_readAll 39 = .ok (.iconst 0, 1) := by decide +kernel
theorem dX0_readAll_40 : decode cX0_readAll 40 = .ok (.istore_n 1, 1) := by decide +kernel
theorem dX0_readAll_41 : decode cX0_readAll 41 = .ok (.iload_n 1, 1) := by decide +kernel
theorem dX0_readAll_42 : decode cX0_readAll 42 = .ok (.sipush 160, 3) := by decide +kernel
theorem dX0_readAll_45 : decode cX0_readAll 45 = .ok (.if_icmp .gt 116, 3) := by decide +kernel
theorem dX0_readAll_48 : decode cX0_readAll 48 = .ok (.aload_n 0, 1) := by decide +kernel
theorem dX0_readAll_49 : decode cX0_readAll 49 = .ok (.invokevirtual 48, 3) := by decide +kernel
theorem dX0_readAll_52 : decode cX0_readAll 52 = .ok (.ifCond .eq 109, 3) := by decide +kernel
theorem dX0_readAll_55 : decode cX0_readAll 55 = .ok (.aload_n 0, 1) := by decide +kernel
theorem dX0_readAll_56 : decode cX0_readAll 56 = .ok (.getfield 12, 3) := by decide +kernel
theorem dX0_readAll_59 : decode cX0_readAll 59 = .ok (.getfield 52, 3) := by decide +kernel
theorem dX0_readAll_62 : decode cX0_readAll 62 = .ok (.iconst 4, 1) := by decide +kernel
theorem dX0_readAll_63 : decode cX0_readAll 63 = .ok (.if_icmp .eq 98, 3) := by decide +kernel
theorem dX0_readAll_66 : decode cX0_readAll 66 = .ok (.aload_n 0, 1) := by decide +kernel
theorem dX0_readAll_67 : decode cX0_readAll 67 = .ok (.invokevirtual 55, 3) := by decide +kernel
theorem dX0_readAll_70 : decode cX0_readAll 70 = .ok (.istore_n 2, 1) := by decide +kernel
theorem dX0_readAll_71 : decode cX0_readAll 71 = .ok (.iload_n 2, 1) := by decide +kernel
theorem dX0_readAll_72 : decode cX0_readAll 72 = .ok (.ifCond .lt 11, 3) := by decide +kernel
theorem dX0_readAll_75 : decode cX0_readAll 75 = .ok (.aload_n 0, 1) := by decide +kernel
theorem dX0_readAll_76 : decode cX0_readAll 76 = .ok (.iload_n 2, 1) := by decide +kernel
theorem dX0_readAll_77 : decode cX0_readAll 77 = .ok (.invokevirtual 59, 3) := by decide +kernel
theorem dX0_readAll_80 : decode cX0_readAll 80 = .ok (.goto 65, 3) := by decide +kernel
theorem dX0_readAll_83 : decode cX0_readAll 83 = .ok (.aload_n 0, 1) := by decide +kernel
theorem dX0_readAll_84 : decode cX0_readAll 84 = .ok (.getfield 12, 3) := by decide +kernel
theorem dX0_readAll_87 : decode cX0_readAll 87 = .ok (.ldc 63, 2) := by decide +kernel
theorem dX0_readAll_89 : decode cX0_readAll 89 = .ok (.invokevirtual 65, 3) := by decide +kernel
theorem dX0_readAll_92 : decode cX0_readAll 92 = .ok (.ifCond .eq 10, 3) := by decide +kernel
theorem dX0_readAll_95 : decode cX0_readAll 95 = .ok (.aload_n 0, 1) := by decide +kernel
theorem dX0_readAll_96 : decode cX0_readAll 96 = .ok (.invokevirtual 69, 3) := by decide +kernel
theorem dX0_readAll_99 : decode cX0_readAll 99 = .ok (.goto 46, 3) := by decide +kernel
theorem dX0_readAll_102 : decode cX0_readAll 102 = .ok (.aload_n 0, 1) := by decide +kernel
theorem dX0_readAll_103 : decode cX0_readAll 103 = .ok (.getfield 12, 3) := by decide +kernel
theorem dX0_readAll_106 : decode cX0_readAll 106 = .ok (.ldc 72, 2) := by decide +kernel
theorem dX0_readAll_108 : decode cX0_readAll 108 = .ok (.invokevirtual 65, 3) := by decide +kernel
theorem dX0_readAll_111 : decode cX0_readAll 111 = .ok (.ifCond .eq 10, 3) := by decide +kernel
theorem dX0_readAll_114 : decode cX0_readAll 114 = .ok (.aload_n 0, 1) := by decide +kernel
theorem dX0_readAll_115 : decode cX0_readAll 115 = .ok (.invokevirtual 74, 3) := by decide +kernel
theorem dX0_readAll_118 : decode cX0_readAll 118 = .ok (.goto 27, 3) := by decide +kernel
theorem dX0_readAll_121 : decode cX0_readAll 121 = .ok (.aload_n 0, 1) := by decide +kernel
theorem dX0_readAll_122 : decode cX0_readAll 122 = .ok (.getfield 12, 3) := by decide +kernel
theorem dX0_readAll_125 : decode cX0_readAll 125 = .ok (.ldc 77, 2) := by decide +kernel
theorem dX0_readAll_127 : decode cX0_readAll 127 = .ok (.invokevirtual 65, 3) := by decide +kernel
theorem dX0_readAll_130 : decode cX0_readAll 130 = .ok (.ifCond .eq 10, 3) := by decide +kernel
theorem dX0_readAll_133 : decode cX0_readAll 133 = .ok (.aload_n 0, 1) := by decide +kernel
theorem dX0_readAll_134 : decode cX0_readAll 134 = .ok (.invokevirtual 79, 3) := by decide +kernel
theorem dX0_readAll_137 : decode cX0_readAll 137 = .ok (.goto 8, 3) := by decide +kernel
theorem dX0_readAll_140 : decode cX0_readAll 140 = .ok (.aload_n 0, 1) := by decide +kernel
theorem dX0_readAll_141 : decode cX0_readAll 141 = .ok (.iconst 2, 1) := by decide +kernel
theorem dX0_readAll_142 : decode cX0_readAll 142 = .ok (.invokevirtual 82, 3) := by decide +kernel
theorem dX0_readAll_145 : decode cX0_readAll 145 = .ok (.aload_n 0, 1) := by decide +kernel
theorem dX0_readAll_146 : decode cX0_readAll 146 = .ok (.dup, 1) := by decide +kernel
theorem dX0_readAll_147 : decode cX0_readAll 147 = .ok (.getfield 31, 3) := by decide +kernel
theorem dX0_readAll_150 : decode cX0_readAll 150 = .ok (.iconst 1, 1) := by decide +kernel
theorem dX0_readAll_151 : decode cX0_readAll 151 = .ok (.iadd, 1) := by decide +kernel
theorem dX0_readAll_152 : decode cX0_readAll 152 = .ok (.putfield 31, 3) := by decide +kernel
theorem dX0_readAll_155 : decode cX0_readAll 155 = .ok (.iinc 1 1, 3) := by decide +kernel
theorem dX0_readAll_158 : decode cX0_readAll 158 = .ok (.goto (-117), 3) := by decide +kernel
theorem dX0_readAll_161 : decode cX0_readAll 161 = .ok (.aload_n 0, 1) := by decide +kernel
theorem dX0_readAll_162 : decode cX0_readAll 162 = .ok (.getfield 35, 3) := by decide +kernel
theorem dX0_readAll_165 : decode cX0_readAll 165 = .ok (.ifCond .ne 30, 3) := by decide +kernel
theorem dX0_readAll_168 : decode cX0_readAll 168 = .ok (.aload_n 0, 1) := by decide +kernel
theorem dX0_readAll_169 : decode cX0_readAll 169 = .ok (.getfield 21, 3) := by decide +kernel
theorem dX0_readAll_172 : decode cX0_readAll 172 = .ok (.invokevirtual 85, 3) := by decide +kernel
theorem dX0_readAll_175 : decode cX0_readAll 175 = .ok (.ifCond .eq 20, 3) := by decide +kernel
theorem dX0_readAll_178 : decode cX0_readAll 178 = .ok (.aload_n 0, 1) := by decide +kernel
theorem dX0_readAll_179 : decode cX0_readAll 179 = .ok (.bipush 6, 2) := by decide +kernel
theorem dX0_readAll_181 : decode cX0_readAll 181 = .ok (.putfield 35, 3) := by decide +kernel
theorem dX0_readAll_184 : decode cX0_readAll 184 = .ok (.aload_n 0, 1) := by decide +kernel
theorem dX0_readAll_185 : decode cX0_readAll 185 = .ok (.aload_n 0, 1) := by decide +kernel
theorem dX0_readAll_186 : decode cX0_readAll 186 = .ok (.getfield 12, 3) := by decide +kernel
theorem dX0_readAll_189 : decode cX0_readAll 189 = .ok (.getfield 88, 3) := by decide +kernel
theorem dX0_readAll_192 : decode cX0_readAll 192 = .ok (.putfield 38, 3) := by decide +kernel
theorem dX0_readAll_195 : decode cX0_readAll 195 = .ok (.return_, 1) := by decide +kernel
theorem dX0_kindNamed_0 : decode cX0_kindNamed 0 = .ok (.iconst 0, 1) := by decide +kernel
theorem dX0_kindNamed_1 : decode cX0_kindNamed 1 = .ok (.istore_n 1, 1) := by decide +kernel
theorem dX0_kindNamed_2 : decode cX0_kindNamed 2 = .ok (.iload_n 1, 1) := by decide +kernel
theorem dX0_kindNamed_3 : decode cX0_kindNamed 3 = .ok (.iconst 4, 1) := by decide +kernel
theorem dX0_kindNamed_4 : decode cX0_kindNamed 4 = .ok (.if_icmp .ge 25, 3) := by decide +kernel
theorem dX0_kindNamed_7 : decode cX0_kindNamed 7 = .ok (.aload_n 0, 1) := by decide +kernel
theorem dX0_kindNamed_8 : decode cX0_kindNamed 8 = .ok (.getfield 12, 3) := by decide +kernel
theorem dX0_kindNamed_11 : decode cX0_kindNamed 11 = .ok (.iload_n 1, 1) := by decide +kernel
theorem dX0_kindNamed_12 : decode cX0_kindNamed 12 = .ok (.invokestatic 91, 3) := by decide +kernel
theorem dX0_kindNamed_15 : decode cX0_kindNamed 15 = .ok (.invokevirtual 65, 3) := by decide +kernel
theorem dX0_kindNamed_18 : decode cX0_kindNamed 18 = .ok (.ifCond .eq 5, 3) := by decide +kernel
theorem dX0_kindNamed_21 : decode cX0_kindNamed 21 = .ok (.iload_n 1, 1) := by decide +kernel
theorem dX0_kindNamed_22 : decode cX0_kindNamed 22 = .ok (.ireturn, 1) := by decide +kernel
theorem dX0_kindNamed_23 : decode cX0_kindNamed 23 = .ok (.iinc 1 1, 3) := by decide +kernel
theorem dX0_kindNamed_26 : decode cX0_kindNamed 26 = .ok (.goto (-24), 3) := by decide +kernel
theorem dX0_kindNamed_29 : decode cX0_kindNamed 29 = .ok (.bipush (-4), 2) := by decide +kernel
theorem dX0_kindNamed_31 : decode cX0_kindNamed 31 = .ok (.ireturn, 1) := by decide +kernel
theorem dX0_nameOfKind_0 : decode cX0_nameOfKind 0 = .ok (.iload_n 0, 1) := by decide +kernel
theorem dX0_nameOfKind_1 : decode cX0_nameOfKind 1 = .ok (.tableswitch 36 0 2 #[27, 30, 33], 27) := by decide +kernel
theorem dX0_nameOfKind_28 : decode cX0_nameOfKind 28 = .ok (.ldc 95, 2) := by decide +kernel
theorem dX0_nameOfKind_30 : decode cX0_nameOfKind 30 = .ok (.areturn, 1) := by decide +kernel
theorem dX0_nameOfKind_31 : decode cX0_nameOfKind 31 = .ok (.ldc 97, 2) := by decide +kernel
theorem dX0_nameOfKind_33 : decode cX0_nameOfKind 33 = .ok (.areturn, 1) := by decide +kernel
theorem dX0_nameOfKind_34 : decode cX0_nameOfKind 34 = .ok (.ldc 99, 2) := by decide +kernel
theorem dX0_nameOfKind_36 : decode cX0_nameOfKind 36 = .ok (.areturn, 1) := by decide +kernel
theorem dX0_nameOfKind_37 : decode cX0_nameOfKind 37 = .ok (.ldc 101, 2) := by decide +kernel
theorem dX0_nameOfKind_39 : decode cX0_nameOfKind 39 = .ok (.areturn, 1) := by decide +kernel
theorem dX0_readOne_0 : decode cX0_readOne 0 = .ok (.aload_n 0, 1) := by decide +kernel
theorem dX0_readOne_1 : decode cX0_readOne 1 = .ok (.getfield 21, 3) := by decide +kernel
theorem dX0_readOne_4 : decode cX0_readOne 4 = .ok (.getfield 103, 3) := by decide +kernel
theorem dX0_readOne_7 : decode cX0_readOne 7 = .ok (.iconst 5, 1) := by decide +kernel
theorem dX0_readOne_8 : decode cX0_readOne 8 = .ok (.if_icmp .lt 9, 3) := by decide +kernel
theorem dX0_readOne_11 : decode cX0_readOne 11 = .ok (.aload_n 0, 1) := by decide +kernel
theorem dX0_readOne_12 : decode cX0_readOne 12 = .ok (.iconst 5, 1) := by decide +kernel
theorem dX0_readOne_13 : decode cX0_readOne 13 = .ok (.invokevirtual 82, 3) := by decide +kernel
theorem dX0_readOne_16 : decode cX0_readOne 16 = .ok (.return_, 1) := by decide +kernel
theorem dX0_readOne_17 : decode cX0_readOne 17 = .ok (.aload_n 0, 1) := by decide +kernel
theorem dX0_readOne_18 : decode cX0_readOne 18 = .ok (.iconst 3, 1) := by decide +kernel
theorem dX0_readOne_19 : decode cX0_readOne 19 = .ok (.invokevirtual 106, 3) := by decide +kernel
theorem dX0_readOne_22 : decode cX0_readOne 22 = .ok (.istore_n 2, 1) := by decide +kernel
theorem dX0_readOne_23 : decode cX0_readOne 23 = .ok (.aload_n 0, 1) := by decide +kernel
theorem dX0_readOne_24 : decode cX0_readOne 24 = .ok (.bipush 7, 2) := by decide +kernel
theorem dX0_readOne_26 : decode cX0_readOne 26 = .ok (.invokevirtual 106, 3) := by decide +kernel
theorem dX0_readOne_29 : decode cX0_readOne 29 = .ok (.istore_n 3, 1) := by decide +kernel
theorem dX0_readOne_30 : decode cX0_readOne 30 = .ok (.aload_n 0, 1) := by decide +kernel
theorem dX0_readOne_31 : decode cX0_readOne 31 = .ok (.invokevirtual 48, 3) := by decide +kernel
theorem dX0_readOne_34 : decode cX0_readOne 34 = .ok (.ifCond .ne 4, 3) := by decide +kernel
theorem dX0_readOne_37 : decode cX0_readOne 37 = .ok (.return_, 1) := by decide +kernel
theorem dX0_readOne_38 : decode cX0_readOne 38 = .ok (.aload_n 0, 1) := by decide +kernel
theorem dX0_readOne_39 : decode cX0_readOne 39 = .ok (.getfield 21, 3) := by decide +kernel
theorem dX0_readOne_42 : decode cX0_readOne 42 = .ok (.iload_n 1, 1) := by decide +kernel
theorem dX0_readOne_43 : decode cX0_readOne 43 = .ok (.iload_n 2, 1) := by decide +kernel
theorem dX0_readOne_44 : decode cX0_readOne 44 = .ok (.iload_n 3, 1) := by decide +kernel
theorem dX0_readOne_45 : decode cX0_readOne 45 = .ok (.invokevirtual 110, 3) := by decide +kernel
theorem dX0_readOne_48 : decode cX0_readOne 48 = .ok (.pop, 1) := by decide +kernel
theorem dX0_readOne_49 : decode cX0_readOne 49 = .ok (.aload_n 0, 1) := by decide +kernel
theorem dX0_readOne_50 : decode cX0_readOne 50 = .ok (.getfield 12, 3) := by decide +kernel
theorem dX0_readOne_53 : decode cX0_readOne 53 = .ok (.getfield 52, 3) := by decide +kernel
theorem dX0_readOne_56 : decode cX0_readOne 56 = .ok (.iconst 2, 1) := by decide +kernel
theorem dX0_readOne_57 : decode cX0_readOne 57 = .ok (.if_icmp .ne 12, 3) := by decide +kernel
theorem dX0_readOne_60 : decode cX0_readOne 60 = .ok (.aload_n 0, 1) := by decide +kernel
theorem dX0_readOne_61 : decode cX0_readOne 61 = .ok (.invokevirtual 114, 3) := by decide +kernel
theorem dX0_readOne_64 : decode cX0_readOne 64 = .ok (.aload_n 0, 1) := by decide +kernel
theorem dX0_readOne_65 : decode cX0_readOne 65 = .ok (.invokevirtual 48, 3) := by decide +kernel
theorem dX0_readOne_68 : decode cX0_readOne 68 = .ok (.pop, 1) := by decide +kernel
theorem dX0_readOne_69 : decode cX0_readOne 69 = .ok (.aload_n 0, 1) := by decide +kernel
theorem dX0_readOne_70 : decode cX0_readOne 70 = .ok (.invokevirtual 117, 3) := by decide +kernel
theorem dX0_readOne_73 : decode cX0_readOne 73 = .ok (.return_, 1) := by decide +kernel
theorem dX0_hangToldDoor_0 : decode cX0_hangToldDoor 0 = .ok (.aload_n 0, 1) := by decide +kernel
theorem dX0_hangToldDoor_1 : decode cX0_hangToldDoor 1 = .ok (.bipush 8, 2) := by decide +kernel
theorem dX0_hangToldDoor_3 : decode cX0_hangToldDoor 3 = .ok (.invokevirtual 120, 3) := by decide +kernel
theorem dX0_hangToldDoor_6 : decode cX0_hangToldDoor 6 = .ok (.istore_n 1, 1) := by decide +kernel
theorem dX0_hangToldDoor_7 : decode cX0_hangToldDoor 7 = .ok (.aload_n 0, 1) := by decide +kernel
theorem dX0_hangToldDoor_8 : decode cX0_hangToldDoor 8 = .ok (.getfield 21, 3) := by decide +kernel
theorem dX0_hangToldDoor_11 : decode cX0_hangToldDoor 11 = .ok (.getfield 103, 3) := by decide +kernel
theorem dX0_hangToldDoor_14 : decode cX0_hangToldDoor 14 = .ok (.iconst 1, 1) := by decide +kernel
theorem dX0_hangToldDoor_15 : decode cX0_hangToldDoor 15 = .ok (.isub, 1) := by decide +kernel
theorem dX0_hangToldDoor_16 : decode cX0_hangToldDoor 16 = .ok (.istore_n 2, 1) := by decide +kernel
theorem dX0_hangToldDoor_17 : decode cX0_hangToldDoor 17 = .ok (.iload_n 1, 1) := by decide +kernel
theorem dX0_hangToldDoor_18 : decode cX0_hangToldDoor 18 = .ok (.ifCond .lt 14, 3) := by decide +kernel
theorem dX0_hangToldDoor_21 : decode cX0_hangToldDoor 21 = .ok (.aload_n 0, 1) := by decide +kernel
theorem dX0_hangToldDoor_22 : decode cX0_hangToldDoor 22 = .ok (.getfield 21, 3) := by decide +kernel
theorem dX0_hangToldDoor_25 : decode cX0_hangToldDoor 25 = .ok (.iload_n 2, 1) := by decide +kernel
theorem dX0_hangToldDoor_26 : decode cX0_hangToldDoor 26 = .ok (.invokevirtual 123, 3) := by decide +kernel
theorem dX0_hangToldDoor_29 : decode cX0_hangToldDoor 29 = .ok (.ifCond .ne 4, 3) := by decide +kernel
theorem dX0_hangToldDoor_32 : decode cX0_hangToldDoor 32 = .ok (.return_, 1) := by decide +kernel
theorem dX0_hangToldDoor_33 : decode cX0_hangToldDoor 33 = .ok (.aload_n 0, 1) := by decide +kernel
theorem dX0_hangToldDoor_34 : decode cX0_hangToldDoor 34 = .ok (.getfield 21, 3) := by decide +kernel
theorem dX0_hangToldDoor_37 : decode cX0_hangToldDoor 37 = .ok (.getfield 127, 3) := by decide +kernel
theorem dX0_hangToldDoor_40 : decode cX0_hangToldDoor 40 = .ok (.iload_n 1, 1) := by decide +kernel
theorem dX0_hangToldDoor_41 : decode cX0_hangToldDoor 41 = .ok (.iaload, 1) := by decide +kernel
theorem dX0_hangToldDoor_42 : decode cX0_hangToldDoor 42 = .ok (.iconst (-1), 1) := by decide +kernel
theorem dX0_hangToldDoor_43 : decode cX0_hangToldDoor 43 = .ok (.if_icmp .eq 9, 3) := by decide +kernel
theorem dX0_hangToldDoor_46 : decode cX0_hangToldDoor 46 = .ok (.aload_n 0, 1) := by decide +kernel
theorem dX0_hangToldDoor_47 : decode cX0_hangToldDoor 47 = .ok (.iconst 4, 1) := by decide +kernel
theorem dX0_hangToldDoor_48 : decode cX0_hangToldDoor 48 = .ok (.invokevirtual 82, 3) := by decide +kernel
theorem dX0_hangToldDoor_51 : decode cX0_hangToldDoor 51 = .ok (.return_, 1) := by decide +kernel
theorem dX0_hangToldDoor_52 : decode cX0_hangToldDoor 52 = .ok (.aload_n 0, 1) := by decide +kernel
theorem dX0_hangToldDoor_53 : decode cX0_hangToldDoor 53 = .ok (.getfield 21, 3) := by decide +kernel
theorem dX0_hangToldDoor_56 : decode cX0_hangToldDoor 56 = .ok (.getfield 127, 3) := by decide +kernel
theorem dX0_hangToldDoor_59 : decode cX0_hangToldDoor 59 = .ok (.iload_n 1, 1) := by decide +kernel
theorem dX0_hangToldDoor_60 : decode cX0_hangToldDoor 60 = .ok (.iload_n 2, 1) := by decide +kernel
theorem dX0_hangToldDoor_61 : decode cX0_hangToldDoor 61 = .ok (.iastore, 1) := by decide +kernel
theorem dX0_hangToldDoor_62 : decode cX0_hangToldDoor 62 = .ok (.aload_n 0, 1) := by decide +kernel
theorem dX0_hangToldDoor_63 : decode cX0_hangToldDoor 63 = .ok (.getfield 21, 3) := by decide +kernel
theorem dX0_hangToldDoor_66 : decode cX0_hangToldDoor 66 = .ok (.getfield 131, 3) := by decide +kernel
theorem dX0_hangToldDoor_69 : decode cX0_hangToldDoor 69 = .ok (.iload_n 2, 1) := by decide +kernel
theorem dX0_hangToldDoor_70 : decode cX0_hangToldDoor 70 = .ok (.iload_n 1, 1) := by decide +kernel
theorem dX0_hangToldDoor_71 : decode cX0_hangToldDoor 71 = .ok (.iastore, 1) := by decide +kernel
theorem dX0_hangToldDoor_72 : decode cX0_hangToldDoor 72 = .ok (.return_, 1) := by decide +kernel
theorem dX0_readWall_0 : decode cX0_readWall 0 = .ok (.aload_n 0, 1) := by decide +kernel
theorem dX0_readWall_1 : decode cX0_readWall 1 = .ok (.getfield 21, 3) := by decide +kernel
theorem dX0_readWall_4 : decode cX0_readWall 4 = .ok (.getfield 134, 3) := by decide +kernel
theorem dX0_readWall_7 : decode cX0_readWall 7 = .ok (.bipush 9, 2) := by decide +kernel
theorem dX0_readWall_9 : decode cX0_readWall 9 = .ok (.if_icmp .lt 9, 3) := by decide +kernel
theorem dX0_readWall_12 : decode cX0_readWall 12 = .ok (.aload_n 0, 1) := by decide +kernel
theorem dX0_readWall_13 : decode cX0_readWall 13 = .ok (.iconst 5, 1) := by decide +kernel
theorem dX0_readWall_14 : decode cX0_readWall 14 = .ok (.invokevirtual 82, 3) := by decide +kernel
theorem dX0_readWall_17 : decode cX0_readWall 17 = .ok (.return_, 1) := by decide +kernel
theorem dX0_readWall_18 : decode cX0_readWall 18 = .ok (.aload_n 0, 1) := by decide +kernel
theorem dX0_readWall_19 : decode cX0_readWall 19 = .ok (.bipush 7, 2) := by decide +kernel
theorem dX0_readWall_21 : decode cX0_readWall 21 = .ok (.invokevirtual 106, 3) := by decide +kernel
theorem dX0_readWall_24 : decode cX0_readWall 24 = .ok (.istore_n 1, 1) := by decide +kernel
theorem dX0_readWall_25 : decode cX0_readWall 25 = .ok (.aload_n 0, 1) := by decide +kernel
theorem dX0_readWall_26 : decode cX0_readWall 26 = .ok (.bipush 7, 2) := by decide +kernel
theorem dX0_readWall_28 : decode cX0_readWall 28 = .ok (.invokevirtual 106, 3) := by decide +kernel
theorem dX0_readWall_31 : decode cX0_readWall 31 = .ok (.istore_n 2, 1) := by decide +kernel
theorem dX0_readWall_32 : decode cX0_readWall 32 = .ok (.aload_n 0, 1) := by decide +kernel
theorem dX0_readWall_33 : decode cX0_readWall 33 = .ok (.getfield 35, 3) := by decide +kernel
theorem dX0_readWall_36 : decode cX0_readWall 36 = .ok (.ifCond .ne 13, 3) := by decide +kernel
theorem dX0_readWall_39 : decode cX0_readWall 39 = .ok (.iload_n 1, 1) := by decide +kernel
theorem dX0_readWall_40 : decode cX0_readWall 40 = .ok (.iload_n 2, 1) := by decide +kernel
theorem dX0_readWall_41 : decode cX0_readWall 41 = .ok (.if_icmp .ne 8, 3) := by decide +kernel
theorem dX0_readWall_44 : decode cX0_readWall 44 = .ok (.aload_n 0, 1) := by decide +kernel
theorem dX0_readWall_45 : decode cX0_readWall 45 = .ok (.iconst 3, 1) := by decide +kernel
theorem dX0_readWall_46 : decode cX0_readWall 46 = .ok (.invokevirtual 82, 3) := by decide +kernel
theorem dX0_readWall_49 : decode cX0_readWall 49 = .ok (.aload_n 0, 1) := by decide +kernel
theorem dX0_readWall_50 : decode cX0_readWall 50 = .ok (.invokevirtual 48, 3) := by decide +kernel
theorem dX0_readWall_53 : decode cX0_readWall 53 = .ok (.pop, 1) := by decide +kernel
theorem dX0_readWall_54 : decode cX0_readWall 54 = .ok (.aload_n 0, 1) := by decide +kernel
theorem dX0_readWall_55 : decode cX0_readWall 55 = .ok (.invokevirtual 117, 3) := by decide +kernel
theorem dX0_readWall_58 : decode cX0_readWall 58 = .ok (.aload_n 0, 1) := by decide +kernel
theorem dX0_readWall_59 : decode cX0_readWall 59 = .ok (.getfield 35, 3) := by decide +kernel
theorem dX0_readWall_62 : decode cX0_readWall 62 = .ok (.ifCond .ne 13, 3) := by decide +kernel
theorem dX0_readWall_65 : decode cX0_readWall 65 = .ok (.aload_n 0, 1) := by decide +kernel
theorem dX0_readWall_66 : decode cX0_readWall 66 = .ok (.getfield 21, 3) := by decide +kernel
theorem dX0_readWall_69 : decode cX0_readWall 69 = .ok (.iload_n 1, 1) := by decide +kernel
theorem dX0_readWall_70 : decode cX0_readWall 70 = .ok (.iload_n 2, 1) := by decide +kernel
theorem dX0_readWall_71 : decode cX0_readWall 71 = .ok (.invokevirtual 137, 3) := by decide +kernel
theorem dX0_readWall_74 : decode cX0_readWall 74 = .ok (.pop, 1) := by decide +kernel
theorem dX0_readWall_75 : decode cX0_readWall 75 = .ok (.return_, 1) := by decide +kernel
theorem dX0_readRoom_0 : decode cX0_readRoom 0 = .ok (.aload_n 0, 1) := by decide +kernel
theorem dX0_readRoom_1 : decode cX0_readRoom 1 = .ok (.bipush 7, 2) := by decide +kernel
theorem dX0_readRoom_3 : decode cX0_readRoom 3 = .ok (.invokevirtual 106, 3) := by decide +kernel
theorem dX0_readRoom_6 : decode cX0_readRoom 6 = .ok (.istore_n 1, 1) := by decide +kernel
theorem dX0_readRoom_7 : decode cX0_readRoom 7 = .ok (.aload_n 0, 1) := by decide +kernel
theorem dX0_readRoom_8 : decode cX0_readRoom 8 = .ok (.getfield 41, 3) := by decide +kernel
theorem dX0_readRoom_11 : decode cX0_readRoom 11 = .ok (.iload_n 1, 1) := by decide +kernel
theorem dX0_readRoom_12 : decode cX0_readRoom 12 = .ok (.invokestatic 141, 3) := by decide +kernel
theorem dX0_readRoom_15 : decode cX0_readRoom 15 = .ok (.ifCond .eq 8, 3) := by decide +kernel
theorem dX0_readRoom_18 : decode cX0_readRoom 18 = .ok (.aload_n 0, 1) := by decide +kernel
theorem dX0_readRoom_19 : decode cX0_readRoom 19 = .ok (.iconst 4, 1) := by decide +kernel
theorem dX0_readRoom_20 : decode cX0_readRoom 20 = .ok (.invokevirtual 82, 3) := by decide +kernel
theorem dX0_readRoom_23 : decode cX0_readRoom 23 = .ok (.aload_n 0, 1) := by decide +kernel
theorem dX0_readRoom_24 : decode cX0_readRoom 24 = .ok (.bipush 99, 2) := by decide +kernel
theorem dX0_readRoom_26 : decode cX0_readRoom 26 = .ok (.invokevirtual 106, 3) := by decide +kernel
theorem dX0_readRoom_29 : decode cX0_readRoom 29 = .ok (.istore_n 2, 1) := by decide +kernel
theorem dX0_readRoom_30 : decode cX0_readRoom 30 = .ok (.aload_n 0, 1) := by decide +kernel
theorem dX0_readRoom_31 : decode cX0_readRoom 31 = .ok (.invokevirtual 48, 3) := by decide +kernel
theorem dX0_readRoom_34 : decode cX0_readRoom 34 = .ok (.pop, 1) := by decide +kernel
theorem dX0_readRoom_35 : decode cX0_readRoom 35 = .ok (.aload_n 0, 1) := by decide +kernel
theorem dX0_readRoom_36 : decode cX0_readRoom 36 = .ok (.invokevirtual 117, 3) := by decide +kernel
theorem dX0_readRoom_39 : decode cX0_readRoom 39 = .ok (.aload_n 0, 1) := by decide +kernel
theorem dX0_readRoom_40 : decode cX0_readRoom 40 = .ok (.getfield 35, 3) := by decide +kernel
theorem dX0_readRoom_43 : decode cX0_readRoom 43 = .ok (.ifCond .ne 32, 3) := by decide +kernel
theorem dX0_readRoom_46 : decode cX0_readRoom 46 = .ok (.iload_n 1, 1) := by decide +kernel
theorem dX0_readRoom_47 : decode cX0_readRoom 47 = .ok (.invokestatic 144, 3) := by decide +kernel
theorem dX0_readRoom_50 : decode cX0_readRoom 50 = .ok (.ifCond .eq 25, 3) := by decide +kernel
theorem dX0_readRoom_53 : decode cX0_readRoom 53 = .ok (.aload_n 0, 1) := by decide +kernel
theorem dX0_readRoom_54 : decode cX0_readRoom 54 = .ok (.dup, 1) := by decide +kernel
theorem dX0_readRoom_55 : decode cX0_readRoom 55 = .ok (.getfield 41, 3) := by decide +kernel
theorem dX0_readRoom_58 : decode cX0_readRoom 58 = .ok (.iconst 1, 1) := by decide +kernel
theorem dX0_readRoom_59 : decode cX0_readRoom 59 = .ok (.iload_n 1, 1) := by decide +kernel
theorem dX0_readRoom_60 : decode cX0_readRoom 60 = .ok (.ishl, 1) := by decide +kernel
theorem dX0_readRoom_61 : decode cX0_readRoom 61 = .ok (.ior, 1) := by decide +kernel
theorem dX0_readRoom_62 : decode cX0_readRoom 62 = .ok (.putfield 41, 3) := by decide +kernel
theorem dX0_readRoom_65 : decode cX0_readRoom 65 = .ok (.aload_n 0, 1) := by decide +kernel
theorem dX0_readRoom_66 : decode cX0_readRoom 66 = .ok (.getfield 21, 3) := by decide +kernel
theorem dX0_readRoom_69 : decode cX0_readRoom 69 = .ok (.getfield 147, 3) := by decide +kernel
theorem dX0_readRoom_72 : decode cX0_readRoom 72 = .ok (.iload_n 1, 1) := by decide +kernel
theorem dX0_readRoom_73 : decode cX0_readRoom 73 = .ok (.iload_n 2, 1) := by decide +kernel
theorem dX0_readRoom_74 : decode cX0_readRoom 74 = .ok (.iastore, 1) := by decide +kernel
theorem dX0_readRoom_75 : decode cX0_readRoom 75 = .ok (.return_, 1) := by decide +kernel
theorem dX0_readPlan_0 : decode cX0_readPlan 0 = .ok (.aload_n 0, 1) := by decide +kernel
theorem dX0_readPlan_1 : decode cX0_readPlan 1 = .ok (.getfield 44, 3) := by decide +kernel
theorem dX0_readPlan_4 : decode cX0_readPlan 4 = .ok (.ifCond .eq 8, 3) := by decide +kernel
theorem dX0_readPlan_7 : decode cX0_readPlan 7 = .ok (.aload_n 0, 1) := by decide +kernel
theorem dX0_readPlan_8 : decode cX0_readPlan 8 = .ok (.iconst 4, 1) := by decide +kernel
theorem dX0_readPlan_9 : decode cX0_readPlan 9 = .ok (.invokevirtual 82, 3) := by decide +kernel
theorem dX0_readPlan_12 : decode cX0_readPlan 12 = .ok (.aload_n 0, 1) := by decide +kernel
theorem dX0_readPlan_13 : decode cX0_readPlan 13 = .ok (.iconst 1, 1) := by decide +kernel
theorem dX0_readPlan_14 : decode cX0_readPlan 14 = .ok (.putfield 44, 3) := by decide +kernel
theorem dX0_readPlan_17 : decode cX0_readPlan 17 = .ok (.iconst 0, 1) := by decide +kernel
theorem dX0_readPlan_18 : decode cX0_readPlan 18 = .ok (.istore_n 1, 1) := by decide +kernel
theorem dX0_readPlan_19 : decode cX0_readPlan 19 = .ok (.iload_n 1, 1) := by decide +kernel
theorem dX0_readPlan_20 : decode cX0_readPlan 20 = .ok (.bipush 6, 2) := by decide +kernel
theorem dX0_readPlan_22 : decode cX0_readPlan 22 = .ok (.if_icmp .gt 85, 3) := by decide +kernel
theorem dX0_readPlan_25 : decode cX0_readPlan 25 = .ok (.aload_n 0, 1) := by decide +kernel
theorem dX0_readPlan_26 : decode cX0_readPlan 26 = .ok (.invokevirtual 48, 3) := by decide +kernel
theorem dX0_readPlan_29 : decode cX0_readPlan 29 = .ok (.ifCond .eq 78, 3) := by decide +kernel
theorem dX0_readPlan_32 : decode cX0_readPlan 32 = .ok (.aload_n 0, 1) := by decide +kernel
theorem dX0_readPlan_33 : decode cX0_readPlan 33 = .ok (.getfield 12, 3) := by decide +kernel
theorem dX0_readPlan_36 : decode cX0_readPlan 36 = .ok (.getfield 52, 3) := by decide +kernel
theorem dX0_readPlan_39 : decode cX0_readPlan 39 = .ok (.iconst 3, 1) := by decide +kernel
theorem dX0_readPlan_40 : decode cX0_readPlan 40 = .ok (.if_icmp .eq 67, 3) := by decide +kernel
theorem dX0_readPlan_43 : decode cX0_readPlan 43 = .ok (.aload_n 0, 1) := by decide +kernel
theorem dX0_readPlan_44 : decode cX0_readPlan 44 = .ok (.getfield 21, 3) := by decide +kernel
theorem dX0_readPlan_47 : decode cX0_readPlan 47 = .ok (.getfield 150, 3) := by decide +kernel
theorem dX0_readPlan_50 : decode cX0_readPlan 50 = .ok (.bipush 6, 2) := by decide +kernel
theorem dX0_readPlan_52 : decode cX0_readPlan 52 = .ok (.if_icmp .lt 19, 3) := by decide +kernel
theorem dX0_readPlan_55 : decode cX0_readPlan 55 = .ok (.aload_n 0, 1) := by decide +kernel
theorem dX0_readPlan_56 : decode cX0_readPlan 56 = .ok (.getfield 12, 3) := by decide +kernel
theorem dX0_readPlan_59 : decode cX0_readPlan 59 = .ok (.getfield 52, 3) := by decide +kernel
theorem dX0_readPlan_62 : decode cX0_readPlan 62 = .ok (.iconst 2, 1) := by decide +kernel
theorem dX0_readPlan_63 : decode cX0_readPlan 63 = .ok (.if_icmp .ne 8, 3) := by decide +kernel
theorem dX0_readPlan_66 : decode cX0_readPlan 66 = .ok (.aload_n 0, 1) := by decide +kernel
theorem dX0_readPlan_67 : decode cX0_readPlan 67 = .ok (.iconst 5, 1) := by decide +kernel
theorem dX0_readPlan_68 : decode cX0_readPlan 68 = .ok (.invokevirtual 82, 3) := by decide +kernel
theorem dX0_readPlan_71 : decode cX0_readPlan 71 = .ok (.aload_n 0, 1) := by decide +kernel
theorem dX0_readPlan_72 : decode cX0_readPlan 72 = .ok (.iconst 4, 1) := by decide +kernel
theorem dX0_readPlan_73 : decode cX0_readPlan 73 = .ok (.invokevirtual 120, 3) := by decide +kernel
theorem dX0_readPlan_76 : decode cX0_readPlan 76 = .ok (.istore_n 2, 1) := by decide +kernel
theorem dX0_readPlan_77 : decode cX0_readPlan 77 = .ok (.aload_n 0, 1) := by decide +kernel
theorem dX0_readPlan_78 : decode cX0_readPlan 78 = .ok (.bipush 8, 2) := by decide +kernel
theorem dX0_readPlan_80 : decode cX0_readPlan 80 = .ok (.invokevirtual 106, 3) := by decide +kernel
theorem dX0_readPlan_83 : decode cX0_readPlan 83 = .ok (.istore_n 3, 1) := by decide +kernel
theorem dX0_readPlan_84 : decode cX0_readPlan 84 = .ok (.aload_n 0, 1) := by decide +kernel
theorem dX0_readPlan_85 : decode cX0_readPlan 85 = .ok (.getfield 35, 3) := by decide +kernel
theorem dX0_readPlan_88 : decode cX0_readPlan 88 = .ok (.ifCond .ne 13, 3) := by decide +kernel
theorem dX0_readPlan_91 : decode cX0_readPlan 91 = .ok (.aload_n 0, 1) := by decide +kernel
theorem dX0_readPlan_92 : decode cX0_readPlan 92 = .ok (.getfield 21, 3) := by decide +kernel
theorem dX0_readPlan_95 : decode cX0_readPlan 95 = .ok (.iload_n 2, 1) := by decide +kernel
theorem dX0_readPlan_96 : decode cX0_readPlan 96 = .ok (.iload_n 3, 1) := by decide +kernel
theorem dX0_readPlan_97 : decode cX0_readPlan 97 = .ok (.invokevirtual 153, 3) := by decide +kernel
theorem dX0_readPlan_100 : decode cX0_readPlan 100 = .ok (.pop, 1) := by decide +kernel
theorem dX0_readPlan_101 : decode cX0_readPlan 101 = .ok (.iinc 1 1, 3) := by decide +kernel
theorem dX0_readPlan_104 : decode cX0_readPlan 104 = .ok (.goto (-85), 3) := by decide +kernel
theorem dX0_readPlan_107 : decode cX0_readPlan 107 = .ok (.return_, 1) := by decide +kernel
theorem dX0_nextToken_0 : decode cX0_nextToken 0 = .ok (.aload_n 0, 1) := by decide +kernel
theorem dX0_nextToken_1 : decode cX0_nextToken 1 = .ok (.getfield 35, 3) := by decide +kernel
theorem dX0_nextToken_4 : decode cX0_nextToken 4 = .ok (.ifCond .ne 25, 3) := by decide +kernel
theorem dX0_nextToken_7 : decode cX0_nextToken 7 = .ok (.aload_n 0, 1) := by decide +kernel
theorem dX0_nextToken_8 : decode cX0_nextToken 8 = .ok (.getfield 12, 3) := by decide +kernel
theorem dX0_nextToken_11 : decode cX0_nextToken 11 = .ok (.invokevirtual 156, 3) := by decide +kernel
theorem dX0_nextToken_14 : decode cX0_nextToken 14 = .ok (.aload_n 0, 1) := by decide +kernel
theorem dX0_nextToken_15 : decode cX0_nextToken 15 = .ok (.getfield 12, 3) := by decide +kernel
theorem dX0_nextToken_18 : decode cX0_nextToken 18 = .ok (.getfield 52, 3) := by decide +kernel
theorem dX0_nextToken_21 : decode cX0_nextToken 21 = .ok (.ifCond .ne 8, 3) := by decide +kernel
theorem dX0_nextToken_24 : decode cX0_nextToken 24 = .ok (.aload_n 0, 1) := by decide +kernel
theorem dX0_nextToken_25 : decode cX0_nextToken 25 = .ok (.iconst 1, 1) := by decide +kernel
theorem dX0_nextToken_26 : decode cX0_nextToken 26 = .ok (.invokevirtual 82, 3) := by decide +kernel
theorem dX0_nextToken_29 : decode cX0_nextToken 29 = .ok (.aload_n 0, 1) := by decide +kernel
theorem dX0_nextToken_30 : decode cX0_nextToken 30 = .ok (.getfield 35, 3) := by decide +kernel
theorem dX0_nextToken_33 : decode cX0_nextToken 33 = .ok (.ifCond .ne 7, 3) := by decide +kernel
theorem dX0_nextToken_36 : decode cX0_nextToken 36 = .ok (.iconst 1, 1) := by decide +kernel
theorem dX0_nextToken_37 : decode cX0_nextToken 37 = .ok (.goto 4, 3) := by decide +kernel
theorem dX0_nextToken_40 : decode cX0_nextToken 40 = .ok (.iconst 0, 1) := by decide +kernel
theorem dX0_nextToken_41 : decode cX0_nextToken 41 = .ok (.ireturn, 1) := by decide +kernel
theorem dX0_nextNumber_0 : decode cX0_nextNumber 0 = .ok (.aload_n 0, 1) := by decide +kernel
theorem dX0_nextNumber_1 : decode cX0_nextNumber 1 = .ok (.invokevirtual 48, 3) := by decide +kernel
theorem dX0_nextNumber_4 : decode cX0_nextNumber 4 = .ok (.ifCond .eq 11, 3) := by decide +kernel
theorem dX0_nextNumber_7 : decode cX0_nextNumber 7 = .ok (.aload_n 0, 1) := by decide +kernel
theorem dX0_nextNumber_8 : decode cX0_nextNumber 8 = .ok (.iload_n 1, 1) := by decide +kernel
theorem dX0_nextNumber_9 : decode cX0_nextNumber 9 = .ok (.invokevirtual 120, 3) := by decide +kernel
theorem dX0_nextNumber_12 : decode cX0_nextNumber 12 = .ok (.goto 5, 3) := by decide +kernel
theorem dX0_nextNumber_15 : decode cX0_nextNumber 15 = .ok (.bipush (-4), 2) := by decide +kernel
theorem dX0_nextNumber_17 : decode cX0_nextNumber 17 = .ok (.ireturn, 1) := by decide +kernel
theorem dX0_numberHere_0 : decode cX0_numberHere 0 = .ok (.aload_n 0, 1) := by decide +kernel
theorem dX0_numberHere_1 : decode cX0_numberHere 1 = .ok (.getfield 35, 3) := by decide +kernel
theorem dX0_numberHere_4 : decode cX0_numberHere 4 = .ok (.ifCond .ne 19, 3) := by decide +kernel
theorem dX0_numberHere_7 : decode cX0_numberHere 7 = .ok (.aload_n 0, 1) := by decide +kernel
theorem dX0_numberHere_8 : decode cX0_numberHere 8 = .ok (.getfield 12, 3) := by decide +kernel
theorem dX0_numberHere_11 : decode cX0_numberHere 11 = .ok (.getfield 52, 3) := by decide +kernel
theorem dX0_numberHere_14 : decode cX0_numberHere 14 = .ok (.iconst 2, 1) := by decide +kernel
theorem dX0_numberHere_15 : decode cX0_numberHere 15 = .ok (.if_icmp .eq 8, 3) := by decide +kernel
theorem dX0_numberHere_18 : decode cX0_numberHere 18 = .ok (.aload_n 0, 1) := by decide +kernel
theorem dX0_numberHere_19 : decode cX0_numberHere 19 = .ok (.iconst 2, 1) := by decide +kernel
theorem dX0_numberHere_20 : decode cX0_numberHere 20 = .ok (.invokevirtual 82, 3) := by decide +kernel
theorem dX0_numberHere_23 : decode cX0_numberHere 23 = .ok (.aload_n 0, 1) := by decide +kernel
theorem dX0_numberHere_24 : decode cX0_numberHere 24 = .ok (.getfield 35, 3) := by decide +kernel
theorem dX0_numberHere_27 : decode cX0_numberHere 27 = .ok (.ifCond .ne 19, 3) := by decide +kernel
theorem dX0_numberHere_30 : decode cX0_numberHere 30 = .ok (.aload_n 0, 1) := by decide +kernel
theorem dX0_numberHere_31 : decode cX0_numberHere 31 = .ok (.getfield 12, 3) := by decide +kernel
theorem dX0_numberHere_34 : decode cX0_numberHere 34 = .ok (.getfield 159, 3) := by decide +kernel
theorem dX0_numberHere_37 : decode cX0_numberHere 37 = .ok (.iload_n 1, 1) := by decide +kernel
theorem dX0_numberHere_38 : decode cX0_numberHere 38 = .ok (.if_icmp .le 8, 3) := by decide +kernel
theorem dX0_numberHere_41 : decode cX0_numberHere 41 = .ok (.aload_n 0, 1) := by decide +kernel
theorem dX0_numberHere_42 : decode cX0_numberHere 42 = .ok (.iconst 3, 1) := by decide +kernel
theorem dX0_numberHere_43 : decode cX0_numberHere 43 = .ok (.invokevirtual 82, 3) := by decide +kernel
theorem dX0_numberHere_46 : decode cX0_numberHere 46 = .ok (.aload_n 0, 1) := by decide +kernel
theorem dX0_numberHere_47 : decode cX0_numberHere 47 = .ok (.getfield 35, 3) := by decide +kernel
theorem dX0_numberHere_50 : decode cX0_numberHere 50 = .ok (.ifCond .ne 13, 3) := by decide +kernel
theorem dX0_numberHere_53 : decode cX0_numberHere 53 = .ok (.aload_n 0, 1) := by decide +kernel
theorem dX0_numberHere_54 : decode cX0_numberHere 54 = .ok (.getfield 12, 3) := by decide +kernel
theorem dX0_numberHere_57 : decode cX0_numberHere 57 = .ok (.getfield 159, 3) := by decide +kernel
theorem dX0_numberHere_60 : decode cX0_numberHere 60 = .ok (.goto 5, 3) := by decide +kernel
theorem dX0_numberHere_63 : decode cX0_numberHere 63 = .ok (.bipush (-4), 2) := by decide +kernel
theorem dX0_numberHere_65 : decode cX0_numberHere 65 = .ok (.ireturn, 1) := by decide +kernel
theorem dX0_takeSign_0 : decode cX0_takeSign 0 = .ok (.aload_n 0, 1) := by decide +kernel
theorem dX0_takeSign_1 : decode cX0_takeSign 1 = .ok (.getfield 35, 3) := by decide +kernel
theorem dX0_takeSign_4 : decode cX0_takeSign 4 = .ok (.ifCond .ne 19, 3) := by decide +kernel
theorem dX0_takeSign_7 : decode cX0_takeSign 7 = .ok (.aload_n 0, 1) := by decide +kernel
theorem dX0_takeSign_8 : decode cX0_takeSign 8 = .ok (.getfield 12, 3) := by decide +kernel
theorem dX0_takeSign_11 : decode cX0_takeSign 11 = .ok (.getfield 52, 3) := by decide +kernel
theorem dX0_takeSign_14 : decode cX0_takeSign 14 = .ok (.iconst 3, 1) := by decide +kernel
theorem dX0_takeSign_15 : decode cX0_takeSign 15 = .ok (.if_icmp .eq 8, 3) := by decide +kernel
theorem dX0_takeSign_18 : decode cX0_takeSign 18 = .ok (.aload_n 0, 1) := by decide +kernel
theorem dX0_takeSign_19 : decode cX0_takeSign 19 = .ok (.iconst 2, 1) := by decide +kernel
theorem dX0_takeSign_20 : decode cX0_takeSign 20 = .ok (.invokevirtual 82, 3) := by decide +kernel
theorem dX0_takeSign_23 : decode cX0_takeSign 23 = .ok (.return_, 1) := by decide +kernel
theorem dX0_refuse_0 : decode cX0_refuse 0 = .ok (.aload_n 0, 1) := by decide +kernel
theorem dX0_refuse_1 : decode cX0_refuse 1 = .ok (.getfield 35, 3) := by decide +kernel
theorem dX0_refuse_4 : decode cX0_refuse 4 = .ok (.ifCond .ne 19, 3) := by decide +kernel
theorem dX0_refuse_7 : decode cX0_refuse 7 = .ok (.aload_n 0, 1) := by decide +kernel
theorem dX0_refuse_8 : decode cX0_refuse 8 = .ok (.iload_n 1, 1) := by decide +kernel
theorem dX0_refuse_9 : decode cX0_refuse 9 = .ok (.putfield 35, 3) := by decide +kernel
theorem dX0_refuse_12 : decode cX0_refuse 12 = .ok (.aload_n 0, 1) := by decide +kernel
theorem dX0_refuse_13 : decode cX0_refuse 13 = .ok (.aload_n 0, 1) := by decide +kernel
theorem dX0_refuse_14 : decode cX0_refuse 14 = .ok (.getfield 12, 3) := by decide +kernel
theorem dX0_refuse_17 : decode cX0_refuse 17 = .ok (.getfield 162, 3) := by decide +kernel
theorem dX0_refuse_20 : decode cX0_refuse 20 = .ok (.putfield 38, 3) := by decide +kernel
theorem dX0_refuse_23 : decode cX0_refuse 23 = .ok (.return_, 1) := by decide +kernel
theorem dX1_init_0 : decode cX1_init 0 = .ok (.aload_n 0, 1) := by decide +kernel
theorem dX1_init_1 : decode cX1_init 1 = .ok (.invokespecial 3, 3) := by decide +kernel
theorem dX1_init_4 : decode cX1_init 4 = .ok (.aload_n 0, 1) := by decide +kernel
theorem dX1_init_5 : decode cX1_init 5 = .ok (.bipush 40, 2) := by decide +kernel
theorem dX1_init_7 : decode cX1_init 7 = .ok (.newarray .int, 2) := by decide +kernel
theorem dX1_init_9 : decode cX1_init 9 = .ok (.putfield 9, 3) := by decide +kernel
theorem dX1_init_12 : decode cX1_init 12 = .ok (.aload_n 0, 1) := by decide +kernel
theorem dX1_init_13 : decode cX1_init 13 = .ok (.iconst (-1), 1) := by decide +kernel
theorem dX1_init_14 : decode cX1_init 14 = .ok (.putfield 15, 3) := by decide +kernel
theorem dX1_init_17 : decode cX1_init 17 = .ok (.return_, 1) := by decide +kernel
theorem dX1_renew_0 : decode cX1_renew 0 = .ok (.aload_n 0, 1) := by decide +kernel
theorem dX1_renew_1 : decode cX1_renew 1 = .ok (.iload_n 1, 1) := by decide +kernel
theorem dX1_renew_2 : decode cX1_renew 2 = .ok (.putfield 19, 3) := by decide +kernel
theorem dX1_renew_5 : decode cX1_renew 5 = .ok (.aload_n 0, 1) := by decide +kernel
theorem dX1_renew_6 : decode cX1_renew 6 = .ok (.iload_n 2, 1) := by decide +kernel
theorem dX1_renew_7 : decode cX1_renew 7 = .ok (.putfield 15, 3) := by decide +kernel
theorem dX1_renew_10 : decode cX1_renew 10 = .ok (.aload_n 0, 1) := by decide +kernel
theorem dX1_renew_11 : decode cX1_renew 11 = .ok (.getfield 9, 3) := by decide +kernel
theorem dX1_renew_14 : decode cX1_renew 14 = .ok (.iconst 0, 1) := by decide +kernel
theorem dX1_renew_15 : decode cX1_renew 15 = .ok (.invokestatic 22, 3) := by decide +kernel
theorem dX1_renew_18 : decode cX1_renew 18 = .ok (.return_, 1) := by decide +kernel
theorem dX1_faultAt_0 : decode cX1_faultAt 0 = .ok (.aload_n 0, 1) := by decide +kernel
theorem dX1_faultAt_1 : decode cX1_faultAt 1 = .ok (.getfield 15, 3) := by decide +kernel
theorem dX1_faultAt_4 : decode cX1_faultAt 4 = .ok (.ifCond .ge 5, 3) := by decide +kernel
theorem dX1_faultAt_7 : decode cX1_faultAt 7 = .ok (.iconst 1, 1) := by decide +kernel
theorem dX1_faultAt_8 : decode cX1_faultAt 8 = .ok (.ireturn, 1) := by decide +kernel
theorem dX1_faultAt_9 : decode cX1_faultAt 9 = .ok (.aload_n 0, 1) := by decide +kernel
theorem dX1_faultAt_10 : decode cX1_faultAt 10 = .ok (.getfield 19, 3) := by decide +kernel
theorem dX1_faultAt_13 : decode cX1_faultAt 13 = .ok (.iload_n 1, 1) := by decide +kernel
theorem dX1_faultAt_14 : decode cX1_faultAt 14 = .ok (.if_icmp .eq 5, 3) := by decide +kernel
theorem dX1_faultAt_17 : decode cX1_faultAt 17 = .ok (.iconst 3, 1) := by decide +kernel
theorem dX1_faultAt_18 : decode cX1_faultAt 18 = .ok (.ireturn, 1) := by decide +kernel
theorem dX1_faultAt_19 : decode cX1_faultAt 19 = .ok (.lload_n 2, 1) := by decide +kernel
theorem dX1_faultAt_20 : decode cX1_faultAt 20 = .ok (.lconst 0, 1) := by decide +kernel
theorem dX1_faultAt_21 : decode cX1_faultAt 21 = .ok (.lcmp, 1) := by decide +kernel
theorem dX1_faultAt_22 : decode cX1_faultAt 22 = .ok (.ifCond .lt 21, 3) := by decide +kernel
theorem dX1_faultAt_25 : decode cX1_faultAt 25 = .ok (.lload_n 2, 1) := by decide +kernel
theorem dX1_faultAt_26 : decode cX1_faultAt 26 = .ok (.aload_n 0, 1) := by decide +kernel
theorem dX1_faultAt_27 : decode cX1_faultAt 27 = .ok (.getfield 15, 3) := by decide +kernel
theorem dX1_faultAt_30 : decode cX1_faultAt 30 = .ok (.i2l, 1) := by decide +kernel
theorem dX1_faultAt_31 : decode cX1_faultAt 31 = .ok (.lcmp, 1) := by decide +kernel
theorem dX1_faultAt_32 : decode cX1_faultAt 32 = .ok (.ifCond .ge 11, 3) := by decide +kernel
theorem dX1_faultAt_35 : decode cX1_faultAt 35 = .ok (.lload_n 2, 1) := by decide +kernel
theorem dX1_faultAt_36 : decode cX1_faultAt 36 = .ok (.ldc2_w 28, 3) := by decide +kernel
theorem dX1_faultAt_39 : decode cX1_faultAt 39 = .ok (.lcmp, 1) := by decide +kernel
theorem dX1_faultAt_40 : decode cX1_faultAt 40 = .ok (.ifCond .lt 7, 3) := by decide +kernel
theorem dX1_faultAt_43 : decode cX1_faultAt 43 = .ok (.iconst 2, 1) := by decide +kernel
theorem dX1_faultAt_44 : decode cX1_faultAt 44 = .ok (.goto 4, 3) := by decide +kernel
theorem dX1_faultAt_47 : decode cX1_faultAt 47 = .ok (.iconst 0, 1) := by decide +kernel
theorem dX1_faultAt_48 : decode cX1_faultAt 48 = .ok (.ireturn, 1) := by decide +kernel
theorem dX1_faultAtTwo_0 : decode cX1_faultAtTwo 0 = .ok (.iload_n 2, 1) := by decide +kernel
theorem dX1_faultAtTwo_1 : decode cX1_faultAtTwo 1 = .ok (.i2l, 1) := by decide +kernel
theorem dX1_faultAtTwo_2 : decode cX1_faultAtTwo 2 = .ok (.ldc2_w 30, 3) := by decide +kernel
theorem dX1_faultAtTwo_5 : decode cX1_faultAtTwo 5 = .ok (.iload_n 3, 1) := by decide +kernel
theorem dX1_faultAtTwo_6 : decode cX1_faultAtTwo 6 = .ok (.i2l, 1) := by decide +kernel
theorem dX1_faultAtTwo_7 : decode cX1_faultAtTwo 7 = .ok (.lmul, 1) := by decide +kernel
theorem dX1_faultAtTwo_8 : decode cX1_faultAtTwo 8 = .ok (.ladd, 1) := by decide +kernel
theorem dX1_faultAtTwo_9 : decode cX1_faultAtTwo 9 = .ok (.lstore 4, 2) := by decide +kernel
theorem dX1_faultAtTwo_11 : decode cX1_faultAtTwo 11 = .ok (.aload_n 0, 1) := by decide +kernel
theorem dX1_faultAtTwo_12 : decode cX1_faultAtTwo 12 = .ok (.iload_n 1, 1) := by decide +kernel
theorem dX1_faultAtTwo_13 : decode cX1_faultAtTwo 13 = .ok (.lload 4, 2) := by decide +kernel
theorem dX1_faultAtTwo_15 : decode cX1_faultAtTwo 15 = .ok (.invokevirtual 32, 3) := by decide +kernel
theorem dX1_faultAtTwo_18 : decode cX1_faultAtTwo 18 = .ok (.istore 6, 2) := by decide +kernel
theorem dX1_faultAtTwo_20 : decode cX1_faultAtTwo 20 = .ok (.iload 6, 2) := by decide +kernel
theorem dX1_faultAtTwo_22 : decode cX1_faultAtTwo 22 = .ok (.ifCond .eq 8, 3) := by decide +kernel
theorem dX1_faultAtTwo_25 : decode cX1_faultAtTwo 25 = .ok (.iload 6, 2) := by decide +kernel
theorem dX1_faultAtTwo_27 : decode cX1_faultAtTwo 27 = .ok (.goto 12, 3) := by decide +kernel
theorem dX1_faultAtTwo_30 : decode cX1_faultAtTwo 30 = .ok (.aload_n 0, 1) := by decide +kernel
theorem dX1_faultAtTwo_31 : decode cX1_faultAtTwo 31 = .ok (.iload_n 1, 1) := by decide +kernel
theorem dX1_faultAtTwo_32 : decode cX1_faultAtTwo 32 = .ok (.lload 4, 2) := by decide +kernel
theorem dX1_faultAtTwo_34 : decode cX1_faultAtTwo 34 = .ok (.lconst 1, 1) := by decide +kernel
theorem dX1_faultAtTwo_35 : decode cX1_faultAtTwo 35 = .ok (.ladd, 1) := by decide +kernel
theorem dX1_faultAtTwo_36 : decode cX1_faultAtTwo 36 = .ok (.invokevirtual 32, 3) := by decide +kernel
theorem dX1_faultAtTwo_39 : decode cX1_faultAtTwo 39 = .ok (.ireturn, 1) := by decide +kernel
theorem dX2_init_0 : decode cX2_init 0 = .ok (.aload_n 0, 1) := by decide +kernel
theorem dX2_init_1 : decode cX2_init 1 = .ok (.invokespecial 3, 3) := by decide +kernel
theorem dX2_init_4 : decode cX2_init 4 = .ok (.aload_n 0, 1) := by decide +kernel
theorem dX2_init_5 : decode cX2_init 5 = .ok (.bipush 6, 2) := by decide +kernel
theorem dX2_init_7 : decode cX2_init 7 = .ok (.newarray .int, 2) := by decide +kernel
theorem dX2_init_9 : decode cX2_init 9 = .ok (.putfield 9, 3) := by decide +kernel
theorem dX2_init_12 : decode cX2_init 12 = .ok (.aload_n 0, 1) := by decide +kernel
theorem dX2_init_13 : decode cX2_init 13 = .ok (.bipush 6, 2) := by decide +kernel
theorem dX2_init_15 : decode cX2_init 15 = .ok (.newarray .int, 2) := by decide +kernel
theorem dX2_init_17 : decode cX2_init 17 = .ok (.putfield 15, 3) := by decide +kernel
theorem dX2_init_20 : decode cX2_init 20 = .ok (.aload_n 0, 1) := by decide +kernel
theorem dX2_init_21 : decode cX2_init 21 = .ok (.bipush 6, 2) := by decide +kernel
theorem dX2_init_23 : decode cX2_init 23 = .ok (.newarray .boolean, 2) := by decide +kernel
theorem dX2_init_25 : decode cX2_init 25 = .ok (.putfield 18, 3) := by decide +kernel
theorem dX2_init_28 : decode cX2_init 28 = .ok (.return_, 1) := by decide +kernel
theorem dX2_note_0 : decode cX2_note 0 = .ok (.aload_n 0, 1) := by decide +kernel
theorem dX2_note_1 : decode cX2_note 1 = .ok (.getfield 22, 3) := by decide +kernel
theorem dX2_note_4 : decode cX2_note 4 = .ok (.ifCond .lt 12, 3) := by decide +kernel
theorem dX2_note_7 : decode cX2_note 7 = .ok (.aload_n 0, 1) := by decide +kernel
theorem dX2_note_8 : decode cX2_note 8 = .ok (.getfield 22, 3) := by decide +kernel
theorem dX2_note_11 : decode cX2_note 11 = .ok (.bipush 6, 2) := by decide +kernel
theorem dX2_note_13 : decode cX2_note 13 = .ok (.if_icmp .lt 5, 3) := by decide +kernel
theorem dX2_note_16 : decode cX2_note 16 = .ok (.iconst 0, 1) := by decide +kernel
theorem dX2_note_17 : decode cX2_note 17 = .ok (.ireturn, 1) := by decide +kernel
theorem dX2_note_18 : decode cX2_note 18 = .ok (.aload_n 0, 1) := by decide +kernel
theorem dX2_note_19 : decode cX2_note 19 = .ok (.getfield 9, 3) := by decide +kernel
theorem dX2_note_22 : decode cX2_note 22 = .ok (.aload_n 0, 1) := by decide +kernel
theorem dX2_note_23 : decode cX2_note 23 = .ok (.getfield 22, 3) := by decide +kernel
theorem dX2_note_26 : decode cX2_note 26 = .ok (.iload_n 1, 1) := by decide +kernel
theorem dX2_note_27 : decode cX2_note 27 = .ok (.iastore, 1) := by decide +kernel
theorem dX2_note_28 : decode cX2_note 28 = .ok (.aload_n 0, 1) := by decide +kernel
theorem dX2_note_29 : decode cX2_note 29 = .ok (.getfield 15, 3) := by decide +kernel
theorem dX2_note_32 : decode cX2_note 32 = .ok (.aload_n 0, 1) := by decide +kernel
theorem dX2_note_33 : decode cX2_note 33 = .ok (.getfield 22, 3) := by decide +kernel
theorem dX2_note_36 : decode cX2_note 36 = .ok (.iload_n 2, 1) := by decide +kernel
theorem dX2_note_37 : decode cX2_note 37 = .ok (.iastore, 1) := by decide +kernel
theorem dX2_note_38 : decode cX2_note 38 = .ok (.aload_n 0, 1) := by decide +kernel
theorem dX2_note_39 : decode cX2_note 39 = .ok (.getfield 18, 3) := by decide +kernel
theorem dX2_note_42 : decode cX2_note 42 = .ok (.aload_n 0, 1) := by decide +kernel
theorem dX2_note_43 : decode cX2_note 43 = .ok (.getfield 22, 3) := by decide +kernel
theorem dX2_note_46 : decode cX2_note 46 = .ok (.iload_n 3, 1) := by decide +kernel
theorem dX2_note_47 : decode cX2_note 47 = .ok (.bastore, 1) := by decide +kernel
theorem dX2_note_48 : decode cX2_note 48 = .ok (.aload_n 0, 1) := by decide +kernel
theorem dX2_note_49 : decode cX2_note 49 = .ok (.dup, 1) := by decide +kernel
theorem dX2_note_50 : decode cX2_note 50 = .ok (.getfield 22, 3) := by decide +kernel
theorem dX2_note_53 : decode cX2_note 53 = .ok (.iconst 1, 1) := by decide +kernel
theorem dX2_note_54 : decode cX2_note 54 = .ok (.iadd, 1) := by decide +kernel
theorem dX2_note_55 : decode cX2_note 55 = .ok (.putfield 22, 3) := by decide +kernel
theorem dX2_note_58 : decode cX2_note 58 = .ok (.iconst 1, 1) := by decide +kernel
theorem dX2_note_59 : decode cX2_note 59 = .ok (.ireturn, 1) := by decide +kernel
theorem dX2_allHoldIn_0 : decode cX2_allHoldIn 0 = .ok (.iconst 0, 1) := by decide +kernel
theorem dX2_allHoldIn_1 : decode cX2_allHoldIn 1 = .ok (.istore_n 2, 1) := by decide +kernel
theorem dX2_allHoldIn_2 : decode cX2_allHoldIn 2 = .ok (.iload_n 2, 1) := by decide +kernel
theorem dX2_allHoldIn_3 : decode cX2_allHoldIn 3 = .ok (.aload_n 0, 1) := by decide +kernel
theorem dX2_allHoldIn_4 : decode cX2_allHoldIn 4 = .ok (.getfield 22, 3) := by decide +kernel
theorem dX2_allHoldIn_7 : decode cX2_allHoldIn 7 = .ok (.if_icmp .ge 58, 3) := by decide +kernel
theorem dX2_allHoldIn_10 : decode cX2_allHoldIn 10 = .ok (.iload_n 2, 1) := by decide +kernel
theorem dX2_allHoldIn_11 : decode cX2_allHoldIn 11 = .ok (.bipush 6, 2) := by decide +kernel
theorem dX2_allHoldIn_13 : decode cX2_allHoldIn 13 = .ok (.if_icmp .ge 52, 3) := by decide +kernel
theorem dX2_allHoldIn_16 : decode cX2_allHoldIn 16 = .ok (.aload_n 1, 1) := by decide +kernel
theorem dX2_allHoldIn_17 : decode cX2_allHoldIn 17 = .ok (.aload_n 0, 1) := by decide +kernel
theorem dX2_allHoldIn_18 : decode cX2_allHoldIn 18 = .ok (.getfield 9, 3) := by decide +kernel
theorem dX2_allHoldIn_21 : decode cX2_allHoldIn 21 = .ok (.iload_n 2, 1) := by decide +kernel
theorem dX2_allHoldIn_22 : decode cX2_allHoldIn 22 = .ok (.iaload, 1) := by decide +kernel
theorem dX2_allHoldIn_23 : decode cX2_allHoldIn 23 = .ok (.invokevirtual 26, 3) := by decide +kernel
theorem dX2_allHoldIn_26 : decode cX2_allHoldIn 26 = .ok (.ifCond .eq 33, 3) := by decide +kernel
theorem dX2_allHoldIn_29 : decode cX2_allHoldIn 29 = .ok (.aload_n 1, 1) := by decide +kernel
theorem dX2_allHoldIn_30 : decode cX2_allHoldIn 30 = .ok (.aload_n 0, 1) := by decide +kernel
theorem dX2_allHoldIn_31 : decode cX2_allHoldIn 31 = .ok (.getfield 9, 3) := by decide +kernel
theorem dX2_allHoldIn_34 : decode cX2_allHoldIn 34 = .ok (.iload_n 2, 1) := by decide +kernel
theorem dX2_allHoldIn_35 : decode cX2_allHoldIn 35 = .ok (.iaload, 1) := by decide +kernel
theorem dX2_allHoldIn_36 : decode cX2_allHoldIn 36 = .ok (.invokevirtual 32, 3) := by decide +kernel
theorem dX2_allHoldIn_39 : decode cX2_allHoldIn 39 = .ok (.aload_n 0, 1) := by decide +kernel
theorem dX2_allHoldIn_40 : decode cX2_allHoldIn 40 = .ok (.getfield 15, 3) := by decide +kernel
theorem dX2_allHoldIn_43 : decode cX2_allHoldIn 43 = .ok (.iload_n 2, 1) := by decide +kernel
theorem dX2_allHoldIn_44 : decode cX2_allHoldIn 44 = .ok (.iaload, 1) := by decide +kernel
theorem dX2_allHoldIn_45 : decode cX2_allHoldIn 45 = .ok (.invokestatic 36, 3) := by decide +kernel
theorem dX2_allHoldIn_48 : decode cX2_allHoldIn 48 = .ok (.aload_n 0, 1) := by decide +kernel
theorem dX2_allHoldIn_49 : decode cX2_allHoldIn 49 = .ok (.getfield 18, 3) := by decide +kernel
theorem dX2_allHoldIn_52 : decode cX2_allHoldIn 52 = .ok (.iload_n 2, 1) := by decide +kernel
theorem dX2_allHoldIn_53 : decode cX2_allHoldIn 53 = .ok (.baload, 1) := by decide +kernel
theorem dX2_allHoldIn_54 : decode cX2_allHoldIn 54 = .ok (.if_icmp .eq 5, 3) := by decide +kernel
theorem dX2_allHoldIn_57 : decode cX2_allHoldIn 57 = .ok (.iconst 0, 1) := by decide +kernel
theorem dX2_allHoldIn_58 : decode cX2_allHoldIn 58 = .ok (.ireturn, 1) := by decide +kernel
theorem dX2_allHoldIn_59 : decode cX2_allHoldIn 59 = .ok (.iinc 2 1, 3) := by decide +kernel
theorem dX2_allHoldIn_62 : decode cX2_allHoldIn 62 = .ok (.goto (-60), 3) := by decide +kernel
theorem dX2_allHoldIn_65 : decode cX2_allHoldIn 65 = .ok (.iconst 1, 1) := by decide +kernel
theorem dX2_allHoldIn_66 : decode cX2_allHoldIn 66 = .ok (.ireturn, 1) := by decide +kernel
theorem dX3_init_0 : decode cX3_init 0 = .ok (.aload_n 0, 1) := by decide +kernel
theorem dX3_init_1 : decode cX3_init 1 = .ok (.invokespecial 3, 3) := by decide +kernel
theorem dX3_init_4 : decode cX3_init 4 = .ok (.aload_n 0, 1) := by decide +kernel
theorem dX3_init_5 : decode cX3_init 5 = .ok (.sipush 160, 3) := by decide +kernel
theorem dX3_init_8 : decode cX3_init 8 = .ok (.newarray .byte, 2) := by decide +kernel
theorem dX3_init_10 : decode cX3_init 10 = .ok (.putfield 9, 3) := by decide +kernel
theorem dX3_init_13 : decode cX3_init 13 = .ok (.return_, 1) := by decide +kernel
theorem dX3_append_0 : decode cX3_append 0 = .ok (.aload_n 0, 1) := by decide +kernel
theorem dX3_append_1 : decode cX3_append 1 = .ok (.getfield 15, 3) := by decide +kernel
theorem dX3_append_4 : decode cX3_append 4 = .ok (.ifCond .lt 13, 3) := by decide +kernel
theorem dX3_append_7 : decode cX3_append 7 = .ok (.aload_n 0, 1) := by decide +kernel
theorem dX3_append_8 : decode cX3_append 8 = .ok (.getfield 15, 3) := by decide +kernel
theorem dX3_append_11 : decode cX3_append 11 = .ok (.sipush 160, 3) := by decide +kernel
theorem dX3_append_14 : decode cX3_append 14 = .ok (.if_icmp .lt 5, 3) := by decide +kernel
theorem dX3_append_17 : decode cX3_append 17 = .ok (.iconst 0, 1) := by decide +kernel
theorem dX3_append_18 : decode cX3_append 18 = .ok (.ireturn, 1) := by decide +kernel
theorem dX3_append_19 : decode cX3_append 19 = .ok (.aload_n 0, 1) := by decide +kernel
theorem dX3_append_20 : decode cX3_append 20 = .ok (.getfield 9, 3) := by decide +kernel
theorem dX3_append_23 : decode cX3_append 23 = .ok (.aload_n 0, 1) := by decide +kernel
theorem dX3_append_24 : decode cX3_append 24 = .ok (.getfield 15, 3) := by decide +kernel
theorem dX3_append_27 : decode cX3_append 27 = .ok (.iload_n 1, 1) := by decide +kernel
theorem dX3_append_28 : decode cX3_append 28 = .ok (.i2b, 1) := by decide +kernel
theorem dX3_append_29 : decode cX3_append 29 = .ok (.bastore, 1) := by decide +kernel
theorem dX3_append_30 : decode cX3_append 30 = .ok (.aload_n 0, 1) := by decide +kernel
theorem dX3_append_31 : decode cX3_append 31 = .ok (.dup, 1) := by decide +kernel
theorem dX3_append_32 : decode cX3_append 32 = .ok (.getfield 15, 3) := by decide +kernel
theorem dX3_append_35 : decode cX3_append 35 = .ok (.iconst 1, 1) := by decide +kernel
theorem dX3_append_36 : decode cX3_append 36 = .ok (.iadd, 1) := by decide +kernel
theorem dX3_append_37 : decode cX3_append 37 = .ok (.putfield 15, 3) := by decide +kernel
theorem dX3_append_40 : decode cX3_append 40 = .ok (.iconst 1, 1) := by decide +kernel
theorem dX3_append_41 : decode cX3_append 41 = .ok (.ireturn, 1) := by decide +kernel
theorem dX3_rewind_0 : decode cX3_rewind 0 = .ok (.aload_n 0, 1) := by decide +kernel
theorem dX3_rewind_1 : decode cX3_rewind 1 = .ok (.iconst 0, 1) := by decide +kernel
theorem dX3_rewind_2 : decode cX3_rewind 2 = .ok (.putfield 19, 3) := by decide +kernel
theorem dX3_rewind_5 : decode cX3_rewind 5 = .ok (.return_, 1) := by decide +kernel
theorem dX3_readToken_0 : decode cX3_readToken 0 = .ok (.aload_n 0, 1) := by decide +kernel
theorem dX3_readToken_1 : decode cX3_readToken 1 = .ok (.getfield 19, 3) := by decide +kernel
theorem dX3_readToken_4 : decode cX3_readToken 4 = .ok (.aload_n 0, 1) := by decide +kernel
theorem dX3_readToken_5 : decode cX3_readToken 5 = .ok (.getfield 15, 3) := by decide +kernel
theorem dX3_readToken_8 : decode cX3_readToken 8 = .ok (.if_icmp .ge 29, 3) := by decide +kernel
theorem dX3_readToken_11 : decode cX3_readToken 11 = .ok (.aload_n 0, 1) := by decide +kernel
theorem dX3_readToken_12 : decode cX3_readToken 12 = .ok (.aload_n 0, 1) := by decide +kernel
theorem dX3_readToken_13 : decode cX3_readToken 13 = .ok (.getfield 19, 3) := by decide +kernel
theorem dX3_readToken_16 : decode cX3_readToken 16 = .ok (.invokevirtual 22, 3) := by decide +kernel
theorem dX3_readToken_19 : decode cX3_readToken 19 = .ok (.bipush 32, 2) := by decide +kernel
theorem dX3_readToken_21 : decode cX3_readToken 21 = .ok (.if_icmp .ne 16, 3) := by decide +kernel
theorem dX3_readToken_24 : decode cX3_readToken 24 = .ok (.aload_n 0, 1) := by decide +kernel
theorem dX3_readToken_25 : decode cX3_readToken 25 = .ok (.dup, 1) := by decide +kernel
theorem dX3_readToken_26 : decode cX3_readToken 26 = .ok (.getfield 19, 3) := by decide +kernel
theorem dX3_readToken_29 : decode cX3_readToken 29 = .ok (.iconst 1, 1) := by decide +kernel
theorem dX3_readToken_30 : decode cX3_readToken 30 = .ok (.iadd, 1) := by decide +kernel
theorem dX3_readToken_31 : decode cX3_readToken 31 = .ok (.putfield 19, 3) := by decide +kernel
theorem dX3_readToken_34 : decode cX3_readToken 34 = .ok (.goto (-34), 3) := by decide +kernel
theorem dX3_readToken_37 : decode cX3_readToken 37 = .ok (.aload_n 0, 1) := by decide +kernel
theorem dX3_readToken_38 : decode cX3_readToken 38 = .ok (.aload_n 0, 1) := by decide +kernel
theorem dX3_readToken_39 : decode cX3_readToken 39 = .ok (.getfield 19, 3) := by decide +kernel
theorem dX3_readToken_42 : decode cX3_readToken 42 = .ok (.putfield 26, 3) := by decide +kernel
theorem dX3_readToken_45 : decode cX3_readToken 45 = .ok (.aload_n 0, 1) := by decide +kernel
theorem dX3_readToken_46 : decode cX3_readToken 46 = .ok (.iconst 0, 1) := by decide +kernel
theorem dX3_readToken_47 : decode cX3_readToken 47 = .ok (.putfield 29, 3) := by decide +kernel
theorem dX3_readToken_50 : decode cX3_readToken 50 = .ok (.aload_n 0, 1) := by decide +kernel
theorem dX3_readToken_51 : decode cX3_readToken 51 = .ok (.aload_n 0, 1) := by decide +kernel
theorem dX3_readToken_52 : decode cX3_readToken 52 = .ok (.aload_n 0, 1) := by decide +kernel
theorem dX3_readToken_53 : decode cX3_readToken 53 = .ok (.getfield 19, 3) := by decide +kernel
theorem dX3_readToken_56 : decode cX3_readToken 56 = .ok (.invokevirtual 22, 3) := by decide +kernel
theorem dX3_readToken_59 : decode cX3_readToken 59 = .ok (.invokestatic 32, 3) := by decide +kernel
theorem dX3_readToken_62 : decode cX3_readToken 62 = .ok (.putfield 35, 3) := by decide +kernel
theorem dX3_readToken_65 : decode cX3_readToken 65 = .ok (.aload_n 0, 1) := by decide +kernel
theorem dX3_readToken_66 : decode cX3_readToken 66 = .ok (.getfield 35, 3) := by decide +kernel
theorem dX3_readToken_69 : decode cX3_readToken 69 = .ok (.iconst 3, 1) := by decide +kernel
theorem dX3_readToken_70 : decode cX3_readToken 70 = .ok (.if_icmp .ne 13, 3) := by decide +kernel
theorem dX3_readToken_73 : decode cX3_readToken 73 = .ok (.aload_n 0, 1) := by decide +kernel
theorem dX3_readToken_74 : decode cX3_readToken 74 = .ok (.dup, 1) := by decide +kernel
theorem dX3_readToken_75 : decode cX3_readToken 75 = .ok (.getfield 19, 3) := by decide +kernel
theorem dX3_readToken_78 : decode cX3_readToken 78 = .ok (.iconst 1, 1) := by decide +kernel
theorem dX3_readToken_79 : decode cX3_readToken 79 = .ok (.iadd, 1) := by decide +kernel
theorem dX3_readToken_80 : decode cX3_readToken 80 = .ok (.putfield 19, 3) := by decide +kernel
theorem dX3_readToken_83 : decode cX3_readToken 83 = .ok (.aload_n 0, 1) := by decide +kernel
theorem dX3_readToken_84 : decode cX3_readToken 84 = .ok (.getfield 35, 3) := by decide +kernel
theorem dX3_readToken_87 : decode cX3_readToken 87 = .ok (.iconst 1, 1) := by decide +kernel
theorem dX3_readToken_88 : decode cX3_readToken 88 = .ok (.if_icmp .eq 11, 3) := by decide +kernel
theorem dX3_readToken_91 : decode cX3_readToken 91 = .ok (.aload_n 0, 1) := by decide +kernel
theorem dX3_readToken_92 : decode cX3_readToken 92 = .ok (.getfield 35, 3) := by decide +kernel
theorem dX3_readToken_95 : decode cX3_readToken 95 = .ok (.iconst 2, 1) := by decide +kernel
theorem dX3_readToken_96 : decode cX3_readToken 96 = .ok (.if_icmp .ne 7, 3) := by decide +kernel
theorem dX3_readToken_99 : decode cX3_readToken 99 = .ok (.iconst 1, 1) := by decide +kernel
theorem dX3_readToken_100 : decode cX3_readToken 100 = .ok (.goto 4, 3) := by decide +kernel
theorem dX3_readToken_103 : decode cX3_readToken 103 = .ok (.iconst 0, 1) := by decide +kernel
theorem dX3_readToken_104 : decode cX3_readToken 104 = .ok (.istore_n 1, 1) := by decide +kernel
theorem dX3_readToken_105 : decode cX3_readToken 105 = .ok (.iload_n 1, 1) := by decide +kernel
theorem dX3_readToken_106 : decode cX3_readToken 106 = .ok (.ifCond .eq 68, 3) := by decide +kernel
theorem dX3_readToken_109 : decode cX3_readToken 109 = .ok (.aload_n 0, 1) := by decide +kernel
theorem dX3_readToken_110 : decode cX3_readToken 110 = .ok (.getfield 19, 3) := by decide +kernel
theorem dX3_readToken_113 : decode cX3_readToken 113 = .ok (.aload_n 0, 1) := by decide +kernel
theorem dX3_readToken_114 : decode cX3_readToken 114 = .ok (.getfield 15, 3) := by decide +kernel
theorem dX3_readToken_117 : decode cX3_readToken 117 = .ok (.if_icmp .ge 57, 3) := by decide +kernel
theorem dX3_readToken_120 : decode cX3_readToken 120 = .ok (.aload_n 0, 1) := by decide +kernel
theorem dX3_readToken_121 : decode cX3_readToken 121 = .ok (.aload_n 0, 1) := by decide +kernel
theorem dX3_readToken_122 : decode cX3_readToken 122 = .ok (.getfield 19, 3) := by decide +kernel
theorem dX3_readToken_125 : decode cX3_readToken 125 = .ok (.invokevirtual 22, 3) := by decide +kernel
theorem dX3_readToken_128 : decode cX3_readToken 128 = .ok (.invokestatic 32, 3) := by decide +kernel
theorem dX3_readToken_131 : decode cX3_readToken 131 = .ok (.aload_n 0, 1) := by decide +kernel
theorem dX3_readToken_132 : decode cX3_readToken 132 = .ok (.getfield 35, 3) := by decide +kernel
theorem dX3_readToken_135 : decode cX3_readToken 135 = .ok (.if_icmp .ne 39, 3) := by decide +kernel
theorem dX3_readToken_138 : decode cX3_readToken 138 = .ok (.aload_n 0, 1) := by decide +kernel
theorem dX3_readToken_139 : decode cX3_readToken 139 = .ok (.aload_n 0, 1) := by decide +kernel
theorem dX3_readToken_140 : decode cX3_readToken 140 = .ok (.getfield 29, 3) := by decide +kernel
theorem dX3_readToken_143 : decode cX3_readToken 143 = .ok (.bipush 10, 2) := by decide +kernel
theorem dX3_readToken_145 : decode cX3_readToken 145 = .ok (.imul, 1) := by decide +kernel
theorem dX3_readToken_146 : decode cX3_readToken 146 = .ok (.aload_n 0, 1) := by decide +kernel
theorem dX3_readToken_147 : decode cX3_readToken 147 = .ok (.aload_n 0, 1) := by decide +kernel
theorem dX3_readToken_148 : decode cX3_readToken 148 = .ok (.getfield 19, 3) := by decide +kernel
theorem dX3_readToken_151 : decode cX3_readToken 151 = .ok (.invokevirtual 22, 3) := by decide +kernel
theorem dX3_readToken_154 : decode cX3_readToken 154 = .ok (.iadd, 1) := by decide +kernel
theorem dX3_readToken_155 : decode cX3_readToken 155 = .ok (.bipush 48, 2) := by decide +kernel
theorem dX3_readToken_157 : decode cX3_readToken 157 = .ok (.isub, 1) := by decide +kernel
theorem dX3_readToken_158 : decode cX3_readToken 158 = .ok (.putfield 29, 3) := by decide +kernel
theorem dX3_readToken_161 : decode cX3_readToken 161 = .ok (.aload_n 0, 1) := by decide +kernel
theorem dX3_readToken_162 : decode cX3_readToken 162 = .ok (.dup, 1) := by decide +kernel
theorem dX3_readToken_163 : decode cX3_readToken 163 = .ok (.getfield 19, 3) := by decide +kernel
theorem dX3_readToken_166 : decode cX3_readToken 166 = .ok (.iconst 1, 1) := by decide +kernel
theorem dX3_readToken_167 : decode cX3_readToken 167 = .ok (.iadd, 1) := by decide +kernel
theorem dX3_readToken_168 : decode cX3_readToken 168 = .ok (.putfield 19, 3) := by decide +kernel
theorem dX3_readToken_171 : decode cX3_readToken 171 = .ok (.goto (-66), 3) := by decide +kernel
theorem dX3_readToken_174 : decode cX3_readToken 174 = .ok (.aload_n 0, 1) := by decide +kernel
theorem dX3_readToken_175 : decode cX3_readToken 175 = .ok (.getfield 35, 3) := by decide +kernel
theorem dX3_readToken_178 : decode cX3_readToken 178 = .ok (.iconst 2, 1) := by decide +kernel
theorem dX3_readToken_179 : decode cX3_readToken 179 = .ok (.if_icmp .ne 21, 3) := by decide +kernel
theorem dX3_readToken_182 : decode cX3_readToken 182 = .ok (.aload_n 0, 1) := by decide +kernel
theorem dX3_readToken_183 : decode cX3_readToken 183 = .ok (.getfield 19, 3) := by decide +kernel
theorem dX3_readToken_186 : decode cX3_readToken 186 = .ok (.aload_n 0, 1) := by decide +kernel
theorem dX3_readToken_187 : decode cX3_readToken 187 = .ok (.getfield 26, 3) := by decide +kernel
theorem dX3_readToken_190 : decode cX3_readToken 190 = .ok (.isub, 1) := by decide +kernel
theorem dX3_readToken_191 : decode cX3_readToken 191 = .ok (.iconst 2, 1) := by decide +kernel
theorem dX3_readToken_192 : decode cX3_readToken 192 = .ok (.if_icmp .le 8, 3) := by decide +kernel
theorem dX3_readToken_195 : decode cX3_readToken 195 = .ok (.aload_n 0, 1) := by decide +kernel
theorem dX3_readToken_196 : decode cX3_readToken 196 = .ok (.iconst 0, 1) := by decide +kernel
theorem dX3_readToken_197 : decode cX3_readToken 197 = .ok (.putfield 35, 3) := by decide +kernel
theorem dX3_readToken_200 : decode cX3_readToken 200 = .ok (.return_, 1) := by decide +kernel
theorem dX3_tokenOf_0 : decode cX3_tokenOf 0 = .ok (.iload_n 0, 1) := by decide +kernel
theorem dX3_tokenOf_1 : decode cX3_tokenOf 1 = .ok (.ifCond .ge 5, 3) := by decide +kernel
theorem dX3_tokenOf_4 : decode cX3_tokenOf 4 = .ok (.iconst 4, 1) := by decide +kernel
theorem dX3_tokenOf_5 : decode cX3_tokenOf 5 = .ok (.ireturn, 1) := by decide +kernel
theorem dX3_tokenOf_6 : decode cX3_tokenOf 6 = .ok (.iload_n 0, 1) := by decide +kernel
theorem dX3_tokenOf_7 : decode cX3_tokenOf 7 = .ok (.bipush 97, 2) := by decide +kernel
theorem dX3_tokenOf_9 : decode cX3_tokenOf 9 = .ok (.if_icmp .lt 11, 3) := by decide +kernel
theorem dX3_tokenOf_12 : decode cX3_tokenOf 12 = .ok (.iload_n 0, 1) := by decide +kernel
theorem dX3_tokenOf_13 : decode cX3_tokenOf 13 = .ok (.bipush 122, 2) := by decide +kernel
theorem dX3_tokenOf_15 : decode cX3_tokenOf 15 = .ok (.if_icmp .gt 5, 3) := by decide +kernel
theorem dX3_tokenOf_18 : decode cX3_tokenOf 18 = .ok (.iconst 1, 1) := by decide +kernel
theorem dX3_tokenOf_19 : decode cX3_tokenOf 19 = .ok (.ireturn, 1) := by decide +kernel
theorem dX3_tokenOf_20 : decode cX3_tokenOf 20 = .ok (.iload_n 0, 1) := by decide +kernel
theorem dX3_tokenOf_21 : decode cX3_tokenOf 21 = .ok (.bipush 48, 2) := by decide +kernel
theorem dX3_tokenOf_23 : decode cX3_tokenOf 23 = .ok (.if_icmp .lt 11, 3) := by decide +kernel
theorem dX3_tokenOf_26 : decode cX3_tokenOf 26 = .ok (.iload_n 0, 1) := by decide +kernel
theorem dX3_tokenOf_27 : decode cX3_tokenOf 27 = .ok (.bipush 57, 2) := by decide +kernel
theorem dX3_tokenOf_29 : decode cX3_tokenOf 29 = .ok (.if_icmp .gt 5, 3) := by decide +kernel
theorem dX3_tokenOf_32 : decode cX3_tokenOf 32 = .ok (.iconst 2, 1) := by decide +kernel
theorem dX3_tokenOf_33 : decode cX3_tokenOf 33 = .ok (.ireturn, 1) := by decide +kernel
theorem dX3_tokenOf_34 : decode cX3_tokenOf 34 = .ok (.iload_n 0, 1) := by decide +kernel
theorem dX3_tokenOf_35 : decode cX3_tokenOf 35 = .ok (.bipush 59, 2) := by decide +kernel
theorem dX3_tokenOf_37 : decode cX3_tokenOf 37 = .ok (.if_icmp .ne 7, 3) := by decide +kernel
theorem dX3_tokenOf_40 : decode cX3_tokenOf 40 = .ok (.iconst 3, 1) := by decide +kernel
theorem dX3_tokenOf_41 : decode cX3_tokenOf 41 = .ok (.goto 4, 3) := by decide +kernel
theorem dX3_tokenOf_44 : decode cX3_tokenOf 44 = .ok (.iconst 0, 1) := by decide +kernel
theorem dX3_tokenOf_45 : decode cX3_tokenOf 45 = .ok (.ireturn, 1) := by decide +kernel
theorem dX3_isName_0 : decode cX3_isName 0 = .ok (.aload_n 0, 1) := by decide +kernel
theorem dX3_isName_1 : decode cX3_isName 1 = .ok (.getfield 35, 3) := by decide +kernel
theorem dX3_isName_4 : decode cX3_isName 4 = .ok (.iconst 1, 1) := by decide +kernel
theorem dX3_isName_5 : decode cX3_isName 5 = .ok (.if_icmp .ne 19, 3) := by decide +kernel
theorem dX3_isName_8 : decode cX3_isName 8 = .ok (.aload_n 0, 1) := by decide +kernel
theorem dX3_isName_9 : decode cX3_isName 9 = .ok (.getfield 19, 3) := by decide +kernel
theorem dX3_isName_12 : decode cX3_isName 12 = .ok (.aload_n 0, 1) := by decide +kernel
theorem dX3_isName_13 : decode cX3_isName 13 = .ok (.getfield 26, 3) := by decide +kernel
theorem dX3_isName_16 : decode cX3_isName 16 = .ok (.isub, 1) := by decide +kernel
theorem dX3_isName_17 : decode cX3_isName 17 = .ok (.aload_n 1, 1) := by decide +kernel
theorem dX3_isName_18 : decode cX3_isName 18 = .ok (.invokevirtual 38, 3) := by decide +kernel
theorem dX3_isName_21 : decode cX3_isName 21 = .ok (.if_icmp .eq 5, 3) := by decide +kernel
theorem dX3_isName_24 : decode cX3_isName 24 = .ok (.iconst 0, 1) := by decide +kernel
theorem dX3_isName_25 : decode cX3_isName 25 = .ok (.ireturn, 1) := by decide +kernel
theorem dX3_isName_26 : decode cX3_isName 26 = .ok (.iconst 0, 1) := by decide +kernel
theorem dX3_isName_27 : decode cX3_isName 27 = .ok (.istore_n 2, 1) := by decide +kernel
theorem dX3_isName_28 : decode cX3_isName 28 = .ok (.iload_n 2, 1) := by decide +kernel
theorem dX3_isName_29 : decode cX3_isName 29 = .ok (.aload_n 1, 1) := by decide +kernel
theorem dX3_isName_30 : decode cX3_isName 30 = .ok (.invokevirtual 38, 3) := by decide +kernel
theorem dX3_isName_33 : decode cX3_isName 33 = .ok (.if_icmp .ge 29, 3) := by decide +kernel
theorem dX3_isName_36 : decode cX3_isName 36 = .ok (.aload_n 0, 1) := by decide +kernel
theorem dX3_isName_37 : decode cX3_isName 37 = .ok (.aload_n 0, 1) := by decide +kernel
theorem dX3_isName_38 : decode cX3_isName 38 = .ok (.getfield 26, 3) := by decide +kernel
theorem dX3_isName_41 : decode cX3_isName 41 = .ok (.iload_n 2, 1) := by decide +kernel
theorem dX3_isName_42 : decode cX3_isName 42 = .ok (.iadd, 1) := by decide +kernel
theorem dX3_isName_43 : decode cX3_isName 43 = .ok (.invokevirtual 22, 3) := by decide +kernel
theorem dX3_isName_46 : decode cX3_isName 46 = .ok (.aload_n 1, 1) := by decide +kernel
theorem dX3_isName_47 : decode cX3_isName 47 = .ok (.iload_n 2, 1) := by decide +kernel
theorem dX3_isName_48 : decode cX3_isName 48 = .ok (.invokevirtual 43, 3) := by decide +kernel
theorem dX3_isName_51 : decode cX3_isName 51 = .ok (.if_icmp .eq 5, 3) := by decide +kernel
theorem dX3_isName_54 : decode cX3_isName 54 = .ok (.iconst 0, 1) := by decide +kernel
theorem dX3_isName_55 : decode cX3_isName 55 = .ok (.ireturn, 1) := by decide +kernel
theorem dX3_isName_56 : decode cX3_isName 56 = .ok (.iinc 2 1, 3) := by decide +kernel
theorem dX3_isName_59 : decode cX3_isName 59 = .ok (.goto (-31), 3) := by decide +kernel
theorem dX3_isName_62 : decode cX3_isName 62 = .ok (.iconst 1, 1) := by decide +kernel
theorem dX3_isName_63 : decode cX3_isName 63 = .ok (.ireturn, 1) := by decide +kernel
theorem dX3_byteAt_0 : decode cX3_byteAt 0 = .ok (.iload_n 1, 1) := by decide +kernel
theorem dX3_byteAt_1 : decode cX3_byteAt 1 = .ok (.ifCond .lt 27, 3) := by decide +kernel
theorem dX3_byteAt_4 : decode cX3_byteAt 4 = .ok (.iload_n 1, 1) := by decide +kernel
theorem dX3_byteAt_5 : decode cX3_byteAt 5 = .ok (.aload_n 0, 1) := by decide +kernel
theorem dX3_byteAt_6 : decode cX3_byteAt 6 = .ok (.getfield 15, 3) := by decide +kernel
theorem dX3_byteAt_9 : decode cX3_byteAt 9 = .ok (.if_icmp .ge 19, 3) := by decide +kernel
theorem dX3_byteAt_12 : decode cX3_byteAt 12 = .ok (.iload_n 1, 1) := by decide +kernel
theorem dX3_byteAt_13 : decode cX3_byteAt 13 = .ok (.sipush 160, 3) := by decide +kernel
theorem dX3_byteAt_16 : decode cX3_byteAt 16 = .ok (.if_icmp .ge 12, 3) := by decide +kernel
theorem dX3_byteAt_19 : decode cX3_byteAt 19 = .ok (.aload_n 0, 1) := by decide +kernel
theorem dX3_byteAt_20 : decode cX3_byteAt 20 = .ok (.getfield 9, 3) := by decide +kernel
theorem dX3_byteAt_23 : decode cX3_byteAt 23 = .ok (.iload_n 1, 1) := by decide +kernel
theorem dX3_byteAt_24 : decode cX3_byteAt 24 = .ok (.baload, 1) := by decide +kernel
theorem dX3_byteAt_25 : decode cX3_byteAt 25 = .ok (.goto 4, 3) := by decide +kernel
theorem dX3_byteAt_28 : decode cX3_byteAt 28 = .ok (.iconst (-1), 1) := by decide +kernel
theorem dX3_byteAt_29 : decode cX3_byteAt 29 = .ok (.ireturn, 1) := by decide +kernel
theorem dX4_init_0 : decode cX4_init 0 = .ok (.aload_n 0, 1) := by decide +kernel
theorem dX4_init_1 : decode cX4_init 1 = .ok (.invokespecial 3, 3) := by decide +kernel
theorem dX4_init_4 : decode cX4_init 4 = .ok (.aload_n 0, 1) := by decide +kernel
theorem dX4_init_5 : decode cX4_init 5 = .ok (.iconst 5, 1) := by decide +kernel
theorem dX4_init_6 : decode cX4_init 6 = .ok (.newarray .int, 2) := by decide +kernel
theorem dX4_init_8 : decode cX4_init 8 = .ok (.putfield 9, 3) := by decide +kernel
theorem dX4_init_11 : decode cX4_init 11 = .ok (.aload_n 0, 1) := by decide +kernel
theorem dX4_init_12 : decode cX4_init 12 = .ok (.iconst 5, 1) := by decide +kernel
theorem dX4_init_13 : decode cX4_init 13 = .ok (.newarray .int, 2) := by decide +kernel
theorem dX4_init_15 : decode cX4_init 15 = .ok (.putfield 15, 3) := by decide +kernel
theorem dX4_init_18 : decode cX4_init 18 = .ok (.aload_n 0, 1) := by decide +kernel
theorem dX4_init_19 : decode cX4_init 19 = .ok (.iconst 5, 1) := by decide +kernel
theorem dX4_init_20 : decode cX4_init 20 = .ok (.newarray .int, 2) := by decide +kernel
theorem dX4_init_22 : decode cX4_init 22 = .ok (.putfield 18, 3) := by decide +kernel
theorem dX4_init_25 : decode cX4_init 25 = .ok (.aload_n 0, 1) := by decide +kernel
theorem dX4_init_26 : decode cX4_init 26 = .ok (.iconst 5, 1) := by decide +kernel
theorem dX4_init_27 : decode cX4_init 27 = .ok (.newarray .int, 2) := by decide +kernel
theorem dX4_init_29 : decode cX4_init 29 = .ok (.putfield 21, 3) := by decide +kernel
theorem dX4_init_32 : decode cX4_init 32 = .ok (.aload_n 0, 1) := by decide +kernel
theorem dX4_init_33 : decode cX4_init 33 = .ok (.bipush 9, 2) := by decide +kernel
theorem dX4_init_35 : decode cX4_init 35 = .ok (.newarray .int, 2) := by decide +kernel
theorem dX4_init_37 : decode cX4_init 37 = .ok (.putfield 24, 3) := by decide +kernel
theorem dX4_init_40 : decode cX4_init 40 = .ok (.aload_n 0, 1) := by decide +kernel
theorem dX4_init_41 : decode cX4_init 41 = .ok (.bipush 9, 2) := by decide +kernel
theorem dX4_init_43 : decode cX4_init 43 = .ok (.newarray .int, 2) := by decide +kernel
theorem dX4_init_45 : decode cX4_init 45 = .ok (.putfield 27, 3) := by decide +kernel
theorem dX4_init_48 : decode cX4_init 48 = .ok (.aload_n 0, 1) := by decide +kernel
theorem dX4_init_49 : decode cX4_init 49 = .ok (.bipush 9, 2) := by decide +kernel
theorem dX4_init_51 : decode cX4_init 51 = .ok (.newarray .int, 2) := by decide +kernel
theorem dX4_init_53 : decode cX4_init 53 = .ok (.putfield 30, 3) := by decide +kernel
theorem dX4_init_56 : decode cX4_init 56 = .ok (.aload_n 0, 1) := by decide +kernel
theorem dX4_init_57 : decode cX4_init 57 = .ok (.bipush 8, 2) := by decide +kernel
theorem dX4_init_59 : decode cX4_init 59 = .ok (.newarray .int, 2) := by decide +kernel
theorem dX4_init_61 : decode cX4_init 61 = .ok (.putfield 33, 3) := by decide +kernel
theorem dX4_init_64 : decode cX4_init 64 = .ok (.aload_n 0, 1) := by decide +kernel
theorem dX4_init_65 : decode cX4_init 65 = .ok (.bipush 6, 2) := by decide +kernel
theorem dX4_init_67 : decode cX4_init 67 = .ok (.newarray .int, 2) := by decide +kernel
theorem dX4_init_69 : decode cX4_init 69 = .ok (.putfield 36, 3) := by decide +kernel
theorem dX4_init_72 : decode cX4_init 72 = .ok (.aload_n 0, 1) := by decide +kernel
theorem dX4_init_73 : decode cX4_init 73 = .ok (.bipush 6, 2) := by decide +kernel
theorem dX4_init_75 : decode cX4_init 75 = .ok (.newarray .int, 2) := by decide +kernel
theorem dX4_init_77 : decode cX4_init 77 = .ok (.putfield 39, 3) := by decide +kernel
theorem dX4_init_80 : decode cX4_init 80 = .ok (.aload_n 0, 1) := by decide +kernel
theorem dX4_init_81 : decode cX4_init 81 = .ok (.getfield 30, 3) := by decide +kernel
theorem dX4_init_84 : decode cX4_init 84 = .ok (.iconst (-1), 1) := by decide +kernel
theorem dX4_init_85 : decode cX4_init 85 = .ok (.invokestatic 42, 3) := by decide +kernel
theorem dX4_init_88 : decode cX4_init 88 = .ok (.return_, 1) := by decide +kernel
theorem dX4_clear_0 : decode cX4_clear 0 = .ok (.aload_n 0, 1) := by decide +kernel
theorem dX4_clear_1 : decode cX4_clear 1 = .ok (.iconst 0, 1) := by decide +kernel
theorem dX4_clear_2 : decode cX4_clear 2 = .ok (.putfield 48, 3) := by decide +kernel
theorem dX4_clear_5 : decode cX4_clear 5 = .ok (.aload_n 0, 1) := by decide +kernel
theorem dX4_clear_6 : decode cX4_clear 6 = .ok (.iconst 0, 1) := by decide +kernel
theorem dX4_clear_7 : decode cX4_clear 7 = .ok (.putfield 52, 3) := by decide +kernel
theorem dX4_clear_10 : decode cX4_clear 10 = .ok (.aload_n 0, 1) := by decide +kernel
theorem dX4_clear_11 : decode cX4_clear 11 = .ok (.iconst 0, 1) := by decide +kernel
theorem dX4_clear_12 : decode cX4_clear 12 = .ok (.putfield 55, 3) := by decide +kernel
theorem dX4_clear_15 : decode cX4_clear 15 = .ok (.aload_n 0, 1) := by decide +kernel
theorem dX4_clear_16 : decode cX4_clear 16 = .ok (.getfield 30, 3) := by decide +kernel
theorem dX4_clear_19 : decode cX4_clear 19 = .ok (.iconst (-1), 1) := by decide +kernel
theorem dX4_clear_20 : decode cX4_clear 20 = .ok (.invokestatic 42, 3) := by decide +kernel
theorem dX4_clear_23 : decode cX4_clear 23 = .ok (.aload_n 0, 1) := by decide +kernel
theorem dX4_clear_24 : decode cX4_clear 24 = .ok (.getfield 33, 3) := by decide +kernel
theorem dX4_clear_27 : decode cX4_clear 27 = .ok (.iconst 0, 1) := by decide +kernel
theorem dX4_clear_28 : decode cX4_clear 28 = .ok (.invokestatic 42, 3) := by decide +kernel
theorem dX4_clear_31 : decode cX4_clear 31 = .ok (.return_, 1) := by decide +kernel
theorem dX4_become_0 : decode cX4_become 0 = .ok (.aload_n 0, 1) := by decide +kernel
theorem dX4_become_1 : decode cX4_become 1 = .ok (.aload_n 1, 1) := by decide +kernel
theorem dX4_become_2 : decode cX4_become 2 = .ok (.getfield 48, 3) := by decide +kernel
theorem dX4_become_5 : decode cX4_become 5 = .ok (.putfield 48, 3) := by decide +kernel
theorem dX4_become_8 : decode cX4_become 8 = .ok (.aload_n 0, 1) := by decide +kernel
theorem dX4_become_9 : decode cX4_become 9 = .ok (.aload_n 1, 1) := by decide +kernel
theorem dX4_become_10 : decode cX4_become 10 = .ok (.getfield 52, 3) := by decide +kernel
theorem dX4_become_13 : decode cX4_become 13 = .ok (.putfield 52, 3) := by decide +kernel
theorem dX4_become_16 : decode cX4_become 16 = .ok (.aload_n 0, 1) := by decide +kernel
theorem dX4_become_17 : decode cX4_become 17 = .ok (.aload_n 1, 1) := by decide +kernel
theorem dX4_become_18 : decode cX4_become 18 = .ok (.getfield 55, 3) := by decide +kernel
theorem dX4_become_21 : decode cX4_become 21 = .ok (.putfield 55, 3) := by decide +kernel
theorem dX4_become_24 : decode cX4_become 24 = .ok (.aload_n 1, 1) := by decide +kernel
theorem dX4_become_25 : decode cX4_become 25 = .ok (.getfield 9, 3) := by decide +kernel
theorem dX4_become_28 : decode cX4_become 28 = .ok (.iconst 0, 1) := by decide +kernel
theorem dX4_become_29 : decode cX4_become 29 = .ok (.aload_n 0, 1) := by decide +kernel
theorem dX4_become_30 : decode cX4_become 30 = .ok (.getfield 9, 3) := by decide +kernel
theorem dX4_become_33 : decode cX4_become 33 = .ok (.iconst 0, 1) := by decide +kernel
theorem dX4_become_34 : decode cX4_become 34 = .ok (.iconst 5, 1) := by decide +kernel
theorem dX4_become_35 : decode cX4_become 35 = .ok (.invokestatic 58, 3) := by decide +kernel
theorem dX4_become_38 : decode cX4_become 38 = .ok (.aload_n 1, 1) := by decide +kernel
theorem dX4_become_39 : decode cX4_become 39 = .ok (.getfield 15, 3) := by decide +kernel
theorem dX4_become_42 : decode cX4_become 42 = .ok (.iconst 0, 1) := by decide +kernel
theorem dX4_become_43 : decode cX4_become 43 = .ok (.aload_n 0, 1) := by decide +kernel
theorem dX4_become_44 : decode cX4_become 44 = .ok (.getfield 15, 3) := by decide +kernel
theorem dX4_become_47 : decode cX4_become 47 = .ok (.iconst 0, 1) := by decide +kernel
theorem dX4_become_48 : decode cX4_become 48 = .ok (.iconst 5, 1) := by decide +kernel
theorem dX4_become_49 : decode cX4_become 49 = .ok (.invokestatic 58, 3) := by decide +kernel
theorem dX4_become_52 : decode cX4_become 52 = .ok (.aload_n 1, 1) := by decide +kernel
theorem dX4_become_53 : decode cX4_become 53 = .ok (.getfield 18, 3) := by decide +kernel
theorem dX4_become_56 : decode cX4_become 56 = .ok (.iconst 0, 1) := by decide +kernel
theorem dX4_become_57 : decode cX4_become 57 = .ok (.aload_n 0, 1) := by decide +kernel
theorem dX4_become_58 : decode cX4_become 58 = .ok (.getfield 18, 3) := by decide +kernel
theorem dX4_become_61 : decode cX4_become 61 = .ok (.iconst 0, 1) := by decide +kernel
theorem dX4_become_62 : decode cX4_become 62 = .ok (.iconst 5, 1) := by decide +kernel
theorem dX4_become_63 : decode cX4_become 63 = .ok (.invokestatic 58, 3) := by decide +kernel
theorem dX4_become_66 : decode cX4_become 66 = .ok (.aload_n 1, 1) := by decide +kernel
theorem dX4_become_67 : decode cX4_become 67 = .ok (.getfield 21, 3) := by decide +kernel
theorem dX4_become_70 : decode cX4_become 70 = .ok (.iconst 0, 1) := by decide +kernel
theorem dX4_become_71 : decode cX4_become 71 = .ok (.aload_n 0, 1) := by decide +kernel
theorem dX4_become_72 : decode cX4_become 72 = .ok (.getfield 21, 3) := by decide +kernel
theorem dX4_become_75 : decode cX4_become 75 = .ok (.iconst 0, 1) := by decide +kernel
theorem dX4_become_76 : decode cX4_become 76 = .ok (.iconst 5, 1) := by decide +kernel
theorem dX4_become_77 : decode cX4_become 77 = .ok (.invokestatic 58, 3) := by decide +kernel
theorem dX4_become_80 : decode cX4_become 80 = .ok (.aload_n 1, 1) := by decide +kernel
theorem dX4_become_81 : decode cX4_become 81 = .ok (.getfield 24, 3) := by decide +kernel
theorem dX4_become_84 : decode cX4_become 84 = .ok (.iconst 0, 1) := by decide +kernel
theorem dX4_become_85 : decode cX4_become 85 = .ok (.aload_n 0, 1) := by decide +kernel
theorem dX4_become_86 : decode cX4_become 86 = .ok (.getfield 24, 3) := by decide +kernel
theorem dX4_become_89 : decode cX4_become 89 = .ok (.iconst 0, 1) := by decide +kernel
theorem dX4_become_90 : decode cX4_become 90 = .ok (.bipush 9, 2) := by decide +kernel
theorem dX4_become_92 : decode cX4_become 92 = .ok (.invokestatic 58, 3) := by decide +kernel
theorem dX4_become_95 : decode cX4_become 95 = .ok (.aload_n 1, 1) := by decide +kernel
theorem dX4_become_96 : decode cX4_become 96 = .ok (.getfield 27, 3) := by decide +kernel
theorem dX4_become_99 : decode cX4_become 99 = .ok (.iconst 0, 1) := by decide +kernel
theorem dX4_become_100 : decode cX4_become 100 = .ok (.aload_n 0, 1) := by decide +kernel
theorem dX4_become_101 : decode cX4_become 101 = .ok (.getfield 27, 3) := by decide +kernel
theorem dX4_become_104 : decode cX4_become 104 = .ok (.iconst 0, 1) := by decide +kernel
theorem dX4_become_105 : decode cX4_become 105 = .ok (.bipush 9, 2) := by decide +kernel
theorem dX4_become_107 : decode cX4_become 107 = .ok (.invokestatic 58, 3) := by decide +kernel
theorem dX4_become_110 : decode cX4_become 110 = .ok (.aload_n 1, 1) := by decide +kernel
theorem dX4_become_111 : decode cX4_become 111 = .ok (.getfield 30, 3) := by decide +kernel
theorem dX4_become_114 : decode cX4_become 114 = .ok (.iconst 0, 1) := by decide +kernel
theorem dX4_become_115 : decode cX4_become 115 = .ok (.aload_n 0, 1) := by decide +kernel
theorem dX4_become_116 : decode cX4_become 116 = .ok (.getfield 30, 3) := by decide +kernel
theorem dX4_become_119 : decode cX4_become 119 = .ok (.iconst 0, 1) := by decide +kernel
theorem dX4_become_120 : decode cX4_become 120 = .ok (.bipush 9, 2) := by decide +kernel
theorem dX4_become_122 : decode cX4_become 122 = .ok (.invokestatic 58, 3) := by decide +kernel
theorem dX4_become_125 : decode cX4_become 125 = .ok (.aload_n 1, 1) := by decide +kernel
theorem dX4_become_126 : decode cX4_become 126 = .ok (.getfield 33, 3) := by decide +kernel
theorem dX4_become_129 : decode cX4_become 129 = .ok (.iconst 0, 1) := by decide +kernel
theorem dX4_become_130 : decode cX4_become 130 = .ok (.aload_n 0, 1) := by decide +kernel
theorem dX4_become_131 : decode cX4_become 131 = .ok (.getfield 33, 3) := by decide +kernel
theorem dX4_become_134 : decode cX4_become 134 = .ok (.iconst 0, 1) := by decide +kernel
theorem dX4_become_135 : decode cX4_become 135 = .ok (.bipush 8, 2) := by decide +kernel
theorem dX4_become_137 : decode cX4_become 137 = .ok (.invokestatic 58, 3) := by decide +kernel
theorem dX4_become_140 : decode cX4_become 140 = .ok (.aload_n 1, 1) := by decide +kernel
theorem dX4_become_141 : decode cX4_become 141 = .ok (.getfield 36, 3) := by decide +kernel
theorem dX4_become_144 : decode cX4_become 144 = .ok (.iconst 0, 1) := by decide +kernel
theorem dX4_become_145 : decode cX4_become 145 = .ok (.aload_n 0, 1) := by decide +kernel
theorem dX4_become_146 : decode cX4_become 146 = .ok (.getfield 36, 3) := by decide +kernel
theorem dX4_become_149 : decode cX4_become 149 = .ok (.iconst 0, 1) := by decide +kernel
theorem dX4_become_150 : decode cX4_become 150 = .ok (.bipush 6, 2) := by decide +kernel
theorem dX4_become_152 : decode cX4_become 152 = .ok (.invokestatic 58, 3) := by decide +kernel
theorem dX4_become_155 : decode cX4_become 155 = .ok (.aload_n 1, 1) := by decide +kernel
theorem dX4_become_156 : decode cX4_become 156 = .ok (.getfield 39, 3) := by decide +kernel
theorem dX4_become_159 : decode cX4_become 159 = .ok (.iconst 0, 1) := by decide +kernel
theorem dX4_become_160 : decode cX4_become 160 = .ok (.aload_n 0, 1) := by decide +kernel
theorem dX4_become_161 : decode cX4_become 161 = .ok (.getfield 39, 3) := by decide +kernel
theorem dX4_become_164 : decode cX4_become 164 = .ok (.iconst 0, 1) := by decide +kernel
theorem dX4_become_165 : decode cX4_become 165 = .ok (.bipush 6, 2) := by decide +kernel
theorem dX4_become_167 : decode cX4_become 167 = .ok (.invokestatic 58, 3) := by decide +kernel
theorem dX4_become_170 : decode cX4_become 170 = .ok (.return_, 1) := by decide +kernel
theorem dX4_isOne_0 : decode cX4_isOne 0 = .ok (.iload_n 1, 1) := by decide +kernel
theorem dX4_isOne_1 : decode cX4_isOne 1 = .ok (.ifCond .lt 20, 3) := by decide +kernel
theorem dX4_isOne_4 : decode cX4_isOne 4 = .ok (.iload_n 1, 1) := by decide +kernel
theorem dX4_isOne_5 : decode cX4_isOne 5 = .ok (.aload_n 0, 1) := by decide +kernel
theorem dX4_isOne_6 : decode cX4_isOne 6 = .ok (.getfield 48, 3) := by decide +kernel
theorem dX4_isOne_9 : decode cX4_isOne 9 = .ok (.if_icmp .ge 12, 3) := by decide +kernel
theorem dX4_isOne_12 : decode cX4_isOne 12 = .ok (.iload_n 1, 1) := by decide +kernel
theorem dX4_isOne_13 : decode cX4_isOne 13 = .ok (.iconst 5, 1) := by decide +kernel
theorem dX4_isOne_14 : decode cX4_isOne 14 = .ok (.if_icmp .ge 7, 3) := by decide +kernel
theorem dX4_isOne_17 : decode cX4_isOne 17 = .ok (.iconst 1, 1) := by decide +kernel
theorem dX4_isOne_18 : decode cX4_isOne 18 = .ok (.goto 4, 3) := by decide +kernel
theorem dX4_isOne_21 : decode cX4_isOne 21 = .ok (.iconst 0, 1) := by decide +kernel
theorem dX4_isOne_22 : decode cX4_isOne 22 = .ok (.ireturn, 1) := by decide +kernel
theorem dX4_isWall_0 : decode cX4_isWall 0 = .ok (.iload_n 1, 1) := by decide +kernel
theorem dX4_isWall_1 : decode cX4_isWall 1 = .ok (.ifCond .lt 21, 3) := by decide +kernel
theorem dX4_isWall_4 : decode cX4_isWall 4 = .ok (.iload_n 1, 1) := by decide +kernel
theorem dX4_isWall_5 : decode cX4_isWall 5 = .ok (.aload_n 0, 1) := by decide +kernel
theorem dX4_isWall_6 : decode cX4_isWall 6 = .ok (.getfield 52, 3) := by decide +kernel
theorem dX4_isWall_9 : decode cX4_isWall 9 = .ok (.if_icmp .ge 13, 3) := by decide +kernel
theorem dX4_isWall_12 : decode cX4_isWall 12 = .ok (.iload_n 1, 1) := by decide +kernel
theorem dX4_isWall_13 : decode cX4_isWall 13 = .ok (.bipush 9, 2) := by decide +kernel
theorem dX4_isWall_15 : decode cX4_isWall 15 = .ok (.if_icmp .ge 7, 3) := by decide +kernel
theorem dX4_isWall_18 : decode cX4_isWall 18 = .ok (.iconst 1, 1) := by decide +kernel
theorem dX4_isWall_19 : decode cX4_isWall 19 = .ok (.goto 4, 3) := by decide +kernel
theorem dX4_isWall_22 : decode cX4_isWall 22 = .ok (.iconst 0, 1) := by decide +kernel
theorem dX4_isWall_23 : decode cX4_isWall 23 = .ok (.ireturn, 1) := by decide +kernel
theorem dX4_addOne_0 : decode cX4_addOne 0 = .ok (.aload_n 0, 1) := by decide +kernel
theorem dX4_addOne_1 : decode cX4_addOne 1 = .ok (.getfield 48, 3) := by decide +kernel
theorem dX4_addOne_4 : decode cX4_addOne 4 = .ok (.ifCond .lt 11, 3) := by decide +kernel
theorem dX4_addOne_7 : decode cX4_addOne 7 = .ok (.aload_n 0, 1) := by decide +kernel
theorem dX4_addOne_8 : decode cX4_addOne 8 = .ok (.getfield 48, 3) := by decide +kernel
theorem dX4_addOne_11 : decode cX4_addOne 11 = .ok (.iconst 5, 1) := by decide +kernel
theorem dX4_addOne_12 : decode cX4_addOne 12 = .ok (.if_icmp .lt 5, 3) := by decide +kernel
theorem dX4_addOne_15 : decode cX4_addOne 15 = .ok (.iconst 0, 1) := by decide +kernel
theorem dX4_addOne_16 : decode cX4_addOne 16 = .ok (.ireturn, 1) := by decide +kernel
theorem dX4_addOne_17 : decode cX4_addOne 17 = .ok (.aload_n 0, 1) := by decide +kernel
theorem dX4_addOne_18 : decode cX4_addOne 18 = .ok (.getfield 9, 3) := by decide +kernel
theorem dX4_addOne_21 : decode cX4_addOne 21 = .ok (.aload_n 0, 1) := by decide +kernel
theorem dX4_addOne_22 : decode cX4_addOne 22 = .ok (.getfield 48, 3) := by decide +kernel
theorem dX4_addOne_25 : decode cX4_addOne 25 = .ok (.iload_n 1, 1) := by decide +kernel
theorem dX4_addOne_26 : decode cX4_addOne 26 = .ok (.iastore, 1) := by decide +kernel
theorem dX4_addOne_27 : decode cX4_addOne 27 = .ok (.aload_n 0, 1) := by decide +kernel
theorem dX4_addOne_28 : decode cX4_addOne 28 = .ok (.getfield 15, 3) := by decide +kernel
theorem dX4_addOne_31 : decode cX4_addOne 31 = .ok (.aload_n 0, 1) := by decide +kernel
theorem dX4_addOne_32 : decode cX4_addOne 32 = .ok (.getfield 48, 3) := by decide +kernel
theorem dX4_addOne_35 : decode cX4_addOne 35 = .ok (.iload_n 2, 1) := by decide +kernel
theorem dX4_addOne_36 : decode cX4_addOne 36 = .ok (.iastore, 1) := by decide +kernel
theorem dX4_addOne_37 : decode cX4_addOne 37 = .ok (.aload_n 0, 1) := by decide +kernel
theorem dX4_addOne_38 : decode cX4_addOne 38 = .ok (.getfield 18, 3) := by decide +kernel
theorem dX4_addOne_41 : decode cX4_addOne 41 = .ok (.aload_n 0, 1) := by decide +kernel
theorem dX4_addOne_42 : decode cX4_addOne 42 = .ok (.getfield 48, 3) := by decide +kernel
theorem dX4_addOne_45 : decode cX4_addOne 45 = .ok (.iload_n 3, 1) := by decide +kernel
theorem dX4_addOne_46 : decode cX4_addOne 46 = .ok (.iastore, 1) := by decide +kernel
theorem dX4_addOne_47 : decode cX4_addOne 47 = .ok (.aload_n 0, 1) := by decide +kernel
theorem dX4_addOne_48 : decode cX4_addOne 48 = .ok (.getfield 21, 3) := by decide +kernel
theorem dX4_addOne_51 : decode cX4_addOne 51 = .ok (.aload_n 0, 1) := by decide +kernel
theorem dX4_addOne_52 : decode cX4_addOne 52 = .ok (.getfield 48, 3) := by decide +kernel
theorem dX4_addOne_55 : decode cX4_addOne 55 = .ok (.iconst (-1), 1) := by decide +kernel
theorem dX4_addOne_56 : decode cX4_addOne 56 = .ok (.iastore, 1) := by decide +kernel
theorem dX4_addOne_57 : decode cX4_addOne 57 = .ok (.aload_n 0, 1) := by decide +kernel
theorem dX4_addOne_58 : decode cX4_addOne 58 = .ok (.dup, 1) := by decide +kernel
theorem dX4_addOne_59 : decode cX4_addOne 59 = .ok (.getfield 48, 3) := by decide +kernel
theorem dX4_addOne_62 : decode cX4_addOne 62 = .ok (.iconst 1, 1) := by decide +kernel
theorem dX4_addOne_63 : decode cX4_addOne 63 = .ok (.iadd, 1) := by decide +kernel
theorem dX4_addOne_64 : decode cX4_addOne 64 = .ok (.putfield 48, 3) := by decide +kernel
theorem dX4_addOne_67 : decode cX4_addOne 67 = .ok (.iconst 1, 1) := by decide +kernel
theorem dX4_addOne_68 : decode cX4_addOne 68 = .ok (.ireturn, 1) := by decide +kernel
theorem dX4_addWall_0 : decode cX4_addWall 0 = .ok (.aload_n 0, 1) := by decide +kernel
theorem dX4_addWall_1 : decode cX4_addWall 1 = .ok (.getfield 52, 3) := by decide +kernel
theorem dX4_addWall_4 : decode cX4_addWall 4 = .ok (.ifCond .lt 12, 3) := by decide +kernel
theorem dX4_addWall_7 : decode cX4_addWall 7 = .ok (.aload_n 0, 1) := by decide +kernel
theorem dX4_addWall_8 : decode cX4_addWall 8 = .ok (.getfield 52, 3) := by decide +kernel
theorem dX4_addWall_11 : decode cX4_addWall 11 = .ok (.bipush 9, 2) := by decide +kernel
theorem dX4_addWall_13 : decode cX4_addWall 13 = .ok (.if_icmp .lt 5, 3) := by decide +kernel
theorem dX4_addWall_16 : decode cX4_addWall 16 = .ok (.iconst 0, 1) := by decide +kernel
theorem dX4_addWall_17 : decode cX4_addWall 17 = .ok (.ireturn, 1) := by decide +kernel
theorem dX4_addWall_18 : decode cX4_addWall 18 = .ok (.aload_n 0, 1) := by decide +kernel
theorem dX4_addWall_19 : decode cX4_addWall 19 = .ok (.getfield 24, 3) := by decide +kernel
theorem dX4_addWall_22 : decode cX4_addWall 22 = .ok (.aload_n 0, 1) := by decide +kernel
theorem dX4_addWall_23 : decode cX4_addWall 23 = .ok (.getfield 52, 3) := by decide +kernel
theorem dX4_addWall_26 : decode cX4_addWall 26 = .ok (.iload_n 1, 1) := by decide +kernel
theorem dX4_addWall_27 : decode cX4_addWall 27 = .ok (.iastore, 1) := by decide +kernel
theorem dX4_addWall_28 : decode cX4_addWall 28 = .ok (.aload_n 0, 1) := by decide +kernel
theorem dX4_addWall_29 : decode cX4_addWall 29 = .ok (.getfield 27, 3) := by decide +kernel
theorem dX4_addWall_32 : decode cX4_addWall 32 = .ok (.aload_n 0, 1) := by decide +kernel
theorem dX4_addWall_33 : decode cX4_addWall 33 = .ok (.getfield 52, 3) := by decide +kernel
theorem dX4_addWall_36 : decode cX4_addWall 36 = .ok (.iload_n 2, 1) := by decide +kernel
theorem dX4_addWall_37 : decode cX4_addWall 37 = .ok (.iastore, 1) := by decide +kernel
theorem dX4_addWall_38 : decode cX4_addWall 38 = .ok (.aload_n 0, 1) := by decide +kernel
theorem dX4_addWall_39 : decode cX4_addWall 39 = .ok (.dup, 1) := by decide +kernel
theorem dX4_addWall_40 : decode cX4_addWall 40 = .ok (.getfield 52, 3) := by decide +kernel
theorem dX4_addWall_43 : decode cX4_addWall 43 = .ok (.iconst 1, 1) := by decide +kernel
theorem dX4_addWall_44 : decode cX4_addWall 44 = .ok (.iadd, 1) := by decide +kernel
theorem dX4_addWall_45 : decode cX4_addWall 45 = .ok (.putfield 52, 3) := by decide +kernel
theorem dX4_addWall_48 : decode cX4_addWall 48 = .ok (.iconst 1, 1) := by decide +kernel
theorem dX4_addWall_49 : decode cX4_addWall 49 = .ok (.ireturn, 1) := by decide +kernel
theorem dX4_addAct_0 : decode cX4_addAct 0 = .ok (.aload_n 0, 1) := by decide +kernel
theorem dX4_addAct_1 : decode cX4_addAct 1 = .ok (.getfield 55, 3) := by decide +kernel
theorem dX4_addAct_4 : decode cX4_addAct 4 = .ok (.ifCond .lt 12, 3) := by decide +kernel
theorem dX4_addAct_7 : decode cX4_addAct 7 = .ok (.aload_n 0, 1) := by decide +kernel
theorem dX4_addAct_8 : decode cX4_addAct 8 = .ok (.getfield 55, 3) := by decide +kernel
theorem dX4_addAct_11 : decode cX4_addAct 11 = .ok (.bipush 6, 2) := by decide +kernel
theorem dX4_addAct_13 : decode cX4_addAct 13 = .ok (.if_icmp .lt 5, 3) := by decide +kernel
theorem dX4_addAct_16 : decode cX4_addAct 16 = .ok (.iconst 0, 1) := by decide +kernel
theorem dX4_addAct_17 : decode cX4_addAct 17 = .ok (.ireturn, 1) := by decide +kernel
theorem dX4_addAct_18 : decode cX4_addAct 18 = .ok (.aload_n 0, 1) := by decide +kernel
theorem dX4_addAct_19 : decode cX4_addAct 19 = .ok (.getfield 36, 3) := by decide +kernel
theorem dX4_addAct_22 : decode cX4_addAct 22 = .ok (.aload_n 0, 1) := by decide +kernel
theorem dX4_addAct_23 : decode cX4_addAct 23 = .ok (.getfield 55, 3) := by decide +kernel
theorem dX4_addAct_26 : decode cX4_addAct 26 = .ok (.iload_n 1, 1) := by decide +kernel
theorem dX4_addAct_27 : decode cX4_addAct 27 = .ok (.iastore, 1) := by decide +kernel
theorem dX4_addAct_28 : decode cX4_addAct 28 = .ok (.aload_n 0, 1) := by decide +kernel
theorem dX4_addAct_29 : decode cX4_addAct 29 = .ok (.getfield 39, 3) := by decide +kernel
theorem dX4_addAct_32 : decode cX4_addAct 32 = .ok (.aload_n 0, 1) := by decide +kernel
theorem dX4_addAct_33 : decode cX4_addAct 33 = .ok (.getfield 55, 3) := by decide +kernel
theorem dX4_addAct_36 : decode cX4_addAct 36 = .ok (.iload_n 2, 1) := by decide +kernel
theorem dX4_addAct_37 : decode cX4_addAct 37 = .ok (.iastore, 1) := by decide +kernel
theorem dX4_addAct_38 : decode cX4_addAct 38 = .ok (.aload_n 0, 1) := by decide +kernel
theorem dX4_addAct_39 : decode cX4_addAct 39 = .ok (.dup, 1) := by decide +kernel
theorem dX4_addAct_40 : decode cX4_addAct 40 = .ok (.getfield 55, 3) := by decide +kernel
theorem dX4_addAct_43 : decode cX4_addAct 43 = .ok (.iconst 1, 1) := by decide +kernel
theorem dX4_addAct_44 : decode cX4_addAct 44 = .ok (.iadd, 1) := by decide +kernel
theorem dX4_addAct_45 : decode cX4_addAct 45 = .ok (.putfield 55, 3) := by decide +kernel
theorem dX4_addAct_48 : decode cX4_addAct 48 = .ok (.iconst 1, 1) := by decide +kernel
theorem dX4_addAct_49 : decode cX4_addAct 49 = .ok (.ireturn, 1) := by decide +kernel
theorem dX4_namesMissing_0 : decode cX4_namesMissing 0 = .ok (.aload_n 0, 1) := by decide +kernel
theorem dX4_namesMissing_1 : decode cX4_namesMissing 1 = .ok (.getfield 52, 3) := by decide +kernel
theorem dX4_namesMissing_4 : decode cX4_namesMissing 4 = .ok (.istore_n 1, 1) := by decide +kernel
theorem dX4_namesMissing_5 : decode cX4_namesMissing 5 = .ok (.iload_n 1, 1) := by decide +kernel
theorem dX4_namesMissing_6 : decode cX4_namesMissing 6 = .ok (.bipush 9, 2) := by decide +kernel
theorem dX4_namesMissing_8 : decode cX4_namesMissing 8 = .ok (.if_icmp .ge 25, 3) := by decide +kernel
theorem dX4_namesMissing_11 : decode cX4_namesMissing 11 = .ok (.iload_n 1, 1) := by decide +kernel
theorem dX4_namesMissing_12 : decode cX4_namesMissing 12 = .ok (.ifCond .lt 15, 3) := by decide +kernel
theorem dX4_namesMissing_15 : decode cX4_namesMissing 15 = .ok (.aload_n 0, 1) := by decide +kernel
theorem dX4_namesMissing_16 : decode cX4_namesMissing 16 = .ok (.getfield 30, 3) := by decide +kernel
theorem dX4_namesMissing_19 : decode cX4_namesMissing 19 = .ok (.iload_n 1, 1) := by decide +kernel
theorem dX4_namesMissing_20 : decode cX4_namesMissing 20 = .ok (.iaload, 1) := by decide +kernel
theorem dX4_namesMissing_21 : decode cX4_namesMissing 21 = .ok (.iconst (-1), 1) := by decide +kernel
theorem dX4_namesMissing_22 : decode cX4_namesMissing 22 = .ok (.if_icmp .eq 5, 3) := by decide +kernel
theorem dX4_namesMissing_25 : decode cX4_namesMissing 25 = .ok (.iconst 1, 1) := by decide +kernel
theorem dX4_namesMissing_26 : decode cX4_namesMissing 26 = .ok (.ireturn, 1) := by decide +kernel
theorem dX4_namesMissing_27 : decode cX4_namesMissing 27 = .ok (.iinc 1 1, 3) := by decide +kernel
theorem dX4_namesMissing_30 : decode cX4_namesMissing 30 = .ok (.goto (-25), 3) := by decide +kernel
theorem dX4_namesMissing_33 : decode cX4_namesMissing 33 = .ok (.iconst 0, 1) := by decide +kernel
theorem dX4_namesMissing_34 : decode cX4_namesMissing 34 = .ok (.istore_n 1, 1) := by decide +kernel
theorem dX4_namesMissing_35 : decode cX4_namesMissing 35 = .ok (.iload_n 1, 1) := by decide +kernel
theorem dX4_namesMissing_36 : decode cX4_namesMissing 36 = .ok (.aload_n 0, 1) := by decide +kernel
theorem dX4_namesMissing_37 : decode cX4_namesMissing 37 = .ok (.getfield 55, 3) := by decide +kernel
theorem dX4_namesMissing_40 : decode cX4_namesMissing 40 = .ok (.if_icmp .ge 43, 3) := by decide +kernel
theorem dX4_namesMissing_43 : decode cX4_namesMissing 43 = .ok (.iload_n 1, 1) := by decide +kernel
theorem dX4_namesMissing_44 : decode cX4_namesMissing 44 = .ok (.bipush 6, 2) := by decide +kernel
theorem dX4_namesMissing_46 : decode cX4_namesMissing 46 = .ok (.if_icmp .ge 37, 3) := by decide +kernel
theorem dX4_namesMissing_49 : decode cX4_namesMissing 49 = .ok (.aload_n 0, 1) := by decide +kernel
theorem dX4_namesMissing_50 : decode cX4_namesMissing 50 = .ok (.aload_n 0, 1) := by decide +kernel
theorem dX4_namesMissing_51 : decode cX4_namesMissing 51 = .ok (.getfield 36, 3) := by decide +kernel
theorem dX4_namesMissing_54 : decode cX4_namesMissing 54 = .ok (.iload_n 1, 1) := by decide +kernel
theorem dX4_namesMissing_55 : decode cX4_namesMissing 55 = .ok (.iaload, 1) := by decide +kernel
theorem dX4_namesMissing_56 : decode cX4_namesMissing 56 = .ok (.invokevirtual 64, 3) := by decide +kernel
theorem dX4_namesMissing_59 : decode cX4_namesMissing 59 = .ok (.ifCond .eq 16, 3) := by decide +kernel
theorem dX4_namesMissing_62 : decode cX4_namesMissing 62 = .ok (.aload_n 0, 1) := by decide +kernel
theorem dX4_namesMissing_63 : decode cX4_namesMissing 63 = .ok (.aload_n 0, 1) := by decide +kernel
theorem dX4_namesMissing_64 : decode cX4_namesMissing 64 = .ok (.getfield 39, 3) := by decide +kernel
theorem dX4_namesMissing_67 : decode cX4_namesMissing 67 = .ok (.iload_n 1, 1) := by decide +kernel
theorem dX4_namesMissing_68 : decode cX4_namesMissing 68 = .ok (.iaload, 1) := by decide +kernel
theorem dX4_namesMissing_69 : decode cX4_namesMissing 69 = .ok (.invokevirtual 68, 3) := by decide +kernel
theorem dX4_namesMissing_72 : decode cX4_namesMissing 72 = .ok (.ifCond .ne 5, 3) := by decide +kernel
theorem dX4_namesMissing_75 : decode cX4_namesMissing 75 = .ok (.iconst 1, 1) := by decide +kernel
theorem dX4_namesMissing_76 : decode cX4_namesMissing 76 = .ok (.ireturn, 1) := by decide +kernel
theorem dX4_namesMissing_77 : decode cX4_namesMissing 77 = .ok (.iinc 1 1, 3) := by decide +kernel
theorem dX4_namesMissing_80 : decode cX4_namesMissing 80 = .ok (.goto (-45), 3) := by decide +kernel
theorem dX4_namesMissing_83 : decode cX4_namesMissing 83 = .ok (.iconst 0, 1) := by decide +kernel
theorem dX4_namesMissing_84 : decode cX4_namesMissing 84 = .ok (.ireturn, 1) := by decide +kernel
theorem dX4_canHang_0 : decode cX4_canHang 0 = .ok (.aload_n 0, 1) := by decide +kernel
theorem dX4_canHang_1 : decode cX4_canHang 1 = .ok (.iload_n 1, 1) := by decide +kernel
theorem dX4_canHang_2 : decode cX4_canHang 2 = .ok (.invokevirtual 64, 3) := by decide +kernel
theorem dX4_canHang_5 : decode cX4_canHang 5 = .ok (.ifCond .eq 35, 3) := by decide +kernel
theorem dX4_canHang_8 : decode cX4_canHang 8 = .ok (.aload_n 0, 1) := by decide +kernel
theorem dX4_canHang_9 : decode cX4_canHang 9 = .ok (.iload_n 2, 1) := by decide +kernel
theorem dX4_canHang_10 : decode cX4_canHang 10 = .ok (.invokevirtual 68, 3) := by decide +kernel
theorem dX4_canHang_13 : decode cX4_canHang 13 = .ok (.ifCond .eq 27, 3) := by decide +kernel
theorem dX4_canHang_16 : decode cX4_canHang 16 = .ok (.aload_n 0, 1) := by decide +kernel
theorem dX4_canHang_17 : decode cX4_canHang 17 = .ok (.getfield 21, 3) := by decide +kernel
theorem dX4_canHang_20 : decode cX4_canHang 20 = .ok (.iload_n 1, 1) := by decide +kernel
theorem dX4_canHang_21 : decode cX4_canHang 21 = .ok (.iaload, 1) := by decide +kernel
theorem dX4_canHang_22 : decode cX4_canHang 22 = .ok (.iconst (-1), 1) := by decide +kernel
theorem dX4_canHang_23 : decode cX4_canHang 23 = .ok (.if_icmp .ne 17, 3) := by decide +kernel
theorem dX4_canHang_26 : decode cX4_canHang 26 = .ok (.aload_n 0, 1) := by decide +kernel
theorem dX4_canHang_27 : decode cX4_canHang 27 = .ok (.getfield 30, 3) := by decide +kernel
theorem dX4_canHang_30 : decode cX4_canHang 30 = .ok (.iload_n 2, 1) := by decide +kernel
theorem dX4_canHang_31 : decode cX4_canHang 31 = .ok (.iaload, 1) := by decide +kernel
theorem dX4_canHang_32 : decode cX4_canHang 32 = .ok (.iconst (-1), 1) := by decide +kernel
theorem dX4_canHang_33 : decode cX4_canHang 33 = .ok (.if_icmp .ne 7, 3) := by decide +kernel
theorem dX4_canHang_36 : decode cX4_canHang 36 = .ok (.iconst 1, 1) := by decide +kernel
theorem dX4_canHang_37 : decode cX4_canHang 37 = .ok (.goto 4, 3) := by decide +kernel
theorem dX4_canHang_40 : decode cX4_canHang 40 = .ok (.iconst 0, 1) := by decide +kernel
theorem dX4_canHang_41 : decode cX4_canHang 41 = .ok (.ireturn, 1) := by decide +kernel
theorem dX4_hangDoor_0 : decode cX4_hangDoor 0 = .ok (.aload_n 0, 1) := by decide +kernel
theorem dX4_hangDoor_1 : decode cX4_hangDoor 1 = .ok (.iload_n 1, 1) := by decide +kernel
theorem dX4_hangDoor_2 : decode cX4_hangDoor 2 = .ok (.iload_n 2, 1) := by decide +kernel
theorem dX4_hangDoor_3 : decode cX4_hangDoor 3 = .ok (.invokevirtual 71, 3) := by decide +kernel
theorem dX4_hangDoor_6 : decode cX4_hangDoor 6 = .ok (.ifCond .ne 5, 3) := by decide +kernel
theorem dX4_hangDoor_9 : decode cX4_hangDoor 9 = .ok (.iconst 0, 1) := by decide +kernel
theorem dX4_hangDoor_10 : decode cX4_hangDoor 10 = .ok (.ireturn, 1) := by decide +kernel
theorem dX4_hangDoor_11 : decode cX4_hangDoor 11 = .ok (.aload_n 0, 1) := by decide +kernel
theorem dX4_hangDoor_12 : decode cX4_hangDoor 12 = .ok (.getfield 21, 3) := by decide +kernel
theorem dX4_hangDoor_15 : decode cX4_hangDoor 15 = .ok (.iload_n 1, 1) := by decide +kernel
theorem dX4_hangDoor_16 : decode cX4_hangDoor 16 = .ok (.iload_n 2, 1) := by decide +kernel
theorem dX4_hangDoor_17 : decode cX4_hangDoor 17 = .ok (.iastore, 1) := by decide +kernel
theorem dX4_hangDoor_18 : decode cX4_hangDoor 18 = .ok (.aload_n 0, 1) := by decide +kernel
theorem dX4_hangDoor_19 : decode cX4_hangDoor 19 = .ok (.getfield 30, 3) := by decide +kernel
theorem dX4_hangDoor_22 : decode cX4_hangDoor 22 = .ok (.iload_n 2, 1) := by decide +kernel
theorem dX4_hangDoor_23 : decode cX4_hangDoor 23 = .ok (.iload_n 1, 1) := by decide +kernel
theorem dX4_hangDoor_24 : decode cX4_hangDoor 24 = .ok (.iastore, 1) := by decide +kernel
theorem dX4_hangDoor_25 : decode cX4_hangDoor 25 = .ok (.iconst 1, 1) := by decide +kernel
theorem dX4_hangDoor_26 : decode cX4_hangDoor 26 = .ok (.ireturn, 1) := by decide +kernel
theorem dX4_takeDoor_0 : decode cX4_takeDoor 0 = .ok (.aload_n 0, 1) := by decide +kernel
theorem dX4_takeDoor_1 : decode cX4_takeDoor 1 = .ok (.iload_n 1, 1) := by decide +kernel
theorem dX4_takeDoor_2 : decode cX4_takeDoor 2 = .ok (.invokevirtual 68, 3) := by decide +kernel
theorem dX4_takeDoor_5 : decode cX4_takeDoor 5 = .ok (.ifCond .eq 12, 3) := by decide +kernel
theorem dX4_takeDoor_8 : decode cX4_takeDoor 8 = .ok (.aload_n 0, 1) := by decide +kernel
theorem dX4_takeDoor_9 : decode cX4_takeDoor 9 = .ok (.getfield 30, 3) := by decide +kernel
theorem dX4_takeDoor_12 : decode cX4_takeDoor 12 = .ok (.iload_n 1, 1) := by decide +kernel
theorem dX4_takeDoor_13 : decode cX4_takeDoor 13 = .ok (.iaload, 1) := by decide +kernel
theorem dX4_takeDoor_14 : decode cX4_takeDoor 14 = .ok (.goto 4, 3) := by decide +kernel
theorem dX4_takeDoor_17 : decode cX4_takeDoor 17 = .ok (.iconst (-1), 1) := by decide +kernel
theorem dX4_takeDoor_18 : decode cX4_takeDoor 18 = .ok (.istore_n 3, 1) := by decide +kernel
theorem dX4_takeDoor_19 : decode cX4_takeDoor 19 = .ok (.aload_n 0, 1) := by decide +kernel
theorem dX4_takeDoor_20 : decode cX4_takeDoor 20 = .ok (.iload_n 3, 1) := by decide +kernel
theorem dX4_takeDoor_21 : decode cX4_takeDoor 21 = .ok (.invokevirtual 64, 3) := by decide +kernel
theorem dX4_takeDoor_24 : decode cX4_takeDoor 24 = .ok (.ifCond .ne 5, 3) := by decide +kernel
theorem dX4_takeDoor_27 : decode cX4_takeDoor 27 = .ok (.iconst (-1), 1) := by decide +kernel
theorem dX4_takeDoor_28 : decode cX4_takeDoor 28 = .ok (.ireturn, 1) := by decide +kernel
theorem dX4_takeDoor_29 : decode cX4_takeDoor 29 = .ok (.aload_n 0, 1) := by decide +kernel
theorem dX4_takeDoor_30 : decode cX4_takeDoor 30 = .ok (.getfield 30, 3) := by decide +kernel
theorem dX4_takeDoor_33 : decode cX4_takeDoor 33 = .ok (.iload_n 1, 1) := by decide +kernel
theorem dX4_takeDoor_34 : decode cX4_takeDoor 34 = .ok (.iconst (-1), 1) := by decide +kernel
theorem dX4_takeDoor_35 : decode cX4_takeDoor 35 = .ok (.iastore, 1) := by decide +kernel
theorem dX4_takeDoor_36 : decode cX4_takeDoor 36 = .ok (.aload_n 0, 1) := by decide +kernel
theorem dX4_takeDoor_37 : decode cX4_takeDoor 37 = .ok (.getfield 21, 3) := by decide +kernel
theorem dX4_takeDoor_40 : decode cX4_takeDoor 40 = .ok (.iload_n 3, 1) := by decide +kernel
theorem dX4_takeDoor_41 : decode cX4_takeDoor 41 = .ok (.iload_n 2, 1) := by decide +kernel
theorem dX4_takeDoor_42 : decode cX4_takeDoor 42 = .ok (.iastore, 1) := by decide +kernel
theorem dX4_takeDoor_43 : decode cX4_takeDoor 43 = .ok (.iload_n 3, 1) := by decide +kernel
theorem dX4_takeDoor_44 : decode cX4_takeDoor 44 = .ok (.ireturn, 1) := by decide +kernel
theorem dX4_moveDoor_0 : decode cX4_moveDoor 0 = .ok (.aload_n 0, 1) := by decide +kernel
theorem dX4_moveDoor_1 : decode cX4_moveDoor 1 = .ok (.iload_n 1, 1) := by decide +kernel
theorem dX4_moveDoor_2 : decode cX4_moveDoor 2 = .ok (.invokevirtual 64, 3) := by decide +kernel
theorem dX4_moveDoor_5 : decode cX4_moveDoor 5 = .ok (.ifCond .eq 31, 3) := by decide +kernel
theorem dX4_moveDoor_8 : decode cX4_moveDoor 8 = .ok (.aload_n 0, 1) := by decide +kernel
theorem dX4_moveDoor_9 : decode cX4_moveDoor 9 = .ok (.iload_n 2, 1) := by decide +kernel
theorem dX4_moveDoor_10 : decode cX4_moveDoor 10 = .ok (.invokevirtual 68, 3) := by decide +kernel
theorem dX4_moveDoor_13 : decode cX4_moveDoor 13 = .ok (.ifCond .eq 23, 3) := by decide +kernel
theorem dX4_moveDoor_16 : decode cX4_moveDoor 16 = .ok (.aload_n 0, 1) := by decide +kernel
theorem dX4_moveDoor_17 : decode cX4_moveDoor 17 = .ok (.getfield 30, 3) := by decide +kernel
theorem dX4_moveDoor_20 : decode cX4_moveDoor 20 = .ok (.iload_n 2, 1) := by decide +kernel
theorem dX4_moveDoor_21 : decode cX4_moveDoor 21 = .ok (.iaload, 1) := by decide +kernel
theorem dX4_moveDoor_22 : decode cX4_moveDoor 22 = .ok (.iconst (-1), 1) := by decide +kernel
theorem dX4_moveDoor_23 : decode cX4_moveDoor 23 = .ok (.if_icmp .eq 15, 3) := by decide +kernel
theorem dX4_moveDoor_26 : decode cX4_moveDoor 26 = .ok (.aload_n 0, 1) := by decide +kernel
theorem dX4_moveDoor_27 : decode cX4_moveDoor 27 = .ok (.getfield 30, 3) := by decide +kernel
theorem dX4_moveDoor_30 : decode cX4_moveDoor 30 = .ok (.iload_n 2, 1) := by decide +kernel
theorem dX4_moveDoor_31 : decode cX4_moveDoor 31 = .ok (.iaload, 1) := by decide +kernel
theorem dX4_moveDoor_32 : decode cX4_moveDoor 32 = .ok (.iload_n 1, 1) := by decide +kernel
theorem dX4_moveDoor_33 : decode cX4_moveDoor 33 = .ok (.if_icmp .eq 5, 3) := by decide +kernel
theorem dX4_moveDoor_36 : decode cX4_moveDoor 36 = .ok (.iconst 0, 1) := by decide +kernel
theorem dX4_moveDoor_37 : decode cX4_moveDoor 37 = .ok (.ireturn, 1) := by decide +kernel
theorem dX4_moveDoor_38 : decode cX4_moveDoor 38 = .ok (.aload_n 0, 1) := by decide +kernel
theorem dX4_moveDoor_39 : decode cX4_moveDoor 39 = .ok (.aload_n 0, 1) := by decide +kernel
theorem dX4_moveDoor_40 : decode cX4_moveDoor 40 = .ok (.getfield 21, 3) := by decide +kernel
theorem dX4_moveDoor_43 : decode cX4_moveDoor 43 = .ok (.iload_n 1, 1) := by decide +kernel
theorem dX4_moveDoor_44 : decode cX4_moveDoor 44 = .ok (.iaload, 1) := by decide +kernel
theorem dX4_moveDoor_45 : decode cX4_moveDoor 45 = .ok (.iconst (-1), 1) := by decide +kernel
theorem dX4_moveDoor_46 : decode cX4_moveDoor 46 = .ok (.invokevirtual 75, 3) := by decide +kernel
theorem dX4_moveDoor_49 : decode cX4_moveDoor 49 = .ok (.pop, 1) := by decide +kernel
theorem dX4_moveDoor_50 : decode cX4_moveDoor 50 = .ok (.aload_n 0, 1) := by decide +kernel
theorem dX4_moveDoor_51 : decode cX4_moveDoor 51 = .ok (.getfield 21, 3) := by decide +kernel
theorem dX4_moveDoor_54 : decode cX4_moveDoor 54 = .ok (.iload_n 1, 1) := by decide +kernel
theorem dX4_moveDoor_55 : decode cX4_moveDoor 55 = .ok (.iconst (-1), 1) := by decide +kernel
theorem dX4_moveDoor_56 : decode cX4_moveDoor 56 = .ok (.iastore, 1) := by decide +kernel
theorem dX4_moveDoor_57 : decode cX4_moveDoor 57 = .ok (.aload_n 0, 1) := by decide +kernel
theorem dX4_moveDoor_58 : decode cX4_moveDoor 58 = .ok (.iload_n 1, 1) := by decide +kernel
theorem dX4_moveDoor_59 : decode cX4_moveDoor 59 = .ok (.iload_n 2, 1) := by decide +kernel
theorem dX4_moveDoor_60 : decode cX4_moveDoor 60 = .ok (.invokevirtual 79, 3) := by decide +kernel
theorem dX4_moveDoor_63 : decode cX4_moveDoor 63 = .ok (.ireturn, 1) := by decide +kernel
theorem dX4_doorState_0 : decode cX4_doorState 0 = .ok (.aload_n 0, 1) := by decide +kernel
theorem dX4_doorState_1 : decode cX4_doorState 1 = .ok (.getfield 21, 3) := by decide +kernel
theorem dX4_doorState_4 : decode cX4_doorState 4 = .ok (.iload_n 1, 1) := by decide +kernel
theorem dX4_doorState_5 : decode cX4_doorState 5 = .ok (.iaload, 1) := by decide +kernel
theorem dX4_doorState_6 : decode cX4_doorState 6 = .ok (.iconst (-1), 1) := by decide +kernel
theorem dX4_doorState_7 : decode cX4_doorState 7 = .ok (.if_icmp .ne 7, 3) := by decide +kernel
theorem dX4_doorState_10 : decode cX4_doorState 10 = .ok (.iconst 0, 1) := by decide +kernel
theorem dX4_doorState_11 : decode cX4_doorState 11 = .ok (.goto 19, 3) := by decide +kernel
theorem dX4_doorState_14 : decode cX4_doorState 14 = .ok (.aload_n 0, 1) := by decide +kernel
theorem dX4_doorState_15 : decode cX4_doorState 15 = .ok (.getfield 21, 3) := by decide +kernel
theorem dX4_doorState_18 : decode cX4_doorState 18 = .ok (.iload_n 1, 1) := by decide +kernel
theorem dX4_doorState_19 : decode cX4_doorState 19 = .ok (.iaload, 1) := by decide +kernel
theorem dX4_doorState_20 : decode cX4_doorState 20 = .ok (.bipush (-2), 2) := by decide +kernel
theorem dX4_doorState_22 : decode cX4_doorState 22 = .ok (.if_icmp .ne 7, 3) := by decide +kernel
theorem dX4_doorState_25 : decode cX4_doorState 25 = .ok (.iconst 2, 1) := by decide +kernel
theorem dX4_doorState_26 : decode cX4_doorState 26 = .ok (.goto 4, 3) := by decide +kernel
theorem dX4_doorState_29 : decode cX4_doorState 29 = .ok (.iconst 1, 1) := by decide +kernel
theorem dX4_doorState_30 : decode cX4_doorState 30 = .ok (.ireturn, 1) := by decide +kernel
theorem dX4_doorsAt_0 : decode cX4_doorsAt 0 = .ok (.iconst 0, 1) := by decide +kernel
theorem dX4_doorsAt_1 : decode cX4_doorsAt 1 = .ok (.istore_n 2, 1) := by decide +kernel
theorem dX4_doorsAt_2 : decode cX4_doorsAt 2 = .ok (.iconst 0, 1) := by decide +kernel
theorem dX4_doorsAt_3 : decode cX4_doorsAt 3 = .ok (.istore_n 3, 1) := by decide +kernel
theorem dX4_doorsAt_4 : decode cX4_doorsAt 4 = .ok (.iload_n 3, 1) := by decide +kernel
theorem dX4_doorsAt_5 : decode cX4_doorsAt 5 = .ok (.aload_n 0, 1) := by decide +kernel
theorem dX4_doorsAt_6 : decode cX4_doorsAt 6 = .ok (.getfield 48, 3) := by decide +kernel
theorem dX4_doorsAt_9 : decode cX4_doorsAt 9 = .ok (.if_icmp .ge 25, 3) := by decide +kernel
theorem dX4_doorsAt_12 : decode cX4_doorsAt 12 = .ok (.aload_n 0, 1) := by decide +kernel
theorem dX4_doorsAt_13 : decode cX4_doorsAt 13 = .ok (.getfield 21, 3) := by decide +kernel
theorem dX4_doorsAt_16 : decode cX4_doorsAt 16 = .ok (.iload_n 3, 1) := by decide +kernel
theorem dX4_doorsAt_17 : decode cX4_doorsAt 17 = .ok (.iaload, 1) := by decide +kernel
theorem dX4_doorsAt_18 : decode cX4_doorsAt 18 = .ok (.iload_n 1, 1) := by decide +kernel
theorem dX4_doorsAt_19 : decode cX4_doorsAt 19 = .ok (.if_icmp .ne 9, 3) := by decide +kernel
theorem dX4_doorsAt_22 : decode cX4_doorsAt 22 = .ok (.iload_n 2, 1) := by decide +kernel
theorem dX4_doorsAt_23 : decode cX4_doorsAt 23 = .ok (.iconst 1, 1) := by decide +kernel
theorem dX4_doorsAt_24 : decode cX4_doorsAt 24 = .ok (.iload_n 3, 1) := by decide +kernel
theorem dX4_doorsAt_25 : decode cX4_doorsAt 25 = .ok (.ishl, 1) := by decide +kernel
theorem dX4_doorsAt_26 : decode cX4_doorsAt 26 = .ok (.ior, 1) := by decide +kernel
theorem dX4_doorsAt_27 : decode cX4_doorsAt 27 = .ok (.istore_n 2, 1) := by decide +kernel
theorem dX4_doorsAt_28 : decode cX4_doorsAt 28 = .ok (.iinc 3 1, 3) := by decide +kernel
theorem dX4_doorsAt_31 : decode cX4_doorsAt 31 = .ok (.goto (-27), 3) := by decide +kernel
theorem dX4_doorsAt_34 : decode cX4_doorsAt 34 = .ok (.iload_n 2, 1) := by decide +kernel
theorem dX4_doorsAt_35 : decode cX4_doorsAt 35 = .ok (.ireturn, 1) := by decide +kernel
theorem dX4_hungWalls_0 : decode cX4_hungWalls 0 = .ok (.iconst 0, 1) := by decide +kernel
theorem dX4_hungWalls_1 : decode cX4_hungWalls 1 = .ok (.istore_n 1, 1) := by decide +kernel
theorem dX4_hungWalls_2 : decode cX4_hungWalls 2 = .ok (.iconst 0, 1) := by decide +kernel
theorem dX4_hungWalls_3 : decode cX4_hungWalls 3 = .ok (.istore_n 2, 1) := by decide +kernel
theorem dX4_hungWalls_4 : decode cX4_hungWalls 4 = .ok (.iload_n 2, 1) := by decide +kernel
theorem dX4_hungWalls_5 : decode cX4_hungWalls 5 = .ok (.aload_n 0, 1) := by decide +kernel
theorem dX4_hungWalls_6 : decode cX4_hungWalls 6 = .ok (.getfield 52, 3) := by decide +kernel
theorem dX4_hungWalls_9 : decode cX4_hungWalls 9 = .ok (.if_icmp .ge 25, 3) := by decide +kernel
theorem dX4_hungWalls_12 : decode cX4_hungWalls 12 = .ok (.aload_n 0, 1) := by decide +kernel
theorem dX4_hungWalls_13 : decode cX4_hungWalls 13 = .ok (.getfield 30, 3) := by decide +kernel
theorem dX4_hungWalls_16 : decode cX4_hungWalls 16 = .ok (.iload_n 2, 1) := by decide +kernel
theorem dX4_hungWalls_17 : decode cX4_hungWalls 17 = .ok (.iaload, 1) := by decide +kernel
theorem dX4_hungWalls_18 : decode cX4_hungWalls 18 = .ok (.iconst (-1), 1) := by decide +kernel
theorem dX4_hungWalls_19 : decode cX4_hungWalls 19 = .ok (.if_icmp .eq 9, 3) := by decide +kernel
theorem dX4_hungWalls_22 : decode cX4_hungWalls 22 = .ok (.iload_n 1, 1) := by decide +kernel
theorem dX4_hungWalls_23 : decode cX4_hungWalls 23 = .ok (.iconst 1, 1) := by decide +kernel
theorem dX4_hungWalls_24 : decode cX4_hungWalls 24 = .ok (.iload_n 2, 1) := by decide +kernel
theorem dX4_hungWalls_25 : decode cX4_hungWalls 25 = .ok (.ishl, 1) := by decide +kernel
theorem dX4_hungWalls_26 : decode cX4_hungWalls 26 = .ok (.ior, 1) := by decide +kernel
theorem dX4_hungWalls_27 : decode cX4_hungWalls 27 = .ok (.istore_n 1, 1) := by decide +kernel
theorem dX4_hungWalls_28 : decode cX4_hungWalls 28 = .ok (.iinc 2 1, 3) := by decide +kernel
theorem dX4_hungWalls_31 : decode cX4_hungWalls 31 = .ok (.goto (-27), 3) := by decide +kernel
theorem dX4_hungWalls_34 : decode cX4_hungWalls 34 = .ok (.iload_n 1, 1) := by decide +kernel
theorem dX4_hungWalls_35 : decode cX4_hungWalls 35 = .ok (.ireturn, 1) := by decide +kernel
theorem dX4_lets_0 : decode cX4_lets 0 = .ok (.aload_n 0, 1) := by decide +kernel
theorem dX4_lets_1 : decode cX4_lets 1 = .ok (.iload_n 1, 1) := by decide +kernel
theorem dX4_lets_2 : decode cX4_lets 2 = .ok (.invokevirtual 64, 3) := by decide +kernel
theorem dX4_lets_5 : decode cX4_lets 5 = .ok (.ifCond .eq 11, 3) := by decide +kernel
theorem dX4_lets_8 : decode cX4_lets 8 = .ok (.aload_n 0, 1) := by decide +kernel
theorem dX4_lets_9 : decode cX4_lets 9 = .ok (.iload_n 2, 1) := by decide +kernel
theorem dX4_lets_10 : decode cX4_lets 10 = .ok (.invokevirtual 64, 3) := by decide +kernel
theorem dX4_lets_13 : decode cX4_lets 13 = .ok (.ifCond .ne 5, 3) := by decide +kernel
theorem dX4_lets_16 : decode cX4_lets 16 = .ok (.iconst 0, 1) := by decide +kernel
theorem dX4_lets_17 : decode cX4_lets 17 = .ok (.ireturn, 1) := by decide +kernel
theorem dX4_lets_18 : decode cX4_lets 18 = .ok (.aload_n 0, 1) := by decide +kernel
theorem dX4_lets_19 : decode cX4_lets 19 = .ok (.getfield 9, 3) := by decide +kernel
theorem dX4_lets_22 : decode cX4_lets 22 = .ok (.iload_n 1, 1) := by decide +kernel
theorem dX4_lets_23 : decode cX4_lets 23 = .ok (.iaload, 1) := by decide +kernel
theorem dX4_lets_24 : decode cX4_lets 24 = .ok (.tableswitch 81 0 2 #[28, 39, 60], 28) := by decide +kernel
theorem dX4_lets_52 : decode cX4_lets 52 = .ok (.iload_n 2, 1) := by decide +kernel
theorem dX4_lets_53 : decode cX4_lets 53 = .ok (.iload_n 1, 1) := by decide +kernel
theorem dX4_lets_54 : decode cX4_lets 54 = .ok (.if_icmp .ne 7, 3) := by decide +kernel
theorem dX4_lets_57 : decode cX4_lets 57 = .ok (.iconst 1, 1) := by decide +kernel
theorem dX4_lets_58 : decode cX4_lets 58 = .ok (.goto 4, 3) := by decide +kernel
theorem dX4_lets_61 : decode cX4_lets 61 = .ok (.iconst 0, 1) := by decide +kernel
theorem dX4_lets_62 : decode cX4_lets 62 = .ok (.ireturn, 1) := by decide +kernel
theorem dX4_lets_63 : decode cX4_lets 63 = .ok (.aload_n 0, 1) := by decide +kernel
theorem dX4_lets_64 : decode cX4_lets 64 = .ok (.getfield 15, 3) := by decide +kernel
theorem dX4_lets_67 : decode cX4_lets 67 = .ok (.iload_n 2, 1) := by decide +kernel
theorem dX4_lets_68 : decode cX4_lets 68 = .ok (.iaload, 1) := by decide +kernel
theorem dX4_lets_69 : decode cX4_lets 69 = .ok (.aload_n 0, 1) := by decide +kernel
theorem dX4_lets_70 : decode cX4_lets 70 = .ok (.getfield 15, 3) := by decide +kernel
theorem dX4_lets_73 : decode cX4_lets 73 = .ok (.iload_n 1, 1) := by decide +kernel
theorem dX4_lets_74 : decode cX4_lets 74 = .ok (.iaload, 1) := by decide +kernel
theorem dX4_lets_75 : decode cX4_lets 75 = .ok (.if_icmp .ne 7, 3) := by decide +kernel
theorem dX4_lets_78 : decode cX4_lets 78 = .ok (.iconst 1, 1) := by decide +kernel
theorem dX4_lets_79 : decode cX4_lets 79 = .ok (.goto 4, 3) := by decide +kernel
theorem dX4_lets_82 : decode cX4_lets 82 = .ok (.iconst 0, 1) := by decide +kernel
theorem dX4_lets_83 : decode cX4_lets 83 = .ok (.ireturn, 1) := by decide +kernel
theorem dX4_lets_84 : decode cX4_lets 84 = .ok (.aload_n 0, 1) := by decide +kernel
theorem dX4_lets_85 : decode cX4_lets 85 = .ok (.getfield 15, 3) := by decide +kernel
theorem dX4_lets_88 : decode cX4_lets 88 = .ok (.iload_n 2, 1) := by decide +kernel
theorem dX4_lets_89 : decode cX4_lets 89 = .ok (.iaload, 1) := by decide +kernel
theorem dX4_lets_90 : decode cX4_lets 90 = .ok (.aload_n 0, 1) := by decide +kernel
theorem dX4_lets_91 : decode cX4_lets 91 = .ok (.getfield 15, 3) := by decide +kernel
theorem dX4_lets_94 : decode cX4_lets 94 = .ok (.iload_n 1, 1) := by decide +kernel
theorem dX4_lets_95 : decode cX4_lets 95 = .ok (.iaload, 1) := by decide +kernel
theorem dX4_lets_96 : decode cX4_lets 96 = .ok (.if_icmp .eq 7, 3) := by decide +kernel
theorem dX4_lets_99 : decode cX4_lets 99 = .ok (.iconst 1, 1) := by decide +kernel
theorem dX4_lets_100 : decode cX4_lets 100 = .ok (.goto 4, 3) := by decide +kernel
theorem dX4_lets_103 : decode cX4_lets 103 = .ok (.iconst 0, 1) := by decide +kernel
theorem dX4_lets_104 : decode cX4_lets 104 = .ok (.ireturn, 1) := by decide +kernel
theorem dX4_lets_105 : decode cX4_lets 105 = .ok (.iload_n 2, 1) := by decide +kernel
theorem dX4_lets_106 : decode cX4_lets 106 = .ok (.iload_n 1, 1) := by decide +kernel
theorem dX4_lets_107 : decode cX4_lets 107 = .ok (.if_icmp .eq 7, 3) := by decide +kernel
theorem dX4_lets_110 : decode cX4_lets 110 = .ok (.iconst 1, 1) := by decide +kernel
theorem dX4_lets_111 : decode cX4_lets 111 = .ok (.goto 4, 3) := by decide +kernel
theorem dX4_lets_114 : decode cX4_lets 114 = .ok (.iconst 0, 1) := by decide +kernel
theorem dX4_lets_115 : decode cX4_lets 115 = .ok (.ireturn, 1) := by decide +kernel
theorem dX4_whomLets_0 : decode cX4_whomLets 0 = .ok (.iconst 0, 1) := by decide +kernel
theorem dX4_whomLets_1 : decode cX4_whomLets 1 = .ok (.istore_n 2, 1) := by decide +kernel
theorem dX4_whomLets_2 : decode cX4_whomLets 2 = .ok (.iconst 0, 1) := by decide +kernel
theorem dX4_whomLets_3 : decode cX4_whomLets 3 = .ok (.istore_n 3, 1) := by decide +kernel
theorem dX4_whomLets_4 : decode cX4_whomLets 4 = .ok (.iload_n 3, 1) := by decide +kernel
theorem dX4_whomLets_5 : decode cX4_whomLets 5 = .ok (.aload_n 0, 1) := by decide +kernel
theorem dX4_whomLets_6 : decode cX4_whomLets 6 = .ok (.getfield 48, 3) := by decide +kernel
theorem dX4_whomLets_9 : decode cX4_whomLets 9 = .ok (.if_icmp .ge 29, 3) := by decide +kernel
theorem dX4_whomLets_12 : decode cX4_whomLets 12 = .ok (.aload_n 0, 1) := by decide +kernel
theorem dX4_whomLets_13 : decode cX4_whomLets 13 = .ok (.aload_n 0, 1) := by decide +kernel
theorem dX4_whomLets_14 : decode cX4_whomLets 14 = .ok (.getfield 30, 3) := by decide +kernel
theorem dX4_whomLets_17 : decode cX4_whomLets 17 = .ok (.iload_n 1, 1) := by decide +kernel
theorem dX4_whomLets_18 : decode cX4_whomLets 18 = .ok (.iaload, 1) := by decide +kernel
theorem dX4_whomLets_19 : decode cX4_whomLets 19 = .ok (.iload_n 3, 1) := by decide +kernel
theorem dX4_whomLets_20 : decode cX4_whomLets 20 = .ok (.invokevirtual 82, 3) := by decide +kernel
theorem dX4_whomLets_23 : decode cX4_whomLets 23 = .ok (.ifCond .eq 9, 3) := by decide +kernel
theorem dX4_whomLets_26 : decode cX4_whomLets 26 = .ok (.iload_n 2, 1) := by decide +kernel
theorem dX4_whomLets_27 : decode cX4_whomLets 27 = .ok (.iconst 1, 1) := by decide +kernel
theorem dX4_whomLets_28 : decode cX4_whomLets 28 = .ok (.iload_n 3, 1) := by decide +kernel
theorem dX4_whomLets_29 : decode cX4_whomLets 29 = .ok (.ishl, 1) := by decide +kernel
theorem dX4_whomLets_30 : decode cX4_whomLets 30 = .ok (.ior, 1) := by decide +kernel
theorem dX4_whomLets_31 : decode cX4_whomLets 31 = .ok (.istore_n 2, 1) := by decide +kernel
theorem dX4_whomLets_32 : decode cX4_whomLets 32 = .ok (.iinc 3 1, 3) := by decide +kernel
theorem dX4_whomLets_35 : decode cX4_whomLets 35 = .ok (.goto (-31), 3) := by decide +kernel
theorem dX4_whomLets_38 : decode cX4_whomLets 38 = .ok (.iload_n 2, 1) := by decide +kernel
theorem dX4_whomLets_39 : decode cX4_whomLets 39 = .ok (.ireturn, 1) := by decide +kernel
theorem dX4_passed_0 : decode cX4_passed 0 = .ok (.iconst 0, 1) := by decide +kernel
theorem dX4_passed_1 : decode cX4_passed 1 = .ok (.istore_n 2, 1) := by decide +kernel
theorem dX4_passed_2 : decode cX4_passed 2 = .ok (.iconst 0, 1) := by decide +kernel
theorem dX4_passed_3 : decode cX4_passed 3 = .ok (.istore_n 3, 1) := by decide +kernel
theorem dX4_passed_4 : decode cX4_passed 4 = .ok (.iload_n 3, 1) := by decide +kernel
theorem dX4_passed_5 : decode cX4_passed 5 = .ok (.aload_n 0, 1) := by decide +kernel
theorem dX4_passed_6 : decode cX4_passed 6 = .ok (.getfield 52, 3) := by decide +kernel
theorem dX4_passed_9 : decode cX4_passed 9 = .ok (.if_icmp .ge 29, 3) := by decide +kernel
theorem dX4_passed_12 : decode cX4_passed 12 = .ok (.aload_n 0, 1) := by decide +kernel
theorem dX4_passed_13 : decode cX4_passed 13 = .ok (.aload_n 0, 1) := by decide +kernel
theorem dX4_passed_14 : decode cX4_passed 14 = .ok (.getfield 30, 3) := by decide +kernel
theorem dX4_passed_17 : decode cX4_passed 17 = .ok (.iload_n 3, 1) := by decide +kernel
theorem dX4_passed_18 : decode cX4_passed 18 = .ok (.iaload, 1) := by decide +kernel
theorem dX4_passed_19 : decode cX4_passed 19 = .ok (.iload_n 1, 1) := by decide +kernel
theorem dX4_passed_20 : decode cX4_passed 20 = .ok (.invokevirtual 82, 3) := by decide +kernel
theorem dX4_passed_23 : decode cX4_passed 23 = .ok (.ifCond .eq 9, 3) := by decide +kernel
theorem dX4_passed_26 : decode cX4_passed 26 = .ok (.iload_n 2, 1) := by decide +kernel
theorem dX4_passed_27 : decode cX4_passed 27 = .ok (.iconst 1, 1) := by decide +kernel
theorem dX4_passed_28 : decode cX4_passed 28 = .ok (.iload_n 3, 1) := by decide +kernel
theorem dX4_passed_29 : decode cX4_passed 29 = .ok (.ishl, 1) := by decide +kernel
theorem dX4_passed_30 : decode cX4_passed 30 = .ok (.ior, 1) := by decide +kernel
theorem dX4_passed_31 : decode cX4_passed 31 = .ok (.istore_n 2, 1) := by decide +kernel
theorem dX4_passed_32 : decode cX4_passed 32 = .ok (.iinc 3 1, 3) := by decide +kernel
theorem dX4_passed_35 : decode cX4_passed 35 = .ok (.goto (-31), 3) := by decide +kernel
theorem dX4_passed_38 : decode cX4_passed 38 = .ok (.iload_n 2, 1) := by decide +kernel
theorem dX4_passed_39 : decode cX4_passed 39 = .ok (.ireturn, 1) := by decide +kernel
theorem dX4_passedIfHung_0 : decode cX4_passedIfHung 0 = .ok (.aload_n 0, 1) := by decide +kernel
theorem dX4_passedIfHung_1 : decode cX4_passedIfHung 1 = .ok (.iload_n 1, 1) := by decide +kernel
theorem dX4_passedIfHung_2 : decode cX4_passedIfHung 2 = .ok (.iload_n 3, 1) := by decide +kernel
theorem dX4_passedIfHung_3 : decode cX4_passedIfHung 3 = .ok (.invokevirtual 82, 3) := by decide +kernel
theorem dX4_passedIfHung_6 : decode cX4_passedIfHung 6 = .ok (.ifCond .eq 15, 3) := by decide +kernel
theorem dX4_passedIfHung_9 : decode cX4_passedIfHung 9 = .ok (.aload_n 0, 1) := by decide +kernel
theorem dX4_passedIfHung_10 : decode cX4_passedIfHung 10 = .ok (.iload_n 3, 1) := by decide +kernel
theorem dX4_passedIfHung_11 : decode cX4_passedIfHung 11 = .ok (.invokevirtual 85, 3) := by decide +kernel
theorem dX4_passedIfHung_14 : decode cX4_passedIfHung 14 = .ok (.iconst 1, 1) := by decide +kernel
theorem dX4_passedIfHung_15 : decode cX4_passedIfHung 15 = .ok (.iload_n 2, 1) := by decide +kernel
theorem dX4_passedIfHung_16 : decode cX4_passedIfHung 16 = .ok (.ishl, 1) := by decide +kernel
theorem dX4_passedIfHung_17 : decode cX4_passedIfHung 17 = .ok (.ior, 1) := by decide +kernel
theorem dX4_passedIfHung_18 : decode cX4_passedIfHung 18 = .ok (.goto 8, 3) := by decide +kernel
theorem dX4_passedIfHung_21 : decode cX4_passedIfHung 21 = .ok (.aload_n 0, 1) := by decide +kernel
theorem dX4_passedIfHung_22 : decode cX4_passedIfHung 22 = .ok (.iload_n 3, 1) := by decide +kernel
theorem dX4_passedIfHung_23 : decode cX4_passedIfHung 23 = .ok (.invokevirtual 85, 3) := by decide +kernel
theorem dX4_passedIfHung_26 : decode cX4_passedIfHung 26 = .ok (.ireturn, 1) := by decide +kernel
theorem dX4_nextTo_0 : decode cX4_nextTo 0 = .ok (.iconst 0, 1) := by decide +kernel
theorem dX4_nextTo_1 : decode cX4_nextTo 1 = .ok (.istore_n 3, 1) := by decide +kernel
theorem dX4_nextTo_2 : decode cX4_nextTo 2 = .ok (.iconst 0, 1) := by decide +kernel
theorem dX4_nextTo_3 : decode cX4_nextTo 3 = .ok (.istore 4, 2) := by decide +kernel
theorem dX4_nextTo_5 : decode cX4_nextTo 5 = .ok (.iload 4, 2) := by decide +kernel
theorem dX4_nextTo_7 : decode cX4_nextTo 7 = .ok (.aload_n 0, 1) := by decide +kernel
theorem dX4_nextTo_8 : decode cX4_nextTo 8 = .ok (.getfield 52, 3) := by decide +kernel
theorem dX4_nextTo_11 : decode cX4_nextTo 11 = .ok (.if_icmp .ge 79, 3) := by decide +kernel
theorem dX4_nextTo_14 : decode cX4_nextTo 14 = .ok (.iload_n 2, 1) := by decide +kernel
theorem dX4_nextTo_15 : decode cX4_nextTo 15 = .ok (.iload 4, 2) := by decide +kernel
theorem dX4_nextTo_17 : decode cX4_nextTo 17 = .ok (.invokestatic 89, 3) := by decide +kernel
theorem dX4_nextTo_20 : decode cX4_nextTo 20 = .ok (.istore 5, 2) := by decide +kernel
theorem dX4_nextTo_22 : decode cX4_nextTo 22 = .ok (.iload 5, 2) := by decide +kernel
theorem dX4_nextTo_24 : decode cX4_nextTo 24 = .ok (.ifCond .eq 29, 3) := by decide +kernel
theorem dX4_nextTo_27 : decode cX4_nextTo 27 = .ok (.iload_n 1, 1) := by decide +kernel
theorem dX4_nextTo_28 : decode cX4_nextTo 28 = .ok (.aload_n 0, 1) := by decide +kernel
theorem dX4_nextTo_29 : decode cX4_nextTo 29 = .ok (.getfield 24, 3) := by decide +kernel
theorem dX4_nextTo_32 : decode cX4_nextTo 32 = .ok (.iload 4, 2) := by decide +kernel
theorem dX4_nextTo_34 : decode cX4_nextTo 34 = .ok (.iaload, 1) := by decide +kernel
theorem dX4_nextTo_35 : decode cX4_nextTo 35 = .ok (.invokestatic 89, 3) := by decide +kernel
theorem dX4_nextTo_38 : decode cX4_nextTo 38 = .ok (.ifCond .eq 15, 3) := by decide +kernel
theorem dX4_nextTo_41 : decode cX4_nextTo 41 = .ok (.iload_n 3, 1) := by decide +kernel
theorem dX4_nextTo_42 : decode cX4_nextTo 42 = .ok (.iconst 1, 1) := by decide +kernel
theorem dX4_nextTo_43 : decode cX4_nextTo 43 = .ok (.aload_n 0, 1) := by decide +kernel
theorem dX4_nextTo_44 : decode cX4_nextTo 44 = .ok (.getfield 27, 3) := by decide +kernel
theorem dX4_nextTo_47 : decode cX4_nextTo 47 = .ok (.iload 4, 2) := by decide +kernel
theorem dX4_nextTo_49 : decode cX4_nextTo 49 = .ok (.iaload, 1) := by decide +kernel
theorem dX4_nextTo_50 : decode cX4_nextTo 50 = .ok (.ishl, 1) := by decide +kernel
theorem dX4_nextTo_51 : decode cX4_nextTo 51 = .ok (.ior, 1) := by decide +kernel
theorem dX4_nextTo_52 : decode cX4_nextTo 52 = .ok (.istore_n 3, 1) := by decide +kernel
theorem dX4_nextTo_53 : decode cX4_nextTo 53 = .ok (.iload 5, 2) := by decide +kernel
theorem dX4_nextTo_55 : decode cX4_nextTo 55 = .ok (.ifCond .eq 29, 3) := by decide +kernel
theorem dX4_nextTo_58 : decode cX4_nextTo 58 = .ok (.iload_n 1, 1) := by decide +kernel
theorem dX4_nextTo_59 : decode cX4_nextTo 59 = .ok (.aload_n 0, 1) := by decide +kernel
theorem dX4_nextTo_60 : decode cX4_nextTo 60 = .ok (.getfield 27, 3) := by decide +kernel
theorem dX4_nextTo_63 : decode cX4_nextTo 63 = .ok (.iload 4, 2) := by decide +kernel
theorem dX4_nextTo_65 : decode cX4_nextTo 65 = .ok (.iaload, 1) := by decide +kernel
theorem dX4_nextTo_66 : decode cX4_nextTo 66 = .ok (.invokestatic 89, 3) := by decide +kernel
theorem dX4_nextTo_69 : decode cX4_nextTo 69 = .ok (.ifCond .eq 15, 3) := by decide +kernel
theorem dX4_nextTo_72 : decode cX4_nextTo 72 = .ok (.iload_n 3, 1) := by decide +kernel
theorem dX4_nextTo_73 : decode cX4_nextTo 73 = .ok (.iconst 1, 1) := by decide +kernel
theorem dX4_nextTo_74 : decode cX4_nextTo 74 = .ok (.aload_n 0, 1) := by decide +kernel
theorem dX4_nextTo_75 : decode cX4_nextTo 75 = .ok (.getfield 24, 3) := by decide +kernel
theorem dX4_nextTo_78 : decode cX4_nextTo 78 = .ok (.iload 4, 2) := by decide +kernel
theorem dX4_nextTo_80 : decode cX4_nextTo 80 = .ok (.iaload, 1) := by decide +kernel
theorem dX4_nextTo_81 : decode cX4_nextTo 81 = .ok (.ishl, 1) := by decide +kernel
theorem dX4_nextTo_82 : decode cX4_nextTo 82 = .ok (.ior, 1) := by decide +kernel
theorem dX4_nextTo_83 : decode cX4_nextTo 83 = .ok (.istore_n 3, 1) := by decide +kernel
theorem dX4_nextTo_84 : decode cX4_nextTo 84 = .ok (.iinc 4 1, 3) := by decide +kernel
theorem dX4_nextTo_87 : decode cX4_nextTo 87 = .ok (.goto (-82), 3) := by decide +kernel
theorem dX4_nextTo_90 : decode cX4_nextTo 90 = .ok (.iload_n 3, 1) := by decide +kernel
theorem dX4_nextTo_91 : decode cX4_nextTo 91 = .ok (.ireturn, 1) := by decide +kernel
theorem dX4_spread_0 : decode cX4_spread 0 = .ok (.iconst 1, 1) := by decide +kernel
theorem dX4_spread_1 : decode cX4_spread 1 = .ok (.iload_n 1, 1) := by decide +kernel
theorem dX4_spread_2 : decode cX4_spread 2 = .ok (.ishl, 1) := by decide +kernel
theorem dX4_spread_3 : decode cX4_spread 3 = .ok (.istore_n 3, 1) := by decide +kernel
theorem dX4_spread_4 : decode cX4_spread 4 = .ok (.iload_n 3, 1) := by decide +kernel
theorem dX4_spread_5 : decode cX4_spread 5 = .ok (.aload_n 0, 1) := by decide +kernel
theorem dX4_spread_6 : decode cX4_spread 6 = .ok (.iload_n 3, 1) := by decide +kernel
theorem dX4_spread_7 : decode cX4_spread 7 = .ok (.iload_n 2, 1) := by decide +kernel
theorem dX4_spread_8 : decode cX4_spread 8 = .ok (.invokevirtual 92, 3) := by decide +kernel
theorem dX4_spread_11 : decode cX4_spread 11 = .ok (.ior, 1) := by decide +kernel
theorem dX4_spread_12 : decode cX4_spread 12 = .ok (.istore 4, 2) := by decide +kernel
theorem dX4_spread_14 : decode cX4_spread 14 = .ok (.iconst 1, 1) := by decide +kernel
theorem dX4_spread_15 : decode cX4_spread 15 = .ok (.istore 5, 2) := by decide +kernel
theorem dX4_spread_17 : decode cX4_spread 17 = .ok (.iload 5, 2) := by decide +kernel
theorem dX4_spread_19 : decode cX4_spread 19 = .ok (.bipush 8, 2) := by decide +kernel
theorem dX4_spread_21 : decode cX4_spread 21 = .ok (.if_icmp .ge 29, 3) := by decide +kernel
theorem dX4_spread_24 : decode cX4_spread 24 = .ok (.iload 4, 2) := by decide +kernel
theorem dX4_spread_26 : decode cX4_spread 26 = .ok (.iload_n 3, 1) := by decide +kernel
theorem dX4_spread_27 : decode cX4_spread 27 = .ok (.if_icmp .eq 23, 3) := by decide +kernel
theorem dX4_spread_30 : decode cX4_spread 30 = .ok (.iload 4, 2) := by decide +kernel
theorem dX4_spread_32 : decode cX4_spread 32 = .ok (.istore_n 3, 1) := by decide +kernel
theorem dX4_spread_33 : decode cX4_spread 33 = .ok (.iload 4, 2) := by decide +kernel
theorem dX4_spread_35 : decode cX4_spread 35 = .ok (.aload_n 0, 1) := by decide +kernel
theorem dX4_spread_36 : decode cX4_spread 36 = .ok (.iload_n 3, 1) := by decide +kernel
theorem dX4_spread_37 : decode cX4_spread 37 = .ok (.iload_n 2, 1) := by decide +kernel
theorem dX4_spread_38 : decode cX4_spread 38 = .ok (.invokevirtual 92, 3) := by decide +kernel
theorem dX4_spread_41 : decode cX4_spread 41 = .ok (.ior, 1) := by decide +kernel
theorem dX4_spread_42 : decode cX4_spread 42 = .ok (.istore 4, 2) := by decide +kernel
theorem dX4_spread_44 : decode cX4_spread 44 = .ok (.iinc 5 1, 3) := by decide +kernel
theorem dX4_spread_47 : decode cX4_spread 47 = .ok (.goto (-30), 3) := by decide +kernel
theorem dX4_spread_50 : decode cX4_spread 50 = .ok (.iload 4, 2) := by decide +kernel
theorem dX4_spread_52 : decode cX4_spread 52 = .ok (.ireturn, 1) := by decide +kernel
theorem dX4_distance_0 : decode cX4_distance 0 = .ok (.iconst 1, 1) := by decide +kernel
theorem dX4_distance_1 : decode cX4_distance 1 = .ok (.iload_n 1, 1) := by decide +kernel
theorem dX4_distance_2 : decode cX4_distance 2 = .ok (.ishl, 1) := by decide +kernel
theorem dX4_distance_3 : decode cX4_distance 3 = .ok (.istore 4, 2) := by decide +kernel
theorem dX4_distance_5 : decode cX4_distance 5 = .ok (.iconst 0, 1) := by decide +kernel
theorem dX4_distance_6 : decode cX4_distance 6 = .ok (.istore 5, 2) := by decide +kernel
theorem dX4_distance_8 : decode cX4_distance 8 = .ok (.iload 5, 2) := by decide +kernel
theorem dX4_distance_10 : decode cX4_distance 10 = .ok (.bipush 8, 2) := by decide +kernel
theorem dX4_distance_12 : decode cX4_distance 12 = .ok (.if_icmp .ge 33, 3) := by decide +kernel
theorem dX4_distance_15 : decode cX4_distance 15 = .ok (.iload 4, 2) := by decide +kernel
theorem dX4_distance_17 : decode cX4_distance 17 = .ok (.iload_n 2, 1) := by decide +kernel
theorem dX4_distance_18 : decode cX4_distance 18 = .ok (.invokestatic 89, 3) := by decide +kernel
theorem dX4_distance_21 : decode cX4_distance 21 = .ok (.ifCond .eq 6, 3) := by decide +kernel
theorem dX4_distance_24 : decode cX4_distance 24 = .ok (.iload 5, 2) := by decide +kernel
theorem dX4_distance_26 : decode cX4_distance 26 = .ok (.ireturn, 1) := by decide +kernel
theorem dX4_distance_27 : decode cX4_distance 27 = .ok (.iload 4, 2) := by decide +kernel
theorem dX4_distance_29 : decode cX4_distance 29 = .ok (.aload_n 0, 1) := by decide +kernel
theorem dX4_distance_30 : decode cX4_distance 30 = .ok (.iload 4, 2) := by decide +kernel
theorem dX4_distance_32 : decode cX4_distance 32 = .ok (.iload_n 3, 1) := by decide +kernel
theorem dX4_distance_33 : decode cX4_distance 33 = .ok (.invokevirtual 92, 3) := by decide +kernel
theorem dX4_distance_36 : decode cX4_distance 36 = .ok (.ior, 1) := by decide +kernel
theorem dX4_distance_37 : decode cX4_distance 37 = .ok (.istore 4, 2) := by decide +kernel
theorem dX4_distance_39 : decode cX4_distance 39 = .ok (.iinc 5 1, 3) := by decide +kernel
theorem dX4_distance_42 : decode cX4_distance 42 = .ok (.goto (-34), 3) := by decide +kernel
theorem dX4_distance_45 : decode cX4_distance 45 = .ok (.bipush (-4), 2) := by decide +kernel
theorem dX4_distance_47 : decode cX4_distance 47 = .ok (.ireturn, 1) := by decide +kernel
theorem dX4_distanceIfHung_0 : decode cX4_distanceIfHung 0 = .ok (.aload_n 0, 1) := by decide +kernel
theorem dX4_distanceIfHung_1 : decode cX4_distanceIfHung 1 = .ok (.iload_n 1, 1) := by decide +kernel
theorem dX4_distanceIfHung_2 : decode cX4_distanceIfHung 2 = .ok (.iload_n 2, 1) := by decide +kernel
theorem dX4_distanceIfHung_3 : decode cX4_distanceIfHung 3 = .ok (.invokevirtual 71, 3) := by decide +kernel
theorem dX4_distanceIfHung_6 : decode cX4_distanceIfHung 6 = .ok (.ifCond .eq 25, 3) := by decide +kernel
theorem dX4_distanceIfHung_9 : decode cX4_distanceIfHung 9 = .ok (.aload_n 0, 1) := by decide +kernel
theorem dX4_distanceIfHung_10 : decode cX4_distanceIfHung 10 = .ok (.aload_n 0, 1) := by decide +kernel
theorem dX4_distanceIfHung_11 : decode cX4_distanceIfHung 11 = .ok (.getfield 18, 3) := by decide +kernel
theorem dX4_distanceIfHung_14 : decode cX4_distanceIfHung 14 = .ok (.iload_n 3, 1) := by decide +kernel
theorem dX4_distanceIfHung_15 : decode cX4_distanceIfHung 15 = .ok (.iaload, 1) := by decide +kernel
theorem dX4_distanceIfHung_16 : decode cX4_distanceIfHung 16 = .ok (.iload 4, 2) := by decide +kernel
theorem dX4_distanceIfHung_18 : decode cX4_distanceIfHung 18 = .ok (.aload_n 0, 1) := by decide +kernel
theorem dX4_distanceIfHung_19 : decode cX4_distanceIfHung 19 = .ok (.iload_n 1, 1) := by decide +kernel
theorem dX4_distanceIfHung_20 : decode cX4_distanceIfHung 20 = .ok (.iload_n 2, 1) := by decide +kernel
theorem dX4_distanceIfHung_21 : decode cX4_distanceIfHung 21 = .ok (.iload_n 3, 1) := by decide +kernel
theorem dX4_distanceIfHung_22 : decode cX4_distanceIfHung 22 = .ok (.invokevirtual 95, 3) := by decide +kernel
theorem dX4_distanceIfHung_25 : decode cX4_distanceIfHung 25 = .ok (.invokevirtual 99, 3) := by decide +kernel
theorem dX4_distanceIfHung_28 : decode cX4_distanceIfHung 28 = .ok (.goto 5, 3) := by decide +kernel
theorem dX4_distanceIfHung_31 : decode cX4_distanceIfHung 31 = .ok (.bipush (-4), 2) := by decide +kernel
theorem dX4_distanceIfHung_33 : decode cX4_distanceIfHung 33 = .ok (.ireturn, 1) := by decide +kernel
theorem dX4_gainIfHung_0 : decode cX4_gainIfHung 0 = .ok (.aload_n 0, 1) := by decide +kernel
theorem dX4_gainIfHung_1 : decode cX4_gainIfHung 1 = .ok (.iload_n 1, 1) := by decide +kernel
theorem dX4_gainIfHung_2 : decode cX4_gainIfHung 2 = .ok (.iload_n 2, 1) := by decide +kernel
theorem dX4_gainIfHung_3 : decode cX4_gainIfHung 3 = .ok (.invokevirtual 71, 3) := by decide +kernel
theorem dX4_gainIfHung_6 : decode cX4_gainIfHung 6 = .ok (.ifCond .eq 28, 3) := by decide +kernel
theorem dX4_gainIfHung_9 : decode cX4_gainIfHung 9 = .ok (.aload_n 0, 1) := by decide +kernel
theorem dX4_gainIfHung_10 : decode cX4_gainIfHung 10 = .ok (.iload_n 1, 1) := by decide +kernel
theorem dX4_gainIfHung_11 : decode cX4_gainIfHung 11 = .ok (.aload_n 0, 1) := by decide +kernel
theorem dX4_gainIfHung_12 : decode cX4_gainIfHung 12 = .ok (.aload_n 0, 1) := by decide +kernel
theorem dX4_gainIfHung_13 : decode cX4_gainIfHung 13 = .ok (.getfield 18, 3) := by decide +kernel
theorem dX4_gainIfHung_16 : decode cX4_gainIfHung 16 = .ok (.iload_n 1, 1) := by decide +kernel
theorem dX4_gainIfHung_17 : decode cX4_gainIfHung 17 = .ok (.iaload, 1) := by decide +kernel
theorem dX4_gainIfHung_18 : decode cX4_gainIfHung 18 = .ok (.aload_n 0, 1) := by decide +kernel
theorem dX4_gainIfHung_19 : decode cX4_gainIfHung 19 = .ok (.iload_n 1, 1) := by decide +kernel
theorem dX4_gainIfHung_20 : decode cX4_gainIfHung 20 = .ok (.iload_n 2, 1) := by decide +kernel
theorem dX4_gainIfHung_21 : decode cX4_gainIfHung 21 = .ok (.iload_n 1, 1) := by decide +kernel
theorem dX4_gainIfHung_22 : decode cX4_gainIfHung 22 = .ok (.invokevirtual 95, 3) := by decide +kernel
theorem dX4_gainIfHung_25 : decode cX4_gainIfHung 25 = .ok (.invokevirtual 102, 3) := by decide +kernel
theorem dX4_gainIfHung_28 : decode cX4_gainIfHung 28 = .ok (.invokevirtual 105, 3) := by decide +kernel
theorem dX4_gainIfHung_31 : decode cX4_gainIfHung 31 = .ok (.goto 5, 3) := by decide +kernel
theorem dX4_gainIfHung_34 : decode cX4_gainIfHung 34 = .ok (.bipush (-4), 2) := by decide +kernel
theorem dX4_gainIfHung_36 : decode cX4_gainIfHung 36 = .ok (.ireturn, 1) := by decide +kernel
theorem dX4_reached_0 : decode cX4_reached 0 = .ok (.aload_n 0, 1) := by decide +kernel
theorem dX4_reached_1 : decode cX4_reached 1 = .ok (.aload_n 0, 1) := by decide +kernel
theorem dX4_reached_2 : decode cX4_reached 2 = .ok (.getfield 18, 3) := by decide +kernel
theorem dX4_reached_5 : decode cX4_reached 5 = .ok (.iload_n 1, 1) := by decide +kernel
theorem dX4_reached_6 : decode cX4_reached 6 = .ok (.iaload, 1) := by decide +kernel
theorem dX4_reached_7 : decode cX4_reached 7 = .ok (.aload_n 0, 1) := by decide +kernel
theorem dX4_reached_8 : decode cX4_reached 8 = .ok (.iload_n 1, 1) := by decide +kernel
theorem dX4_reached_9 : decode cX4_reached 9 = .ok (.invokevirtual 85, 3) := by decide +kernel
theorem dX4_reached_12 : decode cX4_reached 12 = .ok (.invokevirtual 102, 3) := by decide +kernel
theorem dX4_reached_15 : decode cX4_reached 15 = .ok (.ireturn, 1) := by decide +kernel
theorem dX4_wallOnWay_0 : decode cX4_wallOnWay 0 = .ok (.aload_n 0, 1) := by decide +kernel
theorem dX4_wallOnWay_1 : decode cX4_wallOnWay 1 = .ok (.iload_n 1, 1) := by decide +kernel
theorem dX4_wallOnWay_2 : decode cX4_wallOnWay 2 = .ok (.invokevirtual 85, 3) := by decide +kernel
theorem dX4_wallOnWay_5 : decode cX4_wallOnWay 5 = .ok (.istore 4, 2) := by decide +kernel
theorem dX4_wallOnWay_7 : decode cX4_wallOnWay 7 = .ok (.aload_n 0, 1) := by decide +kernel
theorem dX4_wallOnWay_8 : decode cX4_wallOnWay 8 = .ok (.getfield 18, 3) := by decide +kernel
theorem dX4_wallOnWay_11 : decode cX4_wallOnWay 11 = .ok (.iload_n 1, 1) := by decide +kernel
theorem dX4_wallOnWay_12 : decode cX4_wallOnWay 12 = .ok (.iaload, 1) := by decide +kernel
theorem dX4_wallOnWay_13 : decode cX4_wallOnWay 13 = .ok (.istore 5, 2) := by decide +kernel
theorem dX4_wallOnWay_15 : decode cX4_wallOnWay 15 = .ok (.bipush (-4), 2) := by decide +kernel
theorem dX4_wallOnWay_17 : decode cX4_wallOnWay 17 = .ok (.istore 6, 2) := by decide +kernel
theorem dX4_wallOnWay_19 : decode cX4_wallOnWay 19 = .ok (.iconst 0, 1) := by decide +kernel
theorem dX4_wallOnWay_20 : decode cX4_wallOnWay 20 = .ok (.istore 7, 2) := by decide +kernel
theorem dX4_wallOnWay_22 : decode cX4_wallOnWay 22 = .ok (.iload 7, 2) := by decide +kernel
theorem dX4_wallOnWay_24 : decode cX4_wallOnWay 24 = .ok (.iload_n 3, 1) := by decide +kernel
theorem dX4_wallOnWay_25 : decode cX4_wallOnWay 25 = .ok (.if_icmp .gt 40, 3) := by decide +kernel
theorem dX4_wallOnWay_28 : decode cX4_wallOnWay 28 = .ok (.aload_n 0, 1) := by decide +kernel
theorem dX4_wallOnWay_29 : decode cX4_wallOnWay 29 = .ok (.iload 5, 2) := by decide +kernel
theorem dX4_wallOnWay_31 : decode cX4_wallOnWay 31 = .ok (.iload_n 2, 1) := by decide +kernel
theorem dX4_wallOnWay_32 : decode cX4_wallOnWay 32 = .ok (.iload 4, 2) := by decide +kernel
theorem dX4_wallOnWay_34 : decode cX4_wallOnWay 34 = .ok (.invokevirtual 108, 3) := by decide +kernel
theorem dX4_wallOnWay_37 : decode cX4_wallOnWay 37 = .ok (.istore 6, 2) := by decide +kernel
theorem dX4_wallOnWay_39 : decode cX4_wallOnWay 39 = .ok (.iload 6, 2) := by decide +kernel
theorem dX4_wallOnWay_41 : decode cX4_wallOnWay 41 = .ok (.bipush (-4), 2) := by decide +kernel
theorem dX4_wallOnWay_43 : decode cX4_wallOnWay 43 = .ok (.if_icmp .ne 6, 3) := by decide +kernel
theorem dX4_wallOnWay_46 : decode cX4_wallOnWay 46 = .ok (.bipush (-4), 2) := by decide +kernel
theorem dX4_wallOnWay_48 : decode cX4_wallOnWay 48 = .ok (.ireturn, 1) := by decide +kernel
theorem dX4_wallOnWay_49 : decode cX4_wallOnWay 49 = .ok (.aload_n 0, 1) := by decide +kernel
theorem dX4_wallOnWay_50 : decode cX4_wallOnWay 50 = .ok (.iload 6, 2) := by decide +kernel
theorem dX4_wallOnWay_52 : decode cX4_wallOnWay 52 = .ok (.iload 5, 2) := by decide +kernel
theorem dX4_wallOnWay_54 : decode cX4_wallOnWay 54 = .ok (.invokevirtual 111, 3) := by decide +kernel
theorem dX4_wallOnWay_57 : decode cX4_wallOnWay 57 = .ok (.istore 5, 2) := by decide +kernel
theorem dX4_wallOnWay_59 : decode cX4_wallOnWay 59 = .ok (.iinc 7 1, 3) := by decide +kernel
theorem dX4_wallOnWay_62 : decode cX4_wallOnWay 62 = .ok (.goto (-40), 3) := by decide +kernel
theorem dX4_wallOnWay_65 : decode cX4_wallOnWay 65 = .ok (.iload 6, 2) := by decide +kernel
theorem dX4_wallOnWay_67 : decode cX4_wallOnWay 67 = .ok (.ireturn, 1) := by decide +kernel
theorem dX4_firstTowards_0 : decode cX4_firstTowards 0 = .ok (.aload_n 0, 1) := by decide +kernel
theorem dX4_firstTowards_1 : decode cX4_firstTowards 1 = .ok (.iload_n 1, 1) := by decide +kernel
theorem dX4_firstTowards_2 : decode cX4_firstTowards 2 = .ok (.iload_n 2, 1) := by decide +kernel
theorem dX4_firstTowards_3 : decode cX4_firstTowards 3 = .ok (.iload_n 3, 1) := by decide +kernel
theorem dX4_firstTowards_4 : decode cX4_firstTowards 4 = .ok (.invokevirtual 99, 3) := by decide +kernel
theorem dX4_firstTowards_7 : decode cX4_firstTowards 7 = .ok (.istore 4, 2) := by decide +kernel
theorem dX4_firstTowards_9 : decode cX4_firstTowards 9 = .ok (.iconst 0, 1) := by decide +kernel
theorem dX4_firstTowards_10 : decode cX4_firstTowards 10 = .ok (.istore 5, 2) := by decide +kernel
theorem dX4_firstTowards_12 : decode cX4_firstTowards 12 = .ok (.iload 5, 2) := by decide +kernel
theorem dX4_firstTowards_14 : decode cX4_firstTowards 14 = .ok (.aload_n 0, 1) := by decide +kernel
theorem dX4_firstTowards_15 : decode cX4_firstTowards 15 = .ok (.getfield 52, 3) := by decide +kernel
theorem dX4_firstTowards_18 : decode cX4_firstTowards 18 = .ok (.if_icmp .ge 55, 3) := by decide +kernel
theorem dX4_firstTowards_21 : decode cX4_firstTowards 21 = .ok (.iload 4, 2) := by decide +kernel
theorem dX4_firstTowards_23 : decode cX4_firstTowards 23 = .ok (.ifCond .le 50, 3) := by decide +kernel
theorem dX4_firstTowards_26 : decode cX4_firstTowards 26 = .ok (.aload_n 0, 1) := by decide +kernel
theorem dX4_firstTowards_27 : decode cX4_firstTowards 27 = .ok (.iload 5, 2) := by decide +kernel
theorem dX4_firstTowards_29 : decode cX4_firstTowards 29 = .ok (.iload_n 1, 1) := by decide +kernel
theorem dX4_firstTowards_30 : decode cX4_firstTowards 30 = .ok (.invokevirtual 111, 3) := by decide +kernel
theorem dX4_firstTowards_33 : decode cX4_firstTowards 33 = .ok (.istore 6, 2) := by decide +kernel
theorem dX4_firstTowards_35 : decode cX4_firstTowards 35 = .ok (.iload_n 3, 1) := by decide +kernel
theorem dX4_firstTowards_36 : decode cX4_firstTowards 36 = .ok (.iload 5, 2) := by decide +kernel
theorem dX4_firstTowards_38 : decode cX4_firstTowards 38 = .ok (.invokestatic 89, 3) := by decide +kernel
theorem dX4_firstTowards_41 : decode cX4_firstTowards 41 = .ok (.ifCond .eq 26, 3) := by decide +kernel
theorem dX4_firstTowards_44 : decode cX4_firstTowards 44 = .ok (.iload 6, 2) := by decide +kernel
theorem dX4_firstTowards_46 : decode cX4_firstTowards 46 = .ok (.ifCond .lt 21, 3) := by decide +kernel
theorem dX4_firstTowards_49 : decode cX4_firstTowards 49 = .ok (.aload_n 0, 1) := by decide +kernel
theorem dX4_firstTowards_50 : decode cX4_firstTowards 50 = .ok (.iload 6, 2) := by decide +kernel
theorem dX4_firstTowards_52 : decode cX4_firstTowards 52 = .ok (.iload_n 2, 1) := by decide +kernel
theorem dX4_firstTowards_53 : decode cX4_firstTowards 53 = .ok (.iload_n 3, 1) := by decide +kernel
theorem dX4_firstTowards_54 : decode cX4_firstTowards 54 = .ok (.invokevirtual 99, 3) := by decide +kernel
theorem dX4_firstTowards_57 : decode cX4_firstTowards 57 = .ok (.iload 4, 2) := by decide +kernel
theorem dX4_firstTowards_59 : decode cX4_firstTowards 59 = .ok (.iconst 1, 1) := by decide +kernel
theorem dX4_firstTowards_60 : decode cX4_firstTowards 60 = .ok (.isub, 1) := by decide +kernel
theorem dX4_firstTowards_61 : decode cX4_firstTowards 61 = .ok (.if_icmp .ne 6, 3) := by decide +kernel
theorem dX4_firstTowards_64 : decode cX4_firstTowards 64 = .ok (.iload 5, 2) := by decide +kernel
theorem dX4_firstTowards_66 : decode cX4_firstTowards 66 = .ok (.ireturn, 1) := by decide +kernel
theorem dX4_firstTowards_67 : decode cX4_firstTowards 67 = .ok (.iinc 5 1, 3) := by decide +kernel
theorem dX4_firstTowards_70 : decode cX4_firstTowards 70 = .ok (.goto (-58), 3) := by decide +kernel
theorem dX4_firstTowards_73 : decode cX4_firstTowards 73 = .ok (.bipush (-4), 2) := by decide +kernel
theorem dX4_firstTowards_75 : decode cX4_firstTowards 75 = .ok (.ireturn, 1) := by decide +kernel
theorem dX4_otherSide_0 : decode cX4_otherSide 0 = .ok (.aload_n 0, 1) := by decide +kernel
theorem dX4_otherSide_1 : decode cX4_otherSide 1 = .ok (.getfield 24, 3) := by decide +kernel
theorem dX4_otherSide_4 : decode cX4_otherSide 4 = .ok (.iload_n 1, 1) := by decide +kernel
theorem dX4_otherSide_5 : decode cX4_otherSide 5 = .ok (.iaload, 1) := by decide +kernel
theorem dX4_otherSide_6 : decode cX4_otherSide 6 = .ok (.iload_n 2, 1) := by decide +kernel
theorem dX4_otherSide_7 : decode cX4_otherSide 7 = .ok (.if_icmp .ne 12, 3) := by decide +kernel
theorem dX4_otherSide_10 : decode cX4_otherSide 10 = .ok (.aload_n 0, 1) := by decide +kernel
theorem dX4_otherSide_11 : decode cX4_otherSide 11 = .ok (.getfield 27, 3) := by decide +kernel
theorem dX4_otherSide_14 : decode cX4_otherSide 14 = .ok (.iload_n 1, 1) := by decide +kernel
theorem dX4_otherSide_15 : decode cX4_otherSide 15 = .ok (.iaload, 1) := by decide +kernel
theorem dX4_otherSide_16 : decode cX4_otherSide 16 = .ok (.goto 24, 3) := by decide +kernel
theorem dX4_otherSide_19 : decode cX4_otherSide 19 = .ok (.aload_n 0, 1) := by decide +kernel
theorem dX4_otherSide_20 : decode cX4_otherSide 20 = .ok (.getfield 27, 3) := by decide +kernel
theorem dX4_otherSide_23 : decode cX4_otherSide 23 = .ok (.iload_n 1, 1) := by decide +kernel
theorem dX4_otherSide_24 : decode cX4_otherSide 24 = .ok (.iaload, 1) := by decide +kernel
theorem dX4_otherSide_25 : decode cX4_otherSide 25 = .ok (.iload_n 2, 1) := by decide +kernel
theorem dX4_otherSide_26 : decode cX4_otherSide 26 = .ok (.if_icmp .ne 12, 3) := by decide +kernel
theorem dX4_otherSide_29 : decode cX4_otherSide 29 = .ok (.aload_n 0, 1) := by decide +kernel
theorem dX4_otherSide_30 : decode cX4_otherSide 30 = .ok (.getfield 24, 3) := by decide +kernel
theorem dX4_otherSide_33 : decode cX4_otherSide 33 = .ok (.iload_n 1, 1) := by decide +kernel
theorem dX4_otherSide_34 : decode cX4_otherSide 34 = .ok (.iaload, 1) := by decide +kernel
theorem dX4_otherSide_35 : decode cX4_otherSide 35 = .ok (.goto 5, 3) := by decide +kernel
theorem dX4_otherSide_38 : decode cX4_otherSide 38 = .ok (.bipush (-4), 2) := by decide +kernel
theorem dX4_otherSide_40 : decode cX4_otherSide 40 = .ok (.ireturn, 1) := by decide +kernel
theorem dX4_unreached_0 : decode cX4_unreached 0 = .ok (.sipush 255, 3) := by decide +kernel
theorem dX4_unreached_3 : decode cX4_unreached 3 = .ok (.istore_n 1, 1) := by decide +kernel
theorem dX4_unreached_4 : decode cX4_unreached 4 = .ok (.iconst 0, 1) := by decide +kernel
theorem dX4_unreached_5 : decode cX4_unreached 5 = .ok (.istore_n 2, 1) := by decide +kernel
theorem dX4_unreached_6 : decode cX4_unreached 6 = .ok (.iload_n 2, 1) := by decide +kernel
theorem dX4_unreached_7 : decode cX4_unreached 7 = .ok (.aload_n 0, 1) := by decide +kernel
theorem dX4_unreached_8 : decode cX4_unreached 8 = .ok (.getfield 48, 3) := by decide +kernel
theorem dX4_unreached_11 : decode cX4_unreached 11 = .ok (.if_icmp .ge 19, 3) := by decide +kernel
theorem dX4_unreached_14 : decode cX4_unreached 14 = .ok (.iload_n 1, 1) := by decide +kernel
theorem dX4_unreached_15 : decode cX4_unreached 15 = .ok (.aload_n 0, 1) := by decide +kernel
theorem dX4_unreached_16 : decode cX4_unreached 16 = .ok (.iload_n 2, 1) := by decide +kernel
theorem dX4_unreached_17 : decode cX4_unreached 17 = .ok (.invokevirtual 114, 3) := by decide +kernel
theorem dX4_unreached_20 : decode cX4_unreached 20 = .ok (.iconst (-1), 1) := by decide +kernel
theorem dX4_unreached_21 : decode cX4_unreached 21 = .ok (.ixor, 1) := by decide +kernel
theorem dX4_unreached_22 : decode cX4_unreached 22 = .ok (.iand, 1) := by decide +kernel
theorem dX4_unreached_23 : decode cX4_unreached 23 = .ok (.istore_n 1, 1) := by decide +kernel
theorem dX4_unreached_24 : decode cX4_unreached 24 = .ok (.iinc 2 1, 3) := by decide +kernel
theorem dX4_unreached_27 : decode cX4_unreached 27 = .ok (.goto (-21), 3) := by decide +kernel
theorem dX4_unreached_30 : decode cX4_unreached 30 = .ok (.iload_n 1, 1) := by decide +kernel
theorem dX4_unreached_31 : decode cX4_unreached 31 = .ok (.ireturn, 1) := by decide +kernel
theorem dX4_whoReaches_0 : decode cX4_whoReaches 0 = .ok (.iconst 0, 1) := by decide +kernel
theorem dX4_whoReaches_1 : decode cX4_whoReaches 1 = .ok (.istore_n 2, 1) := by decide +kernel
theorem dX4_whoReaches_2 : decode cX4_whoReaches 2 = .ok (.iconst 0, 1) := by decide +kernel
theorem dX4_whoReaches_3 : decode cX4_whoReaches 3 = .ok (.istore_n 3, 1) := by decide +kernel
theorem dX4_whoReaches_4 : decode cX4_whoReaches 4 = .ok (.iload_n 3, 1) := by decide +kernel
theorem dX4_whoReaches_5 : decode cX4_whoReaches 5 = .ok (.aload_n 0, 1) := by decide +kernel
theorem dX4_whoReaches_6 : decode cX4_whoReaches 6 = .ok (.getfield 48, 3) := by decide +kernel
theorem dX4_whoReaches_9 : decode cX4_whoReaches 9 = .ok (.if_icmp .ge 27, 3) := by decide +kernel
theorem dX4_whoReaches_12 : decode cX4_whoReaches 12 = .ok (.aload_n 0, 1) := by decide +kernel
theorem dX4_whoReaches_13 : decode cX4_whoReaches 13 = .ok (.iload_n 3, 1) := by decide +kernel
theorem dX4_whoReaches_14 : decode cX4_whoReaches 14 = .ok (.invokevirtual 114, 3) := by decide +kernel
theorem dX4_whoReaches_17 : decode cX4_whoReaches 17 = .ok (.iload_n 1, 1) := by decide +kernel
theorem dX4_whoReaches_18 : decode cX4_whoReaches 18 = .ok (.invokestatic 89, 3) := by decide +kernel
theorem dX4_whoReaches_21 : decode cX4_whoReaches 21 = .ok (.ifCond .eq 9, 3) := by decide +kernel
theorem dX4_whoReaches_24 : decode cX4_whoReaches 24 = .ok (.iload_n 2, 1) := by decide +kernel
theorem dX4_whoReaches_25 : decode cX4_whoReaches 25 = .ok (.iconst 1, 1) := by decide +kernel
theorem dX4_whoReaches_26 : decode cX4_whoReaches 26 = .ok (.iload_n 3, 1) := by decide +kernel
theorem dX4_whoReaches_27 : decode cX4_whoReaches 27 = .ok (.ishl, 1) := by decide +kernel
theorem dX4_whoReaches_28 : decode cX4_whoReaches 28 = .ok (.ior, 1) := by decide +kernel
theorem dX4_whoReaches_29 : decode cX4_whoReaches 29 = .ok (.istore_n 2, 1) := by decide +kernel
theorem dX4_whoReaches_30 : decode cX4_whoReaches 30 = .ok (.iinc 3 1, 3) := by decide +kernel
theorem dX4_whoReaches_33 : decode cX4_whoReaches 33 = .ok (.goto (-29), 3) := by decide +kernel
theorem dX4_whoReaches_36 : decode cX4_whoReaches 36 = .ok (.iload_n 2, 1) := by decide +kernel
theorem dX4_whoReaches_37 : decode cX4_whoReaches 37 = .ok (.ireturn, 1) := by decide +kernel
theorem dX4_reachedByAll_0 : decode cX4_reachedByAll 0 = .ok (.iconst 0, 1) := by decide +kernel
theorem dX4_reachedByAll_1 : decode cX4_reachedByAll 1 = .ok (.istore_n 1, 1) := by decide +kernel
theorem dX4_reachedByAll_2 : decode cX4_reachedByAll 2 = .ok (.iconst 0, 1) := by decide +kernel
theorem dX4_reachedByAll_3 : decode cX4_reachedByAll 3 = .ok (.istore_n 2, 1) := by decide +kernel
theorem dX4_reachedByAll_4 : decode cX4_reachedByAll 4 = .ok (.iload_n 2, 1) := by decide +kernel
theorem dX4_reachedByAll_5 : decode cX4_reachedByAll 5 = .ok (.aload_n 0, 1) := by decide +kernel
theorem dX4_reachedByAll_6 : decode cX4_reachedByAll 6 = .ok (.getfield 48, 3) := by decide +kernel
theorem dX4_reachedByAll_9 : decode cX4_reachedByAll 9 = .ok (.if_icmp .ge 20, 3) := by decide +kernel
theorem dX4_reachedByAll_12 : decode cX4_reachedByAll 12 = .ok (.iload_n 1, 1) := by decide +kernel
theorem dX4_reachedByAll_13 : decode cX4_reachedByAll 13 = .ok (.aload_n 0, 1) := by decide +kernel
theorem dX4_reachedByAll_14 : decode cX4_reachedByAll 14 = .ok (.iload_n 2, 1) := by decide +kernel
theorem dX4_reachedByAll_15 : decode cX4_reachedByAll 15 = .ok (.invokevirtual 114, 3) := by decide +kernel
theorem dX4_reachedByAll_18 : decode cX4_reachedByAll 18 = .ok (.invokestatic 117, 3) := by decide +kernel
theorem dX4_reachedByAll_21 : decode cX4_reachedByAll 21 = .ok (.iadd, 1) := by decide +kernel
theorem dX4_reachedByAll_22 : decode cX4_reachedByAll 22 = .ok (.istore_n 1, 1) := by decide +kernel
theorem dX4_reachedByAll_23 : decode cX4_reachedByAll 23 = .ok (.iinc 2 1, 3) := by decide +kernel
theorem dX4_reachedByAll_26 : decode cX4_reachedByAll 26 = .ok (.goto (-22), 3) := by decide +kernel
theorem dX4_reachedByAll_29 : decode cX4_reachedByAll 29 = .ok (.iload_n 1, 1) := by decide +kernel
theorem dX4_reachedByAll_30 : decode cX4_reachedByAll 30 = .ok (.ireturn, 1) := by decide +kernel
theorem dX4_worthOf_0 : decode cX4_worthOf 0 = .ok (.iconst 0, 1) := by decide +kernel
theorem dX4_worthOf_1 : decode cX4_worthOf 1 = .ok (.istore_n 2, 1) := by decide +kernel
theorem dX4_worthOf_2 : decode cX4_worthOf 2 = .ok (.iconst 0, 1) := by decide +kernel
theorem dX4_worthOf_3 : decode cX4_worthOf 3 = .ok (.istore_n 3, 1) := by decide +kernel
theorem dX4_worthOf_4 : decode cX4_worthOf 4 = .ok (.iload_n 3, 1) := by decide +kernel
theorem dX4_worthOf_5 : decode cX4_worthOf 5 = .ok (.bipush 8, 2) := by decide +kernel
theorem dX4_worthOf_7 : decode cX4_worthOf 7 = .ok (.if_icmp .ge 26, 3) := by decide +kernel
theorem dX4_worthOf_10 : decode cX4_worthOf 10 = .ok (.iload_n 1, 1) := by decide +kernel
theorem dX4_worthOf_11 : decode cX4_worthOf 11 = .ok (.iload_n 3, 1) := by decide +kernel
theorem dX4_worthOf_12 : decode cX4_worthOf 12 = .ok (.invokestatic 89, 3) := by decide +kernel
theorem dX4_worthOf_15 : decode cX4_worthOf 15 = .ok (.ifCond .eq 12, 3) := by decide +kernel
theorem dX4_worthOf_18 : decode cX4_worthOf 18 = .ok (.iload_n 2, 1) := by decide +kernel
theorem dX4_worthOf_19 : decode cX4_worthOf 19 = .ok (.aload_n 0, 1) := by decide +kernel
theorem dX4_worthOf_20 : decode cX4_worthOf 20 = .ok (.getfield 33, 3) := by decide +kernel
theorem dX4_worthOf_23 : decode cX4_worthOf 23 = .ok (.iload_n 3, 1) := by decide +kernel
theorem dX4_worthOf_24 : decode cX4_worthOf 24 = .ok (.iaload, 1) := by decide +kernel
theorem dX4_worthOf_25 : decode cX4_worthOf 25 = .ok (.iadd, 1) := by decide +kernel
theorem dX4_worthOf_26 : decode cX4_worthOf 26 = .ok (.istore_n 2, 1) := by decide +kernel
theorem dX4_worthOf_27 : decode cX4_worthOf 27 = .ok (.iinc 3 1, 3) := by decide +kernel
theorem dX4_worthOf_30 : decode cX4_worthOf 30 = .ok (.goto (-26), 3) := by decide +kernel
theorem dX4_worthOf_33 : decode cX4_worthOf 33 = .ok (.iload_n 2, 1) := by decide +kernel
theorem dX4_worthOf_34 : decode cX4_worthOf 34 = .ok (.ireturn, 1) := by decide +kernel
theorem dX4_gainOf_0 : decode cX4_gainOf 0 = .ok (.aload_n 0, 1) := by decide +kernel
theorem dX4_gainOf_1 : decode cX4_gainOf 1 = .ok (.iload_n 2, 1) := by decide +kernel
theorem dX4_gainOf_2 : decode cX4_gainOf 2 = .ok (.iconst 1, 1) := by decide +kernel
theorem dX4_gainOf_3 : decode cX4_gainOf 3 = .ok (.aload_n 0, 1) := by decide +kernel
theorem dX4_gainOf_4 : decode cX4_gainOf 4 = .ok (.getfield 18, 3) := by decide +kernel
theorem dX4_gainOf_7 : decode cX4_gainOf 7 = .ok (.iload_n 1, 1) := by decide +kernel
theorem dX4_gainOf_8 : decode cX4_gainOf 8 = .ok (.iaload, 1) := by decide +kernel
theorem dX4_gainOf_9 : decode cX4_gainOf 9 = .ok (.ishl, 1) := by decide +kernel
theorem dX4_gainOf_10 : decode cX4_gainOf 10 = .ok (.iconst (-1), 1) := by decide +kernel
theorem dX4_gainOf_11 : decode cX4_gainOf 11 = .ok (.ixor, 1) := by decide +kernel
theorem dX4_gainOf_12 : decode cX4_gainOf 12 = .ok (.iand, 1) := by decide +kernel
theorem dX4_gainOf_13 : decode cX4_gainOf 13 = .ok (.invokevirtual 122, 3) := by decide +kernel
theorem dX4_gainOf_16 : decode cX4_gainOf 16 = .ok (.ireturn, 1) := by decide +kernel
theorem dX4_leastShutting_0 : decode cX4_leastShutting 0 = .ok (.aload_n 0, 1) := by decide +kernel
theorem dX4_leastShutting_1 : decode cX4_leastShutting 1 = .ok (.invokevirtual 125, 3) := by decide +kernel
theorem dX4_leastShutting_4 : decode cX4_leastShutting 4 = .ok (.istore_n 3, 1) := by decide +kernel
theorem dX4_leastShutting_5 : decode cX4_leastShutting 5 = .ok (.aload_n 0, 1) := by decide +kernel
theorem dX4_leastShutting_6 : decode cX4_leastShutting 6 = .ok (.iload_n 1, 1) := by decide +kernel
theorem dX4_leastShutting_7 : decode cX4_leastShutting 7 = .ok (.invokevirtual 85, 3) := by decide +kernel
theorem dX4_leastShutting_10 : decode cX4_leastShutting 10 = .ok (.istore 4, 2) := by decide +kernel
theorem dX4_leastShutting_12 : decode cX4_leastShutting 12 = .ok (.iload_n 3, 1) := by decide +kernel
theorem dX4_leastShutting_13 : decode cX4_leastShutting 13 = .ok (.istore 5, 2) := by decide +kernel
theorem dX4_leastShutting_15 : decode cX4_leastShutting 15 = .ok (.iconst 0, 1) := by decide +kernel
theorem dX4_leastShutting_16 : decode cX4_leastShutting 16 = .ok (.istore 6, 2) := by decide +kernel
theorem dX4_leastShutting_18 : decode cX4_leastShutting 18 = .ok (.iload 6, 2) := by decide +kernel
theorem dX4_leastShutting_20 : decode cX4_leastShutting 20 = .ok (.sipush 512, 3) := by decide +kernel
theorem dX4_leastShutting_23 : decode cX4_leastShutting 23 = .ok (.if_icmp .ge 83, 3) := by decide +kernel
theorem dX4_leastShutting_26 : decode cX4_leastShutting 26 = .ok (.iload 6, 2) := by decide +kernel
theorem dX4_leastShutting_28 : decode cX4_leastShutting 28 = .ok (.invokestatic 117, 3) := by decide +kernel
theorem dX4_leastShutting_31 : decode cX4_leastShutting 31 = .ok (.iload 5, 2) := by decide +kernel
theorem dX4_leastShutting_33 : decode cX4_leastShutting 33 = .ok (.invokestatic 117, 3) := by decide +kernel
theorem dX4_leastShutting_36 : decode cX4_leastShutting 36 = .ok (.if_icmp .ge 7, 3) := by decide +kernel
theorem dX4_leastShutting_39 : decode cX4_leastShutting 39 = .ok (.iconst 1, 1) := by decide +kernel
theorem dX4_leastShutting_40 : decode cX4_leastShutting 40 = .ok (.goto 4, 3) := by decide +kernel
theorem dX4_leastShutting_43 : decode cX4_leastShutting 43 = .ok (.iconst 0, 1) := by decide +kernel
theorem dX4_leastShutting_44 : decode cX4_leastShutting 44 = .ok (.istore 7, 2) := by decide +kernel
theorem dX4_leastShutting_46 : decode cX4_leastShutting 46 = .ok (.iload 6, 2) := by decide +kernel
theorem dX4_leastShutting_48 : decode cX4_leastShutting 48 = .ok (.iload_n 3, 1) := by decide +kernel
theorem dX4_leastShutting_49 : decode cX4_leastShutting 49 = .ok (.iconst (-1), 1) := by decide +kernel
theorem dX4_leastShutting_50 : decode cX4_leastShutting 50 = .ok (.ixor, 1) := by decide +kernel
theorem dX4_leastShutting_51 : decode cX4_leastShutting 51 = .ok (.iand, 1) := by decide +kernel
theorem dX4_leastShutting_52 : decode cX4_leastShutting 52 = .ok (.ifCond .ne 12, 3) := by decide +kernel
theorem dX4_leastShutting_55 : decode cX4_leastShutting 55 = .ok (.iload 7, 2) := by decide +kernel
theorem dX4_leastShutting_57 : decode cX4_leastShutting 57 = .ok (.ifCond .eq 7, 3) := by decide +kernel
theorem dX4_leastShutting_60 : decode cX4_leastShutting 60 = .ok (.iconst 1, 1) := by decide +kernel
theorem dX4_leastShutting_61 : decode cX4_leastShutting 61 = .ok (.goto 4, 3) := by decide +kernel
theorem dX4_leastShutting_64 : decode cX4_leastShutting 64 = .ok (.iconst 0, 1) := by decide +kernel
theorem dX4_leastShutting_65 : decode cX4_leastShutting 65 = .ok (.istore 8, 2) := by decide +kernel
theorem dX4_leastShutting_67 : decode cX4_leastShutting 67 = .ok (.iload 8, 2) := by decide +kernel
theorem dX4_leastShutting_69 : decode cX4_leastShutting 69 = .ok (.ifCond .eq 31, 3) := by decide +kernel
theorem dX4_leastShutting_72 : decode cX4_leastShutting 72 = .ok (.aload_n 0, 1) := by decide +kernel
theorem dX4_leastShutting_73 : decode cX4_leastShutting 73 = .ok (.aload_n 0, 1) := by decide +kernel
theorem dX4_leastShutting_74 : decode cX4_leastShutting 74 = .ok (.getfield 18, 3) := by decide +kernel
theorem dX4_leastShutting_77 : decode cX4_leastShutting 77 = .ok (.iload_n 1, 1) := by decide +kernel
theorem dX4_leastShutting_78 : decode cX4_leastShutting 78 = .ok (.iaload, 1) := by decide +kernel
theorem dX4_leastShutting_79 : decode cX4_leastShutting 79 = .ok (.iload 4, 2) := by decide +kernel
theorem dX4_leastShutting_81 : decode cX4_leastShutting 81 = .ok (.iload 6, 2) := by decide +kernel
theorem dX4_leastShutting_83 : decode cX4_leastShutting 83 = .ok (.iconst (-1), 1) := by decide +kernel
theorem dX4_leastShutting_84 : decode cX4_leastShutting 84 = .ok (.ixor, 1) := by decide +kernel
theorem dX4_leastShutting_85 : decode cX4_leastShutting 85 = .ok (.iand, 1) := by decide +kernel
theorem dX4_leastShutting_86 : decode cX4_leastShutting 86 = .ok (.invokevirtual 102, 3) := by decide +kernel
theorem dX4_leastShutting_89 : decode cX4_leastShutting 89 = .ok (.iload_n 2, 1) := by decide +kernel
theorem dX4_leastShutting_90 : decode cX4_leastShutting 90 = .ok (.invokestatic 89, 3) := by decide +kernel
theorem dX4_leastShutting_93 : decode cX4_leastShutting 93 = .ok (.ifCond .ne 7, 3) := by decide +kernel
theorem dX4_leastShutting_96 : decode cX4_leastShutting 96 = .ok (.iload 6, 2) := by decide +kernel
theorem dX4_leastShutting_98 : decode cX4_leastShutting 98 = .ok (.istore 5, 2) := by decide +kernel
theorem dX4_leastShutting_100 : decode cX4_leastShutting 100 = .ok (.iinc 6 1, 3) := by decide +kernel
theorem dX4_leastShutting_103 : decode cX4_leastShutting 103 = .ok (.goto (-85), 3) := by decide +kernel
theorem dX4_leastShutting_106 : decode cX4_leastShutting 106 = .ok (.iload 5, 2) := by decide +kernel
theorem dX4_leastShutting_108 : decode cX4_leastShutting 108 = .ok (.ireturn, 1) := by decide +kernel
theorem dX4_followPlan_0 : decode cX4_followPlan 0 = .ok (.iconst 0, 1) := by decide +kernel
theorem dX4_followPlan_1 : decode cX4_followPlan 1 = .ok (.istore_n 2, 1) := by decide +kernel
theorem dX4_followPlan_2 : decode cX4_followPlan 2 = .ok (.iconst 0, 1) := by decide +kernel
theorem dX4_followPlan_3 : decode cX4_followPlan 3 = .ok (.istore_n 3, 1) := by decide +kernel
theorem dX4_followPlan_4 : decode cX4_followPlan 4 = .ok (.iload_n 3, 1) := by decide +kernel
theorem dX4_followPlan_5 : decode cX4_followPlan 5 = .ok (.aload_n 0, 1) := by decide +kernel
theorem dX4_followPlan_6 : decode cX4_followPlan 6 = .ok (.getfield 55, 3) := by decide +kernel
theorem dX4_followPlan_9 : decode cX4_followPlan 9 = .ok (.if_icmp .ge 39, 3) := by decide +kernel
theorem dX4_followPlan_12 : decode cX4_followPlan 12 = .ok (.iload_n 3, 1) := by decide +kernel
theorem dX4_followPlan_13 : decode cX4_followPlan 13 = .ok (.iload_n 1, 1) := by decide +kernel
theorem dX4_followPlan_14 : decode cX4_followPlan 14 = .ok (.if_icmp .eq 28, 3) := by decide +kernel
theorem dX4_followPlan_17 : decode cX4_followPlan 17 = .ok (.aload_n 0, 1) := by decide +kernel
theorem dX4_followPlan_18 : decode cX4_followPlan 18 = .ok (.aload_n 0, 1) := by decide +kernel
theorem dX4_followPlan_19 : decode cX4_followPlan 19 = .ok (.getfield 36, 3) := by decide +kernel
theorem dX4_followPlan_22 : decode cX4_followPlan 22 = .ok (.iload_n 3, 1) := by decide +kernel
theorem dX4_followPlan_23 : decode cX4_followPlan 23 = .ok (.iaload, 1) := by decide +kernel
theorem dX4_followPlan_24 : decode cX4_followPlan 24 = .ok (.aload_n 0, 1) := by decide +kernel
theorem dX4_followPlan_25 : decode cX4_followPlan 25 = .ok (.getfield 39, 3) := by decide +kernel
theorem dX4_followPlan_28 : decode cX4_followPlan 28 = .ok (.iload_n 3, 1) := by decide +kernel
theorem dX4_followPlan_29 : decode cX4_followPlan 29 = .ok (.iaload, 1) := by decide +kernel
theorem dX4_followPlan_30 : decode cX4_followPlan 30 = .ok (.invokevirtual 79, 3) := by decide +kernel
theorem dX4_followPlan_33 : decode cX4_followPlan 33 = .ok (.ifCond .eq 9, 3) := by decide +kernel
theorem dX4_followPlan_36 : decode cX4_followPlan 36 = .ok (.iload_n 2, 1) := by decide +kernel
theorem dX4_followPlan_37 : decode cX4_followPlan 37 = .ok (.iconst 1, 1) := by decide +kernel
theorem dX4_followPlan_38 : decode cX4_followPlan 38 = .ok (.iload_n 3, 1) := by decide +kernel
theorem dX4_followPlan_39 : decode cX4_followPlan 39 = .ok (.ishl, 1) := by decide +kernel
theorem dX4_followPlan_40 : decode cX4_followPlan 40 = .ok (.ior, 1) := by decide +kernel
theorem dX4_followPlan_41 : decode cX4_followPlan 41 = .ok (.istore_n 2, 1) := by decide +kernel
theorem dX4_followPlan_42 : decode cX4_followPlan 42 = .ok (.iinc 3 1, 3) := by decide +kernel
theorem dX4_followPlan_45 : decode cX4_followPlan 45 = .ok (.goto (-41), 3) := by decide +kernel
theorem dX4_followPlan_48 : decode cX4_followPlan 48 = .ok (.iload_n 2, 1) := by decide +kernel
theorem dX4_followPlan_49 : decode cX4_followPlan 49 = .ok (.ireturn, 1) := by decide +kernel
theorem dX4_driftOnce_0 : decode cX4_driftOnce 0 = .ok (.aload_n 0, 1) := by decide +kernel
theorem dX4_driftOnce_1 : decode cX4_driftOnce 1 = .ok (.getfield 48, 3) := by decide +kernel
theorem dX4_driftOnce_4 : decode cX4_driftOnce 4 = .ok (.ifCond .le 10, 3) := by decide +kernel
theorem dX4_driftOnce_7 : decode cX4_driftOnce 7 = .ok (.aload_n 0, 1) := by decide +kernel
theorem dX4_driftOnce_8 : decode cX4_driftOnce 8 = .ok (.getfield 52, 3) := by decide +kernel
theorem dX4_driftOnce_11 : decode cX4_driftOnce 11 = .ok (.ifCond .gt 4, 3) := by decide +kernel
theorem dX4_driftOnce_14 : decode cX4_driftOnce 14 = .ok (.return_, 1) := by decide +kernel
theorem dX4_driftOnce_15 : decode cX4_driftOnce 15 = .ok (.iload_n 1, 1) := by decide +kernel
theorem dX4_driftOnce_16 : decode cX4_driftOnce 16 = .ok (.bipush 8, 2) := by decide +kernel
theorem dX4_driftOnce_18 : decode cX4_driftOnce 18 = .ok (.idiv, 1) := by decide +kernel
theorem dX4_driftOnce_19 : decode cX4_driftOnce 19 = .ok (.aload_n 0, 1) := by decide +kernel
theorem dX4_driftOnce_20 : decode cX4_driftOnce 20 = .ok (.getfield 52, 3) := by decide +kernel
theorem dX4_driftOnce_23 : decode cX4_driftOnce 23 = .ok (.irem, 1) := by decide +kernel
theorem dX4_driftOnce_24 : decode cX4_driftOnce 24 = .ok (.istore_n 2, 1) := by decide +kernel
theorem dX4_driftOnce_25 : decode cX4_driftOnce 25 = .ok (.aload_n 0, 1) := by decide +kernel
theorem dX4_driftOnce_26 : decode cX4_driftOnce 26 = .ok (.iload_n 1, 1) := by decide +kernel
theorem dX4_driftOnce_27 : decode cX4_driftOnce 27 = .ok (.aload_n 0, 1) := by decide +kernel
theorem dX4_driftOnce_28 : decode cX4_driftOnce 28 = .ok (.getfield 48, 3) := by decide +kernel
theorem dX4_driftOnce_31 : decode cX4_driftOnce 31 = .ok (.irem, 1) := by decide +kernel
theorem dX4_driftOnce_32 : decode cX4_driftOnce 32 = .ok (.iload_n 2, 1) := by decide +kernel
theorem dX4_driftOnce_33 : decode cX4_driftOnce 33 = .ok (.invokevirtual 79, 3) := by decide +kernel
theorem dX4_driftOnce_36 : decode cX4_driftOnce 36 = .ok (.ifCond .ne 10, 3) := by decide +kernel
theorem dX4_driftOnce_39 : decode cX4_driftOnce 39 = .ok (.aload_n 0, 1) := by decide +kernel
theorem dX4_driftOnce_40 : decode cX4_driftOnce 40 = .ok (.iload_n 2, 1) := by decide +kernel
theorem dX4_driftOnce_41 : decode cX4_driftOnce 41 = .ok (.iconst (-1), 1) := by decide +kernel
theorem dX4_driftOnce_42 : decode cX4_driftOnce 42 = .ok (.invokevirtual 75, 3) := by decide +kernel
theorem dX4_driftOnce_45 : decode cX4_driftOnce 45 = .ok (.pop, 1) := by decide +kernel
theorem dX4_driftOnce_46 : decode cX4_driftOnce 46 = .ok (.return_, 1) := by decide +kernel
theorem dX4_jamWeights_0 : decode cX4_jamWeights 0 = .ok (.bipush 10, 2) := by decide +kernel
theorem dX4_jamWeights_2 : decode cX4_jamWeights 2 = .ok (.aload_n 0, 1) := by decide +kernel
theorem dX4_jamWeights_3 : decode cX4_jamWeights 3 = .ok (.invokevirtual 125, 3) := by decide +kernel
theorem dX4_jamWeights_6 : decode cX4_jamWeights 6 = .ok (.invokestatic 117, 3) := by decide +kernel
theorem dX4_jamWeights_9 : decode cX4_jamWeights 9 = .ok (.invokestatic 129, 3) := by decide +kernel
theorem dX4_jamWeights_12 : decode cX4_jamWeights 12 = .ok (.lreturn, 1) := by decide +kernel
theorem dX4_reachedWhenJammed_0 : decode cX4_reachedWhenJammed 0 = .ok (.aload_n 0, 1) := by decide +kernel
theorem dX4_reachedWhenJammed_1 : decode cX4_reachedWhenJammed 1 = .ok (.invokevirtual 125, 3) := by decide +kernel
theorem dX4_reachedWhenJammed_4 : decode cX4_reachedWhenJammed 4 = .ok (.istore 4, 2) := by decide +kernel
theorem dX4_reachedWhenJammed_6 : decode cX4_reachedWhenJammed 6 = .ok (.aload_n 0, 1) := by decide +kernel
theorem dX4_reachedWhenJammed_7 : decode cX4_reachedWhenJammed 7 = .ok (.iload_n 2, 1) := by decide +kernel
theorem dX4_reachedWhenJammed_8 : decode cX4_reachedWhenJammed 8 = .ok (.invokevirtual 85, 3) := by decide +kernel
theorem dX4_reachedWhenJammed_11 : decode cX4_reachedWhenJammed 11 = .ok (.istore 5, 2) := by decide +kernel
theorem dX4_reachedWhenJammed_13 : decode cX4_reachedWhenJammed 13 = .ok (.lconst 0, 1) := by decide +kernel
theorem dX4_reachedWhenJammed_14 : decode cX4_reachedWhenJammed 14 = .ok (.lstore 6, 2) := by decide +kernel
theorem dX4_reachedWhenJammed_16 : decode cX4_reachedWhenJammed 16 = .ok (.iconst 0, 1) := by decide +kernel
theorem dX4_reachedWhenJammed_17 : decode cX4_reachedWhenJammed 17 = .ok (.istore 8, 2) := by decide +kernel
theorem dX4_reachedWhenJammed_19 : decode cX4_reachedWhenJammed 19 = .ok (.iload 8, 2) := by decide +kernel
theorem dX4_reachedWhenJammed_21 : decode cX4_reachedWhenJammed 21 = .ok (.sipush 512, 3) := by decide +kernel
theorem dX4_reachedWhenJammed_24 : decode cX4_reachedWhenJammed 24 = .ok (.if_icmp .ge 79, 3) := by decide +kernel
theorem dX4_reachedWhenJammed_27 : decode cX4_reachedWhenJammed 27 = .ok (.iload 8, 2) := by decide +kernel
theorem dX4_reachedWhenJammed_29 : decode cX4_reachedWhenJammed 29 = .ok (.iload 4, 2) := by decide +kernel
theorem dX4_reachedWhenJammed_31 : decode cX4_reachedWhenJammed 31 = .ok (.iconst (-1), 1) := by decide +kernel
theorem dX4_reachedWhenJammed_32 : decode cX4_reachedWhenJammed 32 = .ok (.ixor, 1) := by decide +kernel
theorem dX4_reachedWhenJammed_33 : decode cX4_reachedWhenJammed 33 = .ok (.iand, 1) := by decide +kernel
theorem dX4_reachedWhenJammed_34 : decode cX4_reachedWhenJammed 34 = .ok (.ifCond .ne 63, 3) := by decide +kernel
theorem dX4_reachedWhenJammed_37 : decode cX4_reachedWhenJammed 37 = .ok (.iload_n 1, 1) := by decide +kernel
theorem dX4_reachedWhenJammed_38 : decode cX4_reachedWhenJammed 38 = .ok (.iload 8, 2) := by decide +kernel
theorem dX4_reachedWhenJammed_40 : decode cX4_reachedWhenJammed 40 = .ok (.invokestatic 117, 3) := by decide +kernel
theorem dX4_reachedWhenJammed_43 : decode cX4_reachedWhenJammed 43 = .ok (.invokestatic 129, 3) := by decide +kernel
theorem dX4_reachedWhenJammed_46 : decode cX4_reachedWhenJammed 46 = .ok (.bipush 10, 2) := by decide +kernel
theorem dX4_reachedWhenJammed_48 : decode cX4_reachedWhenJammed 48 = .ok (.iload_n 1, 1) := by decide +kernel
theorem dX4_reachedWhenJammed_49 : decode cX4_reachedWhenJammed 49 = .ok (.isub, 1) := by decide +kernel
theorem dX4_reachedWhenJammed_50 : decode cX4_reachedWhenJammed 50 = .ok (.iload 4, 2) := by decide +kernel
theorem dX4_reachedWhenJammed_52 : decode cX4_reachedWhenJammed 52 = .ok (.iload 8, 2) := by decide +kernel
theorem dX4_reachedWhenJammed_54 : decode cX4_reachedWhenJammed 54 = .ok (.iconst (-1), 1) := by decide +kernel
theorem dX4_reachedWhenJammed_55 : decode cX4_reachedWhenJammed 55 = .ok (.ixor, 1) := by decide +kernel
theorem dX4_reachedWhenJammed_56 : decode cX4_reachedWhenJammed 56 = .ok (.iand, 1) := by decide +kernel
theorem dX4_reachedWhenJammed_57 : decode cX4_reachedWhenJammed 57 = .ok (.invokestatic 117, 3) := by decide +kernel
theorem dX4_reachedWhenJammed_60 : decode cX4_reachedWhenJammed 60 = .ok (.invokestatic 129, 3) := by decide +kernel
theorem dX4_reachedWhenJammed_63 : decode cX4_reachedWhenJammed 63 = .ok (.lmul, 1) := by decide +kernel
theorem dX4_reachedWhenJammed_64 : decode cX4_reachedWhenJammed 64 = .ok (.lstore 9, 2) := by decide +kernel
theorem dX4_reachedWhenJammed_66 : decode cX4_reachedWhenJammed 66 = .ok (.lload 6, 2) := by decide +kernel
theorem dX4_reachedWhenJammed_68 : decode cX4_reachedWhenJammed 68 = .ok (.lload 9, 2) := by decide +kernel
theorem dX4_reachedWhenJammed_70 : decode cX4_reachedWhenJammed 70 = .ok (.iload_n 3, 1) := by decide +kernel
theorem dX4_reachedWhenJammed_71 : decode cX4_reachedWhenJammed 71 = .ok (.aload_n 0, 1) := by decide +kernel
theorem dX4_reachedWhenJammed_72 : decode cX4_reachedWhenJammed 72 = .ok (.aload_n 0, 1) := by decide +kernel
theorem dX4_reachedWhenJammed_73 : decode cX4_reachedWhenJammed 73 = .ok (.getfield 18, 3) := by decide +kernel
theorem dX4_reachedWhenJammed_76 : decode cX4_reachedWhenJammed 76 = .ok (.iload_n 2, 1) := by decide +kernel
theorem dX4_reachedWhenJammed_77 : decode cX4_reachedWhenJammed 77 = .ok (.iaload, 1) := by decide +kernel
theorem dX4_reachedWhenJammed_78 : decode cX4_reachedWhenJammed 78 = .ok (.iload 5, 2) := by decide +kernel
theorem dX4_reachedWhenJammed_80 : decode cX4_reachedWhenJammed 80 = .ok (.iload 8, 2) := by decide +kernel
theorem dX4_reachedWhenJammed_82 : decode cX4_reachedWhenJammed 82 = .ok (.iconst (-1), 1) := by decide +kernel
theorem dX4_reachedWhenJammed_83 : decode cX4_reachedWhenJammed 83 = .ok (.ixor, 1) := by decide +kernel
theorem dX4_reachedWhenJammed_84 : decode cX4_reachedWhenJammed 84 = .ok (.iand, 1) := by decide +kernel
theorem dX4_reachedWhenJammed_85 : decode cX4_reachedWhenJammed 85 = .ok (.invokevirtual 102, 3) := by decide +kernel
theorem dX4_reachedWhenJammed_88 : decode cX4_reachedWhenJammed 88 = .ok (.iand, 1) := by decide +kernel
theorem dX4_reachedWhenJammed_89 : decode cX4_reachedWhenJammed 89 = .ok (.invokestatic 117, 3) := by decide +kernel
theorem dX4_reachedWhenJammed_92 : decode cX4_reachedWhenJammed 92 = .ok (.i2l, 1) := by decide +kernel
theorem dX4_reachedWhenJammed_93 : decode cX4_reachedWhenJammed 93 = .ok (.lmul, 1) := by decide +kernel
theorem dX4_reachedWhenJammed_94 : decode cX4_reachedWhenJammed 94 = .ok (.ladd, 1) := by decide +kernel
theorem dX4_reachedWhenJammed_95 : decode cX4_reachedWhenJammed 95 = .ok (.lstore 6, 2) := by decide +kernel
theorem dX4_reachedWhenJammed_97 : decode cX4_reachedWhenJammed 97 = .ok (.iinc 8 1, 3) := by decide +kernel
theorem dX4_reachedWhenJammed_100 : decode cX4_reachedWhenJammed 100 = .ok (.goto (-81), 3) := by decide +kernel
theorem dX4_reachedWhenJammed_103 : decode cX4_reachedWhenJammed 103 = .ok (.lload 6, 2) := by decide +kernel
theorem dX4_reachedWhenJammed_105 : decode cX4_reachedWhenJammed 105 = .ok (.lreturn, 1) := by decide +kernel
theorem dX4_power_0 : decode cX4_power 0 = .ok (.lconst 1, 1) := by decide +kernel
theorem dX4_power_1 : decode cX4_power 1 = .ok (.lstore_n 2, 1) := by decide +kernel
theorem dX4_power_2 : decode cX4_power 2 = .ok (.iconst 0, 1) := by decide +kernel
theorem dX4_power_3 : decode cX4_power 3 = .ok (.istore 4, 2) := by decide +kernel
theorem dX4_power_5 : decode cX4_power 5 = .ok (.iload 4, 2) := by decide +kernel
theorem dX4_power_7 : decode cX4_power 7 = .ok (.iload_n 1, 1) := by decide +kernel
theorem dX4_power_8 : decode cX4_power 8 = .ok (.if_icmp .ge 14, 3) := by decide +kernel
theorem dX4_power_11 : decode cX4_power 11 = .ok (.lload_n 2, 1) := by decide +kernel
theorem dX4_power_12 : decode cX4_power 12 = .ok (.iload_n 0, 1) := by decide +kernel
theorem dX4_power_13 : decode cX4_power 13 = .ok (.i2l, 1) := by decide +kernel
theorem dX4_power_14 : decode cX4_power 14 = .ok (.lmul, 1) := by decide +kernel
theorem dX4_power_15 : decode cX4_power 15 = .ok (.lstore_n 2, 1) := by decide +kernel
theorem dX4_power_16 : decode cX4_power 16 = .ok (.iinc 4 1, 3) := by decide +kernel
theorem dX4_power_19 : decode cX4_power 19 = .ok (.goto (-14), 3) := by decide +kernel
theorem dX4_power_22 : decode cX4_power 22 = .ok (.lload_n 2, 1) := by decide +kernel
theorem dX4_power_23 : decode cX4_power 23 = .ok (.lreturn, 1) := by decide +kernel
end
section
theorem dX5_init_0 : decode cX5_init 0 = .ok (.aload_n 0, 1) := by decide +kernel
theorem dX5_init_1 : decode cX5_init 1 = .ok (.invokespecial 1, 3) := by decide +kernel
theorem dX5_init_4 : decode cX5_init 4 = .ok (.aload_n 0, 1) := by decide +kernel
theorem dX5_init_5 : decode cX5_init 5 = .ok (.new 7, 3) := by decide +kernel
theorem dX5_init_8 : decode cX5_init 8 = .ok (.dup, 1) := by decide +kernel
theorem dX5_init_9 : decode cX5_init 9 = .ok (.invokespecial 9, 3) := by decide +kernel
theorem dX5_init_12 : decode cX5_init 12 = .ok (.putfield 10, 3) := by decide +kernel
theorem dX5_init_15 : decode cX5_init 15 = .ok (.aload_n 0, 1) := by decide +kernel
theorem dX5_init_16 : decode cX5_init 16 = .ok (.new 16, 3) := by decide +kernel
theorem dX5_init_19 : decode cX5_init 19 = .ok (.dup, 1) := by decide +kernel
theorem dX5_init_20 : decode cX5_init 20 = .ok (.invokespecial 18, 3) := by decide +kernel
theorem dX5_init_23 : decode cX5_init 23 = .ok (.putfield 19, 3) := by decide +kernel
theorem dX5_init_26 : decode cX5_init 26 = .ok (.aload_n 0, 1) := by decide +kernel
theorem dX5_init_27 : decode cX5_init 27 = .ok (.new 16, 3) := by decide +kernel
theorem dX5_init_30 : decode cX5_init 30 = .ok (.dup, 1) := by decide +kernel
theorem dX5_init_31 : decode cX5_init 31 = .ok (.invokespecial 18, 3) := by decide +kernel
theorem dX5_init_34 : decode cX5_init 34 = .ok (.putfield 23, 3) := by decide +kernel
theorem dX5_init_37 : decode cX5_init 37 = .ok (.aload_n 0, 1) := by decide +kernel
theorem dX5_init_38 : decode cX5_init 38 = .ok (.new 26, 3) := by decide +kernel
theorem dX5_init_41 : decode cX5_init 41 = .ok (.dup, 1) := by decide +kernel
theorem dX5_init_42 : decode cX5_init 42 = .ok (.invokespecial 28, 3) := by decide +kernel
theorem dX5_init_45 : decode cX5_init 45 = .ok (.putfield 29, 3) := by decide +kernel
theorem dX5_init_48 : decode cX5_init 48 = .ok (.aload_n 0, 1) := by decide +kernel
theorem dX5_init_49 : decode cX5_init 49 = .ok (.iconst 2, 1) := by decide +kernel
theorem dX5_init_50 : decode cX5_init 50 = .ok (.anewarray 16, 3) := by decide +kernel
theorem dX5_init_53 : decode cX5_init 53 = .ok (.putfield 33, 3) := by decide +kernel
theorem dX5_init_56 : decode cX5_init 56 = .ok (.iconst 0, 1) := by decide +kernel
theorem dX5_init_57 : decode cX5_init 57 = .ok (.istore_n 1, 1) := by decide +kernel
theorem dX5_init_58 : decode cX5_init 58 = .ok (.iload_n 1, 1) := by decide +kernel
theorem dX5_init_59 : decode cX5_init 59 = .ok (.iconst 2, 1) := by decide +kernel
theorem dX5_init_60 : decode cX5_init 60 = .ok (.if_icmp .ge 22, 3) := by decide +kernel
theorem dX5_init_63 : decode cX5_init 63 = .ok (.aload_n 0, 1) := by decide +kernel
theorem dX5_init_64 : decode cX5_init 64 = .ok (.getfield 33, 3) := by decide +kernel
theorem dX5_init_67 : decode cX5_init 67 = .ok (.iload_n 1, 1) := by decide +kernel
theorem dX5_init_68 : decode cX5_init 68 = .ok (.new 16, 3) := by decide +kernel
theorem dX5_init_71 : decode cX5_init 71 = .ok (.dup, 1) := by decide +kernel
theorem dX5_init_72 : decode cX5_init 72 = .ok (.invokespecial 18, 3) := by decide +kernel
theorem dX5_init_75 : decode cX5_init 75 = .ok (.aastore, 1) := by decide +kernel
theorem dX5_init_76 : decode cX5_init 76 = .ok (.iinc 1 1, 3) := by decide +kernel
theorem dX5_init_79 : decode cX5_init 79 = .ok (.goto (-21), 3) := by decide +kernel
theorem dX5_init_82 : decode cX5_init 82 = .ok (.aload_n 0, 1) := by decide +kernel
theorem dX5_init_83 : decode cX5_init 83 = .ok (.iconst 2, 1) := by decide +kernel
theorem dX5_init_84 : decode cX5_init 84 = .ok (.newarray .boolean, 2) := by decide +kernel
theorem dX5_init_86 : decode cX5_init 86 = .ok (.putfield 37, 3) := by decide +kernel
theorem dX5_init_89 : decode cX5_init 89 = .ok (.aload_n 0, 1) := by decide +kernel
theorem dX5_init_90 : decode cX5_init 90 = .ok (.iconst 4, 1) := by decide +kernel
theorem dX5_init_91 : decode cX5_init 91 = .ok (.anewarray 41, 3) := by decide +kernel
theorem dX5_init_94 : decode cX5_init 94 = .ok (.putfield 43, 3) := by decide +kernel
theorem dX5_init_97 : decode cX5_init 97 = .ok (.iconst 0, 1) := by decide +kernel
theorem dX5_init_98 : decode cX5_init 98 = .ok (.istore_n 1, 1) := by decide +kernel
theorem dX5_init_99 : decode cX5_init 99 = .ok (.iload_n 1, 1) := by decide +kernel
theorem dX5_init_100 : decode cX5_init 100 = .ok (.iconst 4, 1) := by decide +kernel
theorem dX5_init_101 : decode cX5_init 101 = .ok (.if_icmp .ge 22, 3) := by decide +kernel
theorem dX5_init_104 : decode cX5_init 104 = .ok (.aload_n 0, 1) := by decide +kernel
theorem dX5_init_105 : decode cX5_init 105 = .ok (.getfield 43, 3) := by decide +kernel
theorem dX5_init_108 : decode cX5_init 108 = .ok (.iload_n 1, 1) := by decide +kernel
theorem dX5_init_109 : decode cX5_init 109 = .ok (.new 41, 3) := by decide +kernel
theorem dX5_init_112 : decode cX5_init 112 = .ok (.dup, 1) := by decide +kernel
theorem dX5_init_113 : decode cX5_init 113 = .ok (.invokespecial 47, 3) := by decide +kernel
theorem dX5_init_116 : decode cX5_init 116 = .ok (.aastore, 1) := by decide +kernel
theorem dX5_init_117 : decode cX5_init 117 = .ok (.iinc 1 1, 3) := by decide +kernel
theorem dX5_init_120 : decode cX5_init 120 = .ok (.goto (-21), 3) := by decide +kernel
theorem dX5_init_123 : decode cX5_init 123 = .ok (.aload_n 0, 1) := by decide +kernel
theorem dX5_init_124 : decode cX5_init 124 = .ok (.bipush 8, 2) := by decide +kernel
theorem dX5_init_126 : decode cX5_init 126 = .ok (.newarray .int, 2) := by decide +kernel
theorem dX5_init_128 : decode cX5_init 128 = .ok (.putfield 48, 3) := by decide +kernel
theorem dX5_init_131 : decode cX5_init 131 = .ok (.return_, 1) := by decide +kernel
theorem dX5_feed_0 : decode cX5_feed 0 = .ok (.iload_n 1, 1) := by decide +kernel
theorem dX5_feed_1 : decode cX5_feed 1 = .ok (.bipush 127, 2) := by decide +kernel
theorem dX5_feed_3 : decode cX5_feed 3 = .ok (.invokestatic 52, 3) := by decide +kernel
theorem dX5_feed_6 : decode cX5_feed 6 = .ok (.ifCond .ne 5, 3) := by decide +kernel
theorem dX5_feed_9 : decode cX5_feed 9 = .ok (.iconst (-1), 1) := by decide +kernel
theorem dX5_feed_10 : decode cX5_feed 10 = .ok (.ireturn, 1) := by decide +kernel
theorem dX5_feed_11 : decode cX5_feed 11 = .ok (.aload_n 0, 1) := by decide +kernel
theorem dX5_feed_12 : decode cX5_feed 12 = .ok (.getfield 10, 3) := by decide +kernel
theorem dX5_feed_15 : decode cX5_feed 15 = .ok (.getfield 56, 3) := by decide +kernel
theorem dX5_feed_18 : decode cX5_feed 18 = .ok (.iload_n 1, 1) := by decide +kernel
theorem dX5_feed_19 : decode cX5_feed 19 = .ok (.invokevirtual 60, 3) := by decide +kernel
theorem dX5_feed_22 : decode cX5_feed 22 = .ok (.ifCond .eq 16, 3) := by decide +kernel
theorem dX5_feed_25 : decode cX5_feed 25 = .ok (.aload_n 0, 1) := by decide +kernel
theorem dX5_feed_26 : decode cX5_feed 26 = .ok (.getfield 10, 3) := by decide +kernel
theorem dX5_feed_29 : decode cX5_feed 29 = .ok (.getfield 56, 3) := by decide +kernel
theorem dX5_feed_32 : decode cX5_feed 32 = .ok (.getfield 66, 3) := by decide +kernel
theorem dX5_feed_35 : decode cX5_feed 35 = .ok (.goto 5, 3) := by decide +kernel
theorem dX5_feed_38 : decode cX5_feed 38 = .ok (.bipush (-3), 2) := by decide +kernel
theorem dX5_feed_40 : decode cX5_feed 40 = .ok (.ireturn, 1) := by decide +kernel
theorem dX5_end_0 : decode cX5_end 0 = .ok (.aload_n 0, 1) := by decide +kernel
theorem dX5_end_1 : decode cX5_end 1 = .ok (.getfield 10, 3) := by decide +kernel
theorem dX5_end_4 : decode cX5_end 4 = .ok (.getfield 56, 3) := by decide +kernel
theorem dX5_end_7 : decode cX5_end 7 = .ok (.getfield 66, 3) := by decide +kernel
theorem dX5_end_10 : decode cX5_end 10 = .ok (.istore_n 2, 1) := by decide +kernel
theorem dX5_end_11 : decode cX5_end 11 = .ok (.iload_n 1, 1) := by decide +kernel
theorem dX5_end_12 : decode cX5_end 12 = .ok (.iload_n 2, 1) := by decide +kernel
theorem dX5_end_13 : decode cX5_end 13 = .ok (.invokestatic 52, 3) := by decide +kernel
theorem dX5_end_16 : decode cX5_end 16 = .ok (.ifCond .ne 5, 3) := by decide +kernel
theorem dX5_end_19 : decode cX5_end 19 = .ok (.iconst (-1), 1) := by decide +kernel
theorem dX5_end_20 : decode cX5_end 20 = .ok (.ireturn, 1) := by decide +kernel
theorem dX5_end_21 : decode cX5_end 21 = .ok (.aload_n 0, 1) := by decide +kernel
theorem dX5_end_22 : decode cX5_end 22 = .ok (.getfield 10, 3) := by decide +kernel
theorem dX5_end_25 : decode cX5_end 25 = .ok (.getfield 56, 3) := by decide +kernel
theorem dX5_end_28 : decode cX5_end 28 = .ok (.iload_n 1, 1) := by decide +kernel
theorem dX5_end_29 : decode cX5_end 29 = .ok (.putfield 66, 3) := by decide +kernel
theorem dX5_end_32 : decode cX5_end 32 = .ok (.iload_n 2, 1) := by decide +kernel
theorem dX5_end_33 : decode cX5_end 33 = .ok (.ireturn, 1) := by decide +kernel
theorem dX5_text_0 : decode cX5_text 0 = .ok (.aload_n 0, 1) := by decide +kernel
theorem dX5_text_1 : decode cX5_text 1 = .ok (.getfield 10, 3) := by decide +kernel
theorem dX5_text_4 : decode cX5_text 4 = .ok (.invokevirtual 70, 3) := by decide +kernel
theorem dX5_text_7 : decode cX5_text 7 = .ok (.aload_n 0, 1) := by decide +kernel
theorem dX5_text_8 : decode cX5_text 8 = .ok (.getfield 10, 3) := by decide +kernel
theorem dX5_text_11 : decode cX5_text 11 = .ok (.getfield 56, 3) := by decide +kernel
theorem dX5_text_14 : decode cX5_text 14 = .ok (.iconst 0, 1) := by decide +kernel
theorem dX5_text_15 : decode cX5_text 15 = .ok (.putfield 66, 3) := by decide +kernel
theorem dX5_text_18 : decode cX5_text 18 = .ok (.aload_n 0, 1) := by decide +kernel
theorem dX5_text_19 : decode cX5_text 19 = .ok (.aload_n 0, 1) := by decide +kernel
theorem dX5_text_20 : decode cX5_text 20 = .ok (.getfield 10, 3) := by decide +kernel
theorem dX5_text_23 : decode cX5_text 23 = .ok (.getfield 73, 3) := by decide +kernel
theorem dX5_text_26 : decode cX5_text 26 = .ok (.putfield 76, 3) := by decide +kernel
theorem dX5_text_29 : decode cX5_text 29 = .ok (.aload_n 0, 1) := by decide +kernel
theorem dX5_text_30 : decode cX5_text 30 = .ok (.getfield 76, 3) := by decide +kernel
theorem dX5_text_33 : decode cX5_text 33 = .ok (.ifCond .eq 14, 3) := by decide +kernel
theorem dX5_text_36 : decode cX5_text 36 = .ok (.bipush (-10), 2) := by decide +kernel
theorem dX5_text_38 : decode cX5_text 38 = .ok (.aload_n 0, 1) := by decide +kernel
theorem dX5_text_39 : decode cX5_text 39 = .ok (.getfield 10, 3) := by decide +kernel
theorem dX5_text_42 : decode cX5_text 42 = .ok (.getfield 79, 3) := by decide +kernel
theorem dX5_text_45 : decode cX5_text 45 = .ok (.isub, 1) := by decide +kernel
theorem dX5_text_46 : decode cX5_text 46 = .ok (.ireturn, 1) := by decide +kernel
theorem dX5_text_47 : decode cX5_text 47 = .ok (.aload_n 0, 1) := by decide +kernel
theorem dX5_text_48 : decode cX5_text 48 = .ok (.getfield 19, 3) := by decide +kernel
theorem dX5_text_51 : decode cX5_text 51 = .ok (.aload_n 0, 1) := by decide +kernel
theorem dX5_text_52 : decode cX5_text 52 = .ok (.getfield 10, 3) := by decide +kernel
theorem dX5_text_55 : decode cX5_text 55 = .ok (.getfield 82, 3) := by decide +kernel
theorem dX5_text_58 : decode cX5_text 58 = .ok (.invokevirtual 85, 3) := by decide +kernel
theorem dX5_text_61 : decode cX5_text 61 = .ok (.aload_n 0, 1) := by decide +kernel
theorem dX5_text_62 : decode cX5_text 62 = .ok (.getfield 29, 3) := by decide +kernel
theorem dX5_text_65 : decode cX5_text 65 = .ok (.iconst 0, 1) := by decide +kernel
theorem dX5_text_66 : decode cX5_text 66 = .ok (.putfield 89, 3) := by decide +kernel
theorem dX5_text_69 : decode cX5_text 69 = .ok (.iconst 0, 1) := by decide +kernel
theorem dX5_text_70 : decode cX5_text 70 = .ok (.istore_n 1, 1) := by decide +kernel
theorem dX5_text_71 : decode cX5_text 71 = .ok (.iload_n 1, 1) := by decide +kernel
theorem dX5_text_72 : decode cX5_text 72 = .ok (.iconst 2, 1) := by decide +kernel
theorem dX5_text_73 : decode cX5_text 73 = .ok (.if_icmp .ge 16, 3) := by decide +kernel
theorem dX5_text_76 : decode cX5_text 76 = .ok (.aload_n 0, 1) := by decide +kernel
theorem dX5_text_77 : decode cX5_text 77 = .ok (.getfield 37, 3) := by decide +kernel
theorem dX5_text_80 : decode cX5_text 80 = .ok (.iload_n 1, 1) := by decide +kernel
theorem dX5_text_81 : decode cX5_text 81 = .ok (.iconst 0, 1) := by decide +kernel
theorem dX5_text_82 : decode cX5_text 82 = .ok (.bastore, 1) := by decide +kernel
theorem dX5_text_83 : decode cX5_text 83 = .ok (.iinc 1 1, 3) := by decide +kernel
theorem dX5_text_86 : decode cX5_text 86 = .ok (.goto (-15), 3) := by decide +kernel
theorem dX5_text_89 : decode cX5_text 89 = .ok (.aload_n 0, 1) := by decide +kernel
theorem dX5_text_90 : decode cX5_text 90 = .ok (.getfield 10, 3) := by decide +kernel
theorem dX5_text_93 : decode cX5_text 93 = .ok (.getfield 92, 3) := by decide +kernel
theorem dX5_text_96 : decode cX5_text 96 = .ok (.ireturn, 1) := by decide +kernel
theorem dX5_fault_0 : decode cX5_fault 0 = .ok (.aload_n 0, 1) := by decide +kernel
theorem dX5_fault_1 : decode cX5_fault 1 = .ok (.getfield 76, 3) := by decide +kernel
theorem dX5_fault_4 : decode cX5_fault 4 = .ok (.ireturn, 1) := by decide +kernel
theorem dX5_rule_0 : decode cX5_rule 0 = .ok (.iload_n 1, 1) := by decide +kernel
theorem dX5_rule_1 : decode cX5_rule 1 = .ok (.tableswitch 91 0 5 #[39, 47, 55, 66, 74, 83], 39) := by decide +kernel
theorem dX5_rule_40 : decode cX5_rule 40 = .ok (.aload_n 0, 1) := by decide +kernel
theorem dX5_rule_41 : decode cX5_rule 41 = .ok (.getfield 19, 3) := by decide +kernel
theorem dX5_rule_44 : decode cX5_rule 44 = .ok (.getfield 95, 3) := by decide +kernel
theorem dX5_rule_47 : decode cX5_rule 47 = .ok (.ireturn, 1) := by decide +kernel
theorem dX5_rule_48 : decode cX5_rule 48 = .ok (.aload_n 0, 1) := by decide +kernel
theorem dX5_rule_49 : decode cX5_rule 49 = .ok (.getfield 19, 3) := by decide +kernel
theorem dX5_rule_52 : decode cX5_rule 52 = .ok (.getfield 98, 3) := by decide +kernel
theorem dX5_rule_55 : decode cX5_rule 55 = .ok (.ireturn, 1) := by decide +kernel
theorem dX5_rule_56 : decode cX5_rule 56 = .ok (.aload_n 0, 1) := by decide +kernel
theorem dX5_rule_57 : decode cX5_rule 57 = .ok (.getfield 19, 3) := by decide +kernel
theorem dX5_rule_60 : decode cX5_rule 60 = .ok (.invokevirtual 101, 3) := by decide +kernel
theorem dX5_rule_63 : decode cX5_rule 63 = .ok (.invokestatic 105, 3) := by decide +kernel
theorem dX5_rule_66 : decode cX5_rule 66 = .ok (.ireturn, 1) := by decide +kernel
theorem dX5_rule_67 : decode cX5_rule 67 = .ok (.aload_n 0, 1) := by decide +kernel
theorem dX5_rule_68 : decode cX5_rule 68 = .ok (.getfield 19, 3) := by decide +kernel
theorem dX5_rule_71 : decode cX5_rule 71 = .ok (.getfield 111, 3) := by decide +kernel
theorem dX5_rule_74 : decode cX5_rule 74 = .ok (.ireturn, 1) := by decide +kernel
theorem dX5_rule_75 : decode cX5_rule 75 = .ok (.aload_n 0, 1) := by decide +kernel
theorem dX5_rule_76 : decode cX5_rule 76 = .ok (.getfield 19, 3) := by decide +kernel
theorem dX5_rule_79 : decode cX5_rule 79 = .ok (.iconst (-1), 1) := by decide +kernel
theorem dX5_rule_80 : decode cX5_rule 80 = .ok (.invokevirtual 114, 3) := by decide +kernel
theorem dX5_rule_83 : decode cX5_rule 83 = .ok (.ireturn, 1) := by decide +kernel
theorem dX5_rule_84 : decode cX5_rule 84 = .ok (.aload_n 0, 1) := by decide +kernel
theorem dX5_rule_85 : decode cX5_rule 85 = .ok (.getfield 19, 3) := by decide +kernel
theorem dX5_rule_88 : decode cX5_rule 88 = .ok (.invokevirtual 117, 3) := by decide +kernel
theorem dX5_rule_91 : decode cX5_rule 91 = .ok (.ireturn, 1) := by decide +kernel
theorem dX5_rule_92 : decode cX5_rule 92 = .ok (.iconst (-1), 1) := by decide +kernel
theorem dX5_rule_93 : decode cX5_rule 93 = .ok (.ireturn, 1) := by decide +kernel
theorem dX5_one_0 : decode cX5_one 0 = .ok (.aload_n 0, 1) := by decide +kernel
theorem dX5_one_1 : decode cX5_one 1 = .ok (.getfield 19, 3) := by decide +kernel
theorem dX5_one_4 : decode cX5_one 4 = .ok (.iload_n 1, 1) := by decide +kernel
theorem dX5_one_5 : decode cX5_one 5 = .ok (.invokevirtual 120, 3) := by decide +kernel
theorem dX5_one_8 : decode cX5_one 8 = .ok (.ifCond .ne 5, 3) := by decide +kernel
theorem dX5_one_11 : decode cX5_one 11 = .ok (.iconst (-1), 1) := by decide +kernel
theorem dX5_one_12 : decode cX5_one 12 = .ok (.ireturn, 1) := by decide +kernel
theorem dX5_one_13 : decode cX5_one 13 = .ok (.iload_n 2, 1) := by decide +kernel
theorem dX5_one_14 : decode cX5_one 14 = .ok (.tableswitch 134 0 6 #[42, 52, 62, 72, 99, 108, 125], 42) := by decide +kernel
theorem dX5_one_56 : decode cX5_one 56 = .ok (.aload_n 0, 1) := by decide +kernel
theorem dX5_one_57 : decode cX5_one 57 = .ok (.getfield 19, 3) := by decide +kernel
theorem dX5_one_60 : decode cX5_one 60 = .ok (.getfield 123, 3) := by decide +kernel
theorem dX5_one_63 : decode cX5_one 63 = .ok (.iload_n 1, 1) := by decide +kernel
theorem dX5_one_64 : decode cX5_one 64 = .ok (.iaload, 1) := by decide +kernel
theorem dX5_one_65 : decode cX5_one 65 = .ok (.ireturn, 1) := by decide +kernel
theorem dX5_one_66 : decode cX5_one 66 = .ok (.aload_n 0, 1) := by decide +kernel
theorem dX5_one_67 : decode cX5_one 67 = .ok (.getfield 19, 3) := by decide +kernel
theorem dX5_one_70 : decode cX5_one 70 = .ok (.getfield 126, 3) := by decide +kernel
theorem dX5_one_73 : decode cX5_one 73 = .ok (.iload_n 1, 1) := by decide +kernel
theorem dX5_one_74 : decode cX5_one 74 = .ok (.iaload, 1) := by decide +kernel
theorem dX5_one_75 : decode cX5_one 75 = .ok (.ireturn, 1) := by decide +kernel
theorem dX5_one_76 : decode cX5_one 76 = .ok (.aload_n 0, 1) := by decide +kernel
theorem dX5_one_77 : decode cX5_one 77 = .ok (.getfield 19, 3) := by decide +kernel
theorem dX5_one_80 : decode cX5_one 80 = .ok (.getfield 129, 3) := by decide +kernel
theorem dX5_one_83 : decode cX5_one 83 = .ok (.iload_n 1, 1) := by decide +kernel
theorem dX5_one_84 : decode cX5_one 84 = .ok (.iaload, 1) := by decide +kernel
theorem dX5_one_85 : decode cX5_one 85 = .ok (.ireturn, 1) := by decide +kernel
theorem dX5_one_86 : decode cX5_one 86 = .ok (.aload_n 0, 1) := by decide +kernel
theorem dX5_one_87 : decode cX5_one 87 = .ok (.getfield 19, 3) := by decide +kernel
theorem dX5_one_90 : decode cX5_one 90 = .ok (.getfield 132, 3) := by decide +kernel
theorem dX5_one_93 : decode cX5_one 93 = .ok (.iload_n 1, 1) := by decide +kernel
theorem dX5_one_94 : decode cX5_one 94 = .ok (.iaload, 1) := by decide +kernel
theorem dX5_one_95 : decode cX5_one 95 = .ok (.ifCond .ge 8, 3) := by decide +kernel
theorem dX5_one_98 : decode cX5_one 98 = .ok (.bipush (-4), 2) := by decide +kernel
theorem dX5_one_100 : decode cX5_one 100 = .ok (.goto 12, 3) := by decide +kernel
theorem dX5_one_103 : decode cX5_one 103 = .ok (.aload_n 0, 1) := by decide +kernel
theorem dX5_one_104 : decode cX5_one 104 = .ok (.getfield 19, 3) := by decide +kernel
theorem dX5_one_107 : decode cX5_one 107 = .ok (.getfield 132, 3) := by decide +kernel
theorem dX5_one_110 : decode cX5_one 110 = .ok (.iload_n 1, 1) := by decide +kernel
theorem dX5_one_111 : decode cX5_one 111 = .ok (.iaload, 1) := by decide +kernel
theorem dX5_one_112 : decode cX5_one 112 = .ok (.ireturn, 1) := by decide +kernel
theorem dX5_one_113 : decode cX5_one 113 = .ok (.aload_n 0, 1) := by decide +kernel
theorem dX5_one_114 : decode cX5_one 114 = .ok (.getfield 19, 3) := by decide +kernel
theorem dX5_one_117 : decode cX5_one 117 = .ok (.iload_n 1, 1) := by decide +kernel
theorem dX5_one_118 : decode cX5_one 118 = .ok (.invokevirtual 135, 3) := by decide +kernel
theorem dX5_one_121 : decode cX5_one 121 = .ok (.ireturn, 1) := by decide +kernel
theorem dX5_one_122 : decode cX5_one 122 = .ok (.aload_n 0, 1) := by decide +kernel
theorem dX5_one_123 : decode cX5_one 123 = .ok (.getfield 19, 3) := by decide +kernel
theorem dX5_one_126 : decode cX5_one 126 = .ok (.iload_n 1, 1) := by decide +kernel
theorem dX5_one_127 : decode cX5_one 127 = .ok (.aload_n 0, 1) := by decide +kernel
theorem dX5_one_128 : decode cX5_one 128 = .ok (.getfield 19, 3) := by decide +kernel
theorem dX5_one_131 : decode cX5_one 131 = .ok (.iload_n 1, 1) := by decide +kernel
theorem dX5_one_132 : decode cX5_one 132 = .ok (.invokevirtual 135, 3) := by decide +kernel
theorem dX5_one_135 : decode cX5_one 135 = .ok (.invokevirtual 138, 3) := by decide +kernel
theorem dX5_one_138 : decode cX5_one 138 = .ok (.ireturn, 1) := by decide +kernel
theorem dX5_one_139 : decode cX5_one 139 = .ok (.aload_n 0, 1) := by decide +kernel
theorem dX5_one_140 : decode cX5_one 140 = .ok (.getfield 19, 3) := by decide +kernel
theorem dX5_one_143 : decode cX5_one 143 = .ok (.iload_n 1, 1) := by decide +kernel
theorem dX5_one_144 : decode cX5_one 144 = .ok (.invokevirtual 142, 3) := by decide +kernel
theorem dX5_one_147 : decode cX5_one 147 = .ok (.ireturn, 1) := by decide +kernel
theorem dX5_one_148 : decode cX5_one 148 = .ok (.iconst (-1), 1) := by decide +kernel
theorem dX5_one_149 : decode cX5_one 149 = .ok (.ireturn, 1) := by decide +kernel
theorem dX5_wall_0 : decode cX5_wall 0 = .ok (.aload_n 0, 1) := by decide +kernel
theorem dX5_wall_1 : decode cX5_wall 1 = .ok (.getfield 19, 3) := by decide +kernel
theorem dX5_wall_4 : decode cX5_wall 4 = .ok (.iload_n 1, 1) := by decide +kernel
theorem dX5_wall_5 : decode cX5_wall 5 = .ok (.invokevirtual 145, 3) := by decide +kernel
theorem dX5_wall_8 : decode cX5_wall 8 = .ok (.ifCond .ne 5, 3) := by decide +kernel
theorem dX5_wall_11 : decode cX5_wall 11 = .ok (.iconst (-1), 1) := by decide +kernel
theorem dX5_wall_12 : decode cX5_wall 12 = .ok (.ireturn, 1) := by decide +kernel
theorem dX5_wall_13 : decode cX5_wall 13 = .ok (.iload_n 2, 1) := by decide +kernel
theorem dX5_wall_14 : decode cX5_wall 14 = .ok (.tableswitch 87 0 3 #[30, 40, 50, 78], 30) := by decide +kernel
theorem dX5_wall_44 : decode cX5_wall 44 = .ok (.aload_n 0, 1) := by decide +kernel
theorem dX5_wall_45 : decode cX5_wall 45 = .ok (.getfield 19, 3) := by decide +kernel
theorem dX5_wall_48 : decode cX5_wall 48 = .ok (.getfield 148, 3) := by decide +kernel
theorem dX5_wall_51 : decode cX5_wall 51 = .ok (.iload_n 1, 1) := by decide +kernel
theorem dX5_wall_52 : decode cX5_wall 52 = .ok (.iaload, 1) := by decide +kernel
theorem dX5_wall_53 : decode cX5_wall 53 = .ok (.ireturn, 1) := by decide +kernel
theorem dX5_wall_54 : decode cX5_wall 54 = .ok (.aload_n 0, 1) := by decide +kernel
theorem dX5_wall_55 : decode cX5_wall 55 = .ok (.getfield 19, 3) := by decide +kernel
theorem dX5_wall_58 : decode cX5_wall 58 = .ok (.getfield 151, 3) := by decide +kernel
theorem dX5_wall_61 : decode cX5_wall 61 = .ok (.iload_n 1, 1) := by decide +kernel
theorem dX5_wall_62 : decode cX5_wall 62 = .ok (.iaload, 1) := by decide +kernel
theorem dX5_wall_63 : decode cX5_wall 63 = .ok (.ireturn, 1) := by decide +kernel
theorem dX5_wall_64 : decode cX5_wall 64 = .ok (.aload_n 0, 1) := by decide +kernel
theorem dX5_wall_65 : decode cX5_wall 65 = .ok (.getfield 19, 3) := by decide +kernel
theorem dX5_wall_68 : decode cX5_wall 68 = .ok (.getfield 154, 3) := by decide +kernel
theorem dX5_wall_71 : decode cX5_wall 71 = .ok (.iload_n 1, 1) := by decide +kernel
theorem dX5_wall_72 : decode cX5_wall 72 = .ok (.iaload, 1) := by decide +kernel
theorem dX5_wall_73 : decode cX5_wall 73 = .ok (.iconst (-1), 1) := by decide +kernel
theorem dX5_wall_74 : decode cX5_wall 74 = .ok (.if_icmp .ne 8, 3) := by decide +kernel
theorem dX5_wall_77 : decode cX5_wall 77 = .ok (.bipush (-4), 2) := by decide +kernel
theorem dX5_wall_79 : decode cX5_wall 79 = .ok (.goto 12, 3) := by decide +kernel
theorem dX5_wall_82 : decode cX5_wall 82 = .ok (.aload_n 0, 1) := by decide +kernel
theorem dX5_wall_83 : decode cX5_wall 83 = .ok (.getfield 19, 3) := by decide +kernel
theorem dX5_wall_86 : decode cX5_wall 86 = .ok (.getfield 154, 3) := by decide +kernel
theorem dX5_wall_89 : decode cX5_wall 89 = .ok (.iload_n 1, 1) := by decide +kernel
theorem dX5_wall_90 : decode cX5_wall 90 = .ok (.iaload, 1) := by decide +kernel
theorem dX5_wall_91 : decode cX5_wall 91 = .ok (.ireturn, 1) := by decide +kernel
theorem dX5_wall_92 : decode cX5_wall 92 = .ok (.aload_n 0, 1) := by decide +kernel
theorem dX5_wall_93 : decode cX5_wall 93 = .ok (.getfield 19, 3) := by decide +kernel
theorem dX5_wall_96 : decode cX5_wall 96 = .ok (.iload_n 1, 1) := by decide +kernel
theorem dX5_wall_97 : decode cX5_wall 97 = .ok (.invokevirtual 157, 3) := by decide +kernel
theorem dX5_wall_100 : decode cX5_wall 100 = .ok (.ireturn, 1) := by decide +kernel
theorem dX5_wall_101 : decode cX5_wall 101 = .ok (.iconst (-1), 1) := by decide +kernel
theorem dX5_wall_102 : decode cX5_wall 102 = .ok (.ireturn, 1) := by decide +kernel
theorem dX5_room_0 : decode cX5_room 0 = .ok (.iload_n 1, 1) := by decide +kernel
theorem dX5_room_1 : decode cX5_room 1 = .ok (.invokestatic 160, 3) := by decide +kernel
theorem dX5_room_4 : decode cX5_room 4 = .ok (.ifCond .ne 5, 3) := by decide +kernel
theorem dX5_room_7 : decode cX5_room 7 = .ok (.iconst (-1), 1) := by decide +kernel
theorem dX5_room_8 : decode cX5_room 8 = .ok (.ireturn, 1) := by decide +kernel
theorem dX5_room_9 : decode cX5_room 9 = .ok (.iload_n 2, 1) := by decide +kernel
theorem dX5_room_10 : decode cX5_room 10 = .ok (.lookupswitch 45 #[(0, 26), (1, 36)], 26) := by decide +kernel
theorem dX5_room_36 : decode cX5_room 36 = .ok (.aload_n 0, 1) := by decide +kernel
theorem dX5_room_37 : decode cX5_room 37 = .ok (.getfield 19, 3) := by decide +kernel
theorem dX5_room_40 : decode cX5_room 40 = .ok (.getfield 163, 3) := by decide +kernel
theorem dX5_room_43 : decode cX5_room 43 = .ok (.iload_n 1, 1) := by decide +kernel
theorem dX5_room_44 : decode cX5_room 44 = .ok (.iaload, 1) := by decide +kernel
theorem dX5_room_45 : decode cX5_room 45 = .ok (.ireturn, 1) := by decide +kernel
theorem dX5_room_46 : decode cX5_room 46 = .ok (.aload_n 0, 1) := by decide +kernel
theorem dX5_room_47 : decode cX5_room 47 = .ok (.getfield 19, 3) := by decide +kernel
theorem dX5_room_50 : decode cX5_room 50 = .ok (.iload_n 1, 1) := by decide +kernel
theorem dX5_room_51 : decode cX5_room 51 = .ok (.invokevirtual 166, 3) := by decide +kernel
theorem dX5_room_54 : decode cX5_room 54 = .ok (.ireturn, 1) := by decide +kernel
theorem dX5_room_55 : decode cX5_room 55 = .ok (.iconst (-1), 1) := by decide +kernel
theorem dX5_room_56 : decode cX5_room 56 = .ok (.ireturn, 1) := by decide +kernel
theorem dX5_act_0 : decode cX5_act 0 = .ok (.iload_n 1, 1) := by decide +kernel
theorem dX5_act_1 : decode cX5_act 1 = .ok (.ifCond .lt 14, 3) := by decide +kernel
theorem dX5_act_4 : decode cX5_act 4 = .ok (.iload_n 1, 1) := by decide +kernel
theorem dX5_act_5 : decode cX5_act 5 = .ok (.aload_n 0, 1) := by decide +kernel
theorem dX5_act_6 : decode cX5_act 6 = .ok (.getfield 19, 3) := by decide +kernel
theorem dX5_act_9 : decode cX5_act 9 = .ok (.getfield 111, 3) := by decide +kernel
theorem dX5_act_12 : decode cX5_act 12 = .ok (.if_icmp .lt 5, 3) := by decide +kernel
theorem dX5_act_15 : decode cX5_act 15 = .ok (.iconst (-1), 1) := by decide +kernel
theorem dX5_act_16 : decode cX5_act 16 = .ok (.ireturn, 1) := by decide +kernel
theorem dX5_act_17 : decode cX5_act 17 = .ok (.iload_n 2, 1) := by decide +kernel
theorem dX5_act_18 : decode cX5_act 18 = .ok (.lookupswitch 46 #[(0, 26), (1, 36)], 26) := by decide +kernel
theorem dX5_act_44 : decode cX5_act 44 = .ok (.aload_n 0, 1) := by decide +kernel
theorem dX5_act_45 : decode cX5_act 45 = .ok (.getfield 19, 3) := by decide +kernel
theorem dX5_act_48 : decode cX5_act 48 = .ok (.getfield 169, 3) := by decide +kernel
theorem dX5_act_51 : decode cX5_act 51 = .ok (.iload_n 1, 1) := by decide +kernel
theorem dX5_act_52 : decode cX5_act 52 = .ok (.iaload, 1) := by decide +kernel
theorem dX5_act_53 : decode cX5_act 53 = .ok (.ireturn, 1) := by decide +kernel
theorem dX5_act_54 : decode cX5_act 54 = .ok (.aload_n 0, 1) := by decide +kernel
theorem dX5_act_55 : decode cX5_act 55 = .ok (.getfield 19, 3) := by decide +kernel
theorem dX5_act_58 : decode cX5_act 58 = .ok (.getfield 172, 3) := by decide +kernel
theorem dX5_act_61 : decode cX5_act 61 = .ok (.iload_n 1, 1) := by decide +kernel
theorem dX5_act_62 : decode cX5_act 62 = .ok (.iaload, 1) := by decide +kernel
theorem dX5_act_63 : decode cX5_act 63 = .ok (.ireturn, 1) := by decide +kernel
theorem dX5_act_64 : decode cX5_act 64 = .ok (.iconst (-1), 1) := by decide +kernel
theorem dX5_act_65 : decode cX5_act 65 = .ok (.ireturn, 1) := by decide +kernel
theorem dX5_alter_0 : decode cX5_alter 0 = .ok (.aload_n 0, 1) := by decide +kernel
theorem dX5_alter_1 : decode cX5_alter 1 = .ok (.getfield 19, 3) := by decide +kernel
theorem dX5_alter_4 : decode cX5_alter 4 = .ok (.iload_n 1, 1) := by decide +kernel
theorem dX5_alter_5 : decode cX5_alter 5 = .ok (.invokevirtual 120, 3) := by decide +kernel
theorem dX5_alter_8 : decode cX5_alter 8 = .ok (.ifCond .ne 5, 3) := by decide +kernel
theorem dX5_alter_11 : decode cX5_alter 11 = .ok (.iconst (-1), 1) := by decide +kernel
theorem dX5_alter_12 : decode cX5_alter 12 = .ok (.ireturn, 1) := by decide +kernel
theorem dX5_alter_13 : decode cX5_alter 13 = .ok (.iload_n 2, 1) := by decide +kernel
theorem dX5_alter_14 : decode cX5_alter 14 = .ok (.tableswitch 69 0 2 #[26, 40, 54], 26) := by decide +kernel
theorem dX5_alter_40 : decode cX5_alter 40 = .ok (.aload_n 0, 1) := by decide +kernel
theorem dX5_alter_41 : decode cX5_alter 41 = .ok (.getfield 19, 3) := by decide +kernel
theorem dX5_alter_44 : decode cX5_alter 44 = .ok (.getfield 123, 3) := by decide +kernel
theorem dX5_alter_47 : decode cX5_alter 47 = .ok (.iload_n 1, 1) := by decide +kernel
theorem dX5_alter_48 : decode cX5_alter 48 = .ok (.iload_n 3, 1) := by decide +kernel
theorem dX5_alter_49 : decode cX5_alter 49 = .ok (.iconst 3, 1) := by decide +kernel
theorem dX5_alter_50 : decode cX5_alter 50 = .ok (.invokestatic 175, 3) := by decide +kernel
theorem dX5_alter_53 : decode cX5_alter 53 = .ok (.ireturn, 1) := by decide +kernel
theorem dX5_alter_54 : decode cX5_alter 54 = .ok (.aload_n 0, 1) := by decide +kernel
theorem dX5_alter_55 : decode cX5_alter 55 = .ok (.getfield 19, 3) := by decide +kernel
theorem dX5_alter_58 : decode cX5_alter 58 = .ok (.getfield 126, 3) := by decide +kernel
theorem dX5_alter_61 : decode cX5_alter 61 = .ok (.iload_n 1, 1) := by decide +kernel
theorem dX5_alter_62 : decode cX5_alter 62 = .ok (.iload_n 3, 1) := by decide +kernel
theorem dX5_alter_63 : decode cX5_alter 63 = .ok (.iconst 3, 1) := by decide +kernel
theorem dX5_alter_64 : decode cX5_alter 64 = .ok (.invokestatic 175, 3) := by decide +kernel
theorem dX5_alter_67 : decode cX5_alter 67 = .ok (.ireturn, 1) := by decide +kernel
theorem dX5_alter_68 : decode cX5_alter 68 = .ok (.aload_n 0, 1) := by decide +kernel
theorem dX5_alter_69 : decode cX5_alter 69 = .ok (.getfield 19, 3) := by decide +kernel
theorem dX5_alter_72 : decode cX5_alter 72 = .ok (.getfield 129, 3) := by decide +kernel
theorem dX5_alter_75 : decode cX5_alter 75 = .ok (.iload_n 1, 1) := by decide +kernel
theorem dX5_alter_76 : decode cX5_alter 76 = .ok (.iload_n 3, 1) := by decide +kernel
theorem dX5_alter_77 : decode cX5_alter 77 = .ok (.bipush 7, 2) := by decide +kernel
theorem dX5_alter_79 : decode cX5_alter 79 = .ok (.invokestatic 175, 3) := by decide +kernel
theorem dX5_alter_82 : decode cX5_alter 82 = .ok (.ireturn, 1) := by decide +kernel
theorem dX5_alter_83 : decode cX5_alter 83 = .ok (.iconst (-1), 1) := by decide +kernel
theorem dX5_alter_84 : decode cX5_alter 84 = .ok (.ireturn, 1) := by decide +kernel
theorem dX5_price_0 : decode cX5_price 0 = .ok (.aload_n 0, 1) := by decide +kernel
theorem dX5_price_1 : decode cX5_price 1 = .ok (.getfield 19, 3) := by decide +kernel
theorem dX5_price_4 : decode cX5_price 4 = .ok (.getfield 163, 3) := by decide +kernel
theorem dX5_price_7 : decode cX5_price 7 = .ok (.iload_n 1, 1) := by decide +kernel
theorem dX5_price_8 : decode cX5_price 8 = .ok (.iload_n 2, 1) := by decide +kernel
theorem dX5_price_9 : decode cX5_price 9 = .ok (.bipush 99, 2) := by decide +kernel
theorem dX5_price_11 : decode cX5_price 11 = .ok (.invokestatic 175, 3) := by decide +kernel
theorem dX5_price_14 : decode cX5_price 14 = .ok (.ireturn, 1) := by decide +kernel
theorem dX5_build_0 : decode cX5_build 0 = .ok (.iload_n 1, 1) := by decide +kernel
theorem dX5_build_1 : decode cX5_build 1 = .ok (.invokestatic 160, 3) := by decide +kernel
theorem dX5_build_4 : decode cX5_build 4 = .ok (.ifCond .eq 15, 3) := by decide +kernel
theorem dX5_build_7 : decode cX5_build 7 = .ok (.iload_n 2, 1) := by decide +kernel
theorem dX5_build_8 : decode cX5_build 8 = .ok (.invokestatic 160, 3) := by decide +kernel
theorem dX5_build_11 : decode cX5_build 11 = .ok (.ifCond .eq 8, 3) := by decide +kernel
theorem dX5_build_14 : decode cX5_build 14 = .ok (.iload_n 1, 1) := by decide +kernel
theorem dX5_build_15 : decode cX5_build 15 = .ok (.iload_n 2, 1) := by decide +kernel
theorem dX5_build_16 : decode cX5_build 16 = .ok (.if_icmp .ne 5, 3) := by decide +kernel
theorem dX5_build_19 : decode cX5_build 19 = .ok (.iconst (-1), 1) := by decide +kernel
theorem dX5_build_20 : decode cX5_build 20 = .ok (.ireturn, 1) := by decide +kernel
theorem dX5_build_21 : decode cX5_build 21 = .ok (.aload_n 0, 1) := by decide +kernel
theorem dX5_build_22 : decode cX5_build 22 = .ok (.getfield 19, 3) := by decide +kernel
theorem dX5_build_25 : decode cX5_build 25 = .ok (.iload_n 1, 1) := by decide +kernel
theorem dX5_build_26 : decode cX5_build 26 = .ok (.iload_n 2, 1) := by decide +kernel
theorem dX5_build_27 : decode cX5_build 27 = .ok (.invokevirtual 179, 3) := by decide +kernel
theorem dX5_build_30 : decode cX5_build 30 = .ok (.ifCond .eq 13, 3) := by decide +kernel
theorem dX5_build_33 : decode cX5_build 33 = .ok (.aload_n 0, 1) := by decide +kernel
theorem dX5_build_34 : decode cX5_build 34 = .ok (.getfield 19, 3) := by decide +kernel
theorem dX5_build_37 : decode cX5_build 37 = .ok (.getfield 98, 3) := by decide +kernel
theorem dX5_build_40 : decode cX5_build 40 = .ok (.goto 5, 3) := by decide +kernel
theorem dX5_build_43 : decode cX5_build 43 = .ok (.bipush (-3), 2) := by decide +kernel
theorem dX5_build_45 : decode cX5_build 45 = .ok (.ireturn, 1) := by decide +kernel
theorem dX5_plan_0 : decode cX5_plan 0 = .ok (.aload_n 0, 1) := by decide +kernel
theorem dX5_plan_1 : decode cX5_plan 1 = .ok (.getfield 19, 3) := by decide +kernel
theorem dX5_plan_4 : decode cX5_plan 4 = .ok (.iload_n 1, 1) := by decide +kernel
theorem dX5_plan_5 : decode cX5_plan 5 = .ok (.invokevirtual 120, 3) := by decide +kernel
theorem dX5_plan_8 : decode cX5_plan 8 = .ok (.ifCond .eq 14, 3) := by decide +kernel
theorem dX5_plan_11 : decode cX5_plan 11 = .ok (.aload_n 0, 1) := by decide +kernel
theorem dX5_plan_12 : decode cX5_plan 12 = .ok (.getfield 19, 3) := by decide +kernel
theorem dX5_plan_15 : decode cX5_plan 15 = .ok (.iload_n 2, 1) := by decide +kernel
theorem dX5_plan_16 : decode cX5_plan 16 = .ok (.invokevirtual 145, 3) := by decide +kernel
theorem dX5_plan_19 : decode cX5_plan 19 = .ok (.ifCond .ne 5, 3) := by decide +kernel
theorem dX5_plan_22 : decode cX5_plan 22 = .ok (.iconst (-1), 1) := by decide +kernel
theorem dX5_plan_23 : decode cX5_plan 23 = .ok (.ireturn, 1) := by decide +kernel
theorem dX5_plan_24 : decode cX5_plan 24 = .ok (.aload_n 0, 1) := by decide +kernel
theorem dX5_plan_25 : decode cX5_plan 25 = .ok (.getfield 19, 3) := by decide +kernel
theorem dX5_plan_28 : decode cX5_plan 28 = .ok (.iload_n 1, 1) := by decide +kernel
theorem dX5_plan_29 : decode cX5_plan 29 = .ok (.iload_n 2, 1) := by decide +kernel
theorem dX5_plan_30 : decode cX5_plan 30 = .ok (.invokevirtual 182, 3) := by decide +kernel
theorem dX5_plan_33 : decode cX5_plan 33 = .ok (.ifCond .eq 13, 3) := by decide +kernel
theorem dX5_plan_36 : decode cX5_plan 36 = .ok (.aload_n 0, 1) := by decide +kernel
theorem dX5_plan_37 : decode cX5_plan 37 = .ok (.getfield 19, 3) := by decide +kernel
theorem dX5_plan_40 : decode cX5_plan 40 = .ok (.getfield 111, 3) := by decide +kernel
theorem dX5_plan_43 : decode cX5_plan 43 = .ok (.goto 5, 3) := by decide +kernel
theorem dX5_plan_46 : decode cX5_plan 46 = .ok (.bipush (-3), 2) := by decide +kernel
theorem dX5_plan_48 : decode cX5_plan 48 = .ok (.ireturn, 1) := by decide +kernel
theorem dX5_cut_0 : decode cX5_cut 0 = .ok (.aload_n 0, 1) := by decide +kernel
theorem dX5_cut_1 : decode cX5_cut 1 = .ok (.getfield 19, 3) := by decide +kernel
theorem dX5_cut_4 : decode cX5_cut 4 = .ok (.getfield 111, 3) := by decide +kernel
theorem dX5_cut_7 : decode cX5_cut 7 = .ok (.istore_n 2, 1) := by decide +kernel
theorem dX5_cut_8 : decode cX5_cut 8 = .ok (.iload_n 1, 1) := by decide +kernel
theorem dX5_cut_9 : decode cX5_cut 9 = .ok (.iload_n 2, 1) := by decide +kernel
theorem dX5_cut_10 : decode cX5_cut 10 = .ok (.invokestatic 52, 3) := by decide +kernel
theorem dX5_cut_13 : decode cX5_cut 13 = .ok (.ifCond .ne 5, 3) := by decide +kernel
theorem dX5_cut_16 : decode cX5_cut 16 = .ok (.iconst (-1), 1) := by decide +kernel
theorem dX5_cut_17 : decode cX5_cut 17 = .ok (.ireturn, 1) := by decide +kernel
theorem dX5_cut_18 : decode cX5_cut 18 = .ok (.aload_n 0, 1) := by decide +kernel
theorem dX5_cut_19 : decode cX5_cut 19 = .ok (.getfield 19, 3) := by decide +kernel
theorem dX5_cut_22 : decode cX5_cut 22 = .ok (.iload_n 1, 1) := by decide +kernel
theorem dX5_cut_23 : decode cX5_cut 23 = .ok (.putfield 111, 3) := by decide +kernel
theorem dX5_cut_26 : decode cX5_cut 26 = .ok (.iload_n 2, 1) := by decide +kernel
theorem dX5_cut_27 : decode cX5_cut 27 = .ok (.ireturn, 1) := by decide +kernel
theorem dX5_hang_0 : decode cX5_hang 0 = .ok (.aload_n 0, 1) := by decide +kernel
theorem dX5_hang_1 : decode cX5_hang 1 = .ok (.getfield 19, 3) := by decide +kernel
theorem dX5_hang_4 : decode cX5_hang 4 = .ok (.iload_n 1, 1) := by decide +kernel
theorem dX5_hang_5 : decode cX5_hang 5 = .ok (.invokevirtual 120, 3) := by decide +kernel
theorem dX5_hang_8 : decode cX5_hang 8 = .ok (.ifCond .eq 14, 3) := by decide +kernel
theorem dX5_hang_11 : decode cX5_hang 11 = .ok (.aload_n 0, 1) := by decide +kernel
theorem dX5_hang_12 : decode cX5_hang 12 = .ok (.getfield 19, 3) := by decide +kernel
theorem dX5_hang_15 : decode cX5_hang 15 = .ok (.iload_n 2, 1) := by decide +kernel
theorem dX5_hang_16 : decode cX5_hang 16 = .ok (.invokevirtual 145, 3) := by decide +kernel
theorem dX5_hang_19 : decode cX5_hang 19 = .ok (.ifCond .ne 5, 3) := by decide +kernel
theorem dX5_hang_22 : decode cX5_hang 22 = .ok (.iconst (-1), 1) := by decide +kernel
theorem dX5_hang_23 : decode cX5_hang 23 = .ok (.ireturn, 1) := by decide +kernel
theorem dX5_hang_24 : decode cX5_hang 24 = .ok (.aload_n 0, 1) := by decide +kernel
theorem dX5_hang_25 : decode cX5_hang 25 = .ok (.getfield 19, 3) := by decide +kernel
theorem dX5_hang_28 : decode cX5_hang 28 = .ok (.iload_n 1, 1) := by decide +kernel
theorem dX5_hang_29 : decode cX5_hang 29 = .ok (.iload_n 2, 1) := by decide +kernel
theorem dX5_hang_30 : decode cX5_hang 30 = .ok (.invokevirtual 185, 3) := by decide +kernel
theorem dX5_hang_33 : decode cX5_hang 33 = .ok (.ifCond .eq 14, 3) := by decide +kernel
theorem dX5_hang_36 : decode cX5_hang 36 = .ok (.aload_n 0, 1) := by decide +kernel
theorem dX5_hang_37 : decode cX5_hang 37 = .ok (.getfield 19, 3) := by decide +kernel
theorem dX5_hang_40 : decode cX5_hang 40 = .ok (.iload_n 1, 1) := by decide +kernel
theorem dX5_hang_41 : decode cX5_hang 41 = .ok (.invokevirtual 135, 3) := by decide +kernel
theorem dX5_hang_44 : decode cX5_hang 44 = .ok (.goto 5, 3) := by decide +kernel
theorem dX5_hang_47 : decode cX5_hang 47 = .ok (.bipush (-2), 2) := by decide +kernel
theorem dX5_hang_49 : decode cX5_hang 49 = .ok (.ireturn, 1) := by decide +kernel
theorem dX5_fill_0 : decode cX5_fill 0 = .ok (.aload_n 0, 1) := by decide +kernel
theorem dX5_fill_1 : decode cX5_fill 1 = .ok (.getfield 19, 3) := by decide +kernel
theorem dX5_fill_4 : decode cX5_fill 4 = .ok (.iload_n 1, 1) := by decide +kernel
theorem dX5_fill_5 : decode cX5_fill 5 = .ok (.invokevirtual 145, 3) := by decide +kernel
theorem dX5_fill_8 : decode cX5_fill 8 = .ok (.ifCond .ne 5, 3) := by decide +kernel
theorem dX5_fill_11 : decode cX5_fill 11 = .ok (.iconst (-1), 1) := by decide +kernel
theorem dX5_fill_12 : decode cX5_fill 12 = .ok (.ireturn, 1) := by decide +kernel
theorem dX5_fill_13 : decode cX5_fill 13 = .ok (.aload_n 0, 1) := by decide +kernel
theorem dX5_fill_14 : decode cX5_fill 14 = .ok (.getfield 19, 3) := by decide +kernel
theorem dX5_fill_17 : decode cX5_fill 17 = .ok (.iload_n 1, 1) := by decide +kernel
theorem dX5_fill_18 : decode cX5_fill 18 = .ok (.bipush (-2), 2) := by decide +kernel
theorem dX5_fill_20 : decode cX5_fill 20 = .ok (.invokevirtual 188, 3) := by decide +kernel
theorem dX5_fill_23 : decode cX5_fill 23 = .ok (.istore_n 2, 1) := by decide +kernel
theorem dX5_fill_24 : decode cX5_fill 24 = .ok (.iload_n 2, 1) := by decide +kernel
theorem dX5_fill_25 : decode cX5_fill 25 = .ok (.iconst (-1), 1) := by decide +kernel
theorem dX5_fill_26 : decode cX5_fill 26 = .ok (.if_icmp .ne 8, 3) := by decide +kernel
theorem dX5_fill_29 : decode cX5_fill 29 = .ok (.bipush (-2), 2) := by decide +kernel
theorem dX5_fill_31 : decode cX5_fill 31 = .ok (.goto 4, 3) := by decide +kernel
theorem dX5_fill_34 : decode cX5_fill 34 = .ok (.iload_n 2, 1) := by decide +kernel
theorem dX5_fill_35 : decode cX5_fill 35 = .ok (.ireturn, 1) := by decide +kernel
theorem dX5_steps_0 : decode cX5_steps 0 = .ok (.aload_n 0, 1) := by decide +kernel
theorem dX5_steps_1 : decode cX5_steps 1 = .ok (.getfield 19, 3) := by decide +kernel
theorem dX5_steps_4 : decode cX5_steps 4 = .ok (.iload_n 1, 1) := by decide +kernel
theorem dX5_steps_5 : decode cX5_steps 5 = .ok (.invokevirtual 120, 3) := by decide +kernel
theorem dX5_steps_8 : decode cX5_steps 8 = .ok (.ifCond .eq 10, 3) := by decide +kernel
theorem dX5_steps_11 : decode cX5_steps 11 = .ok (.iload_n 2, 1) := by decide +kernel
theorem dX5_steps_12 : decode cX5_steps 12 = .ok (.invokestatic 160, 3) := by decide +kernel
theorem dX5_steps_15 : decode cX5_steps 15 = .ok (.ifCond .ne 5, 3) := by decide +kernel
theorem dX5_steps_18 : decode cX5_steps 18 = .ok (.iconst (-1), 1) := by decide +kernel
theorem dX5_steps_19 : decode cX5_steps 19 = .ok (.ireturn, 1) := by decide +kernel
theorem dX5_steps_20 : decode cX5_steps 20 = .ok (.aload_n 0, 1) := by decide +kernel
theorem dX5_steps_21 : decode cX5_steps 21 = .ok (.getfield 19, 3) := by decide +kernel
theorem dX5_steps_24 : decode cX5_steps 24 = .ok (.aload_n 0, 1) := by decide +kernel
theorem dX5_steps_25 : decode cX5_steps 25 = .ok (.getfield 19, 3) := by decide +kernel
theorem dX5_steps_28 : decode cX5_steps 28 = .ok (.getfield 129, 3) := by decide +kernel
theorem dX5_steps_31 : decode cX5_steps 31 = .ok (.iload_n 1, 1) := by decide +kernel
theorem dX5_steps_32 : decode cX5_steps 32 = .ok (.iaload, 1) := by decide +kernel
theorem dX5_steps_33 : decode cX5_steps 33 = .ok (.iload_n 2, 1) := by decide +kernel
theorem dX5_steps_34 : decode cX5_steps 34 = .ok (.aload_n 0, 1) := by decide +kernel
theorem dX5_steps_35 : decode cX5_steps 35 = .ok (.getfield 19, 3) := by decide +kernel
theorem dX5_steps_38 : decode cX5_steps 38 = .ok (.iload_n 1, 1) := by decide +kernel
theorem dX5_steps_39 : decode cX5_steps 39 = .ok (.invokevirtual 191, 3) := by decide +kernel
theorem dX5_steps_42 : decode cX5_steps 42 = .ok (.invokevirtual 194, 3) := by decide +kernel
theorem dX5_steps_45 : decode cX5_steps 45 = .ok (.ireturn, 1) := by decide +kernel
theorem dX5_way_0 : decode cX5_way 0 = .ok (.aload_n 0, 1) := by decide +kernel
theorem dX5_way_1 : decode cX5_way 1 = .ok (.getfield 19, 3) := by decide +kernel
theorem dX5_way_4 : decode cX5_way 4 = .ok (.iload_n 1, 1) := by decide +kernel
theorem dX5_way_5 : decode cX5_way 5 = .ok (.invokevirtual 120, 3) := by decide +kernel
theorem dX5_way_8 : decode cX5_way 8 = .ok (.ifCond .eq 19, 3) := by decide +kernel
theorem dX5_way_11 : decode cX5_way 11 = .ok (.iload_n 2, 1) := by decide +kernel
theorem dX5_way_12 : decode cX5_way 12 = .ok (.invokestatic 160, 3) := by decide +kernel
theorem dX5_way_15 : decode cX5_way 15 = .ok (.ifCond .eq 12, 3) := by decide +kernel
theorem dX5_way_18 : decode cX5_way 18 = .ok (.iload_n 3, 1) := by decide +kernel
theorem dX5_way_19 : decode cX5_way 19 = .ok (.bipush 6, 2) := by decide +kernel
theorem dX5_way_21 : decode cX5_way 21 = .ok (.invokestatic 52, 3) := by decide +kernel
theorem dX5_way_24 : decode cX5_way 24 = .ok (.ifCond .ne 5, 3) := by decide +kernel
theorem dX5_way_27 : decode cX5_way 27 = .ok (.iconst (-1), 1) := by decide +kernel
theorem dX5_way_28 : decode cX5_way 28 = .ok (.ireturn, 1) := by decide +kernel
theorem dX5_way_29 : decode cX5_way 29 = .ok (.aload_n 0, 1) := by decide +kernel
theorem dX5_way_30 : decode cX5_way 30 = .ok (.getfield 19, 3) := by decide +kernel
theorem dX5_way_33 : decode cX5_way 33 = .ok (.iload_n 1, 1) := by decide +kernel
theorem dX5_way_34 : decode cX5_way 34 = .ok (.iload_n 2, 1) := by decide +kernel
theorem dX5_way_35 : decode cX5_way 35 = .ok (.iload_n 3, 1) := by decide +kernel
theorem dX5_way_36 : decode cX5_way 36 = .ok (.invokevirtual 198, 3) := by decide +kernel
theorem dX5_way_39 : decode cX5_way 39 = .ok (.ireturn, 1) := by decide +kernel
theorem dX5_meet_0 : decode cX5_meet 0 = .ok (.aload_n 0, 1) := by decide +kernel
theorem dX5_meet_1 : decode cX5_meet 1 = .ok (.getfield 19, 3) := by decide +kernel
theorem dX5_meet_4 : decode cX5_meet 4 = .ok (.iload_n 1, 1) := by decide +kernel
theorem dX5_meet_5 : decode cX5_meet 5 = .ok (.invokevirtual 120, 3) := by decide +kernel
theorem dX5_meet_8 : decode cX5_meet 8 = .ok (.ifCond .eq 19, 3) := by decide +kernel
theorem dX5_meet_11 : decode cX5_meet 11 = .ok (.aload_n 0, 1) := by decide +kernel
theorem dX5_meet_12 : decode cX5_meet 12 = .ok (.getfield 19, 3) := by decide +kernel
theorem dX5_meet_15 : decode cX5_meet 15 = .ok (.iload_n 2, 1) := by decide +kernel
theorem dX5_meet_16 : decode cX5_meet 16 = .ok (.invokevirtual 120, 3) := by decide +kernel
theorem dX5_meet_19 : decode cX5_meet 19 = .ok (.ifCond .eq 8, 3) := by decide +kernel
theorem dX5_meet_22 : decode cX5_meet 22 = .ok (.iload_n 1, 1) := by decide +kernel
theorem dX5_meet_23 : decode cX5_meet 23 = .ok (.iload_n 2, 1) := by decide +kernel
theorem dX5_meet_24 : decode cX5_meet 24 = .ok (.if_icmp .ne 5, 3) := by decide +kernel
theorem dX5_meet_27 : decode cX5_meet 27 = .ok (.iconst (-1), 1) := by decide +kernel
theorem dX5_meet_28 : decode cX5_meet 28 = .ok (.ireturn, 1) := by decide +kernel
theorem dX5_meet_29 : decode cX5_meet 29 = .ok (.aload_n 0, 1) := by decide +kernel
theorem dX5_meet_30 : decode cX5_meet 30 = .ok (.getfield 19, 3) := by decide +kernel
theorem dX5_meet_33 : decode cX5_meet 33 = .ok (.iload_n 1, 1) := by decide +kernel
theorem dX5_meet_34 : decode cX5_meet 34 = .ok (.invokevirtual 135, 3) := by decide +kernel
theorem dX5_meet_37 : decode cX5_meet 37 = .ok (.aload_n 0, 1) := by decide +kernel
theorem dX5_meet_38 : decode cX5_meet 38 = .ok (.getfield 19, 3) := by decide +kernel
theorem dX5_meet_41 : decode cX5_meet 41 = .ok (.iload_n 2, 1) := by decide +kernel
theorem dX5_meet_42 : decode cX5_meet 42 = .ok (.invokevirtual 135, 3) := by decide +kernel
theorem dX5_meet_45 : decode cX5_meet 45 = .ok (.iand, 1) := by decide +kernel
theorem dX5_meet_46 : decode cX5_meet 46 = .ok (.ireturn, 1) := by decide +kernel
theorem dX5_runs_0 : decode cX5_runs 0 = .ok (.iload_n 1, 1) := by decide +kernel
theorem dX5_runs_1 : decode cX5_runs 1 = .ok (.iconst 3, 1) := by decide +kernel
theorem dX5_runs_2 : decode cX5_runs 2 = .ok (.invokestatic 52, 3) := by decide +kernel
theorem dX5_runs_5 : decode cX5_runs 5 = .ok (.ifCond .ne 5, 3) := by decide +kernel
theorem dX5_runs_8 : decode cX5_runs 8 = .ok (.iconst (-1), 1) := by decide +kernel
theorem dX5_runs_9 : decode cX5_runs 9 = .ok (.ireturn, 1) := by decide +kernel
theorem dX5_runs_10 : decode cX5_runs 10 = .ok (.aload_n 0, 1) := by decide +kernel
theorem dX5_runs_11 : decode cX5_runs 11 = .ok (.getfield 23, 3) := by decide +kernel
theorem dX5_runs_14 : decode cX5_runs 14 = .ok (.aload_n 0, 1) := by decide +kernel
theorem dX5_runs_15 : decode cX5_runs 15 = .ok (.getfield 19, 3) := by decide +kernel
theorem dX5_runs_18 : decode cX5_runs 18 = .ok (.invokevirtual 85, 3) := by decide +kernel
theorem dX5_runs_21 : decode cX5_runs 21 = .ok (.aload_n 0, 1) := by decide +kernel
theorem dX5_runs_22 : decode cX5_runs 22 = .ok (.getfield 23, 3) := by decide +kernel
theorem dX5_runs_25 : decode cX5_runs 25 = .ok (.bipush (-4), 2) := by decide +kernel
theorem dX5_runs_27 : decode cX5_runs 27 = .ok (.invokevirtual 201, 3) := by decide +kernel
theorem dX5_runs_30 : decode cX5_runs 30 = .ok (.istore_n 2, 1) := by decide +kernel
theorem dX5_runs_31 : decode cX5_runs 31 = .ok (.iload_n 1, 1) := by decide +kernel
theorem dX5_runs_32 : decode cX5_runs 32 = .ok (.tableswitch 53 0 2 #[28, 33, 45], 28) := by decide +kernel
theorem dX5_runs_60 : decode cX5_runs 60 = .ok (.iload_n 2, 1) := by decide +kernel
theorem dX5_runs_61 : decode cX5_runs 61 = .ok (.invokestatic 105, 3) := by decide +kernel
theorem dX5_runs_64 : decode cX5_runs 64 = .ok (.ireturn, 1) := by decide +kernel
theorem dX5_runs_65 : decode cX5_runs 65 = .ok (.iload_n 2, 1) := by decide +kernel
theorem dX5_runs_66 : decode cX5_runs 66 = .ok (.aload_n 0, 1) := by decide +kernel
theorem dX5_runs_67 : decode cX5_runs 67 = .ok (.getfield 19, 3) := by decide +kernel
theorem dX5_runs_70 : decode cX5_runs 70 = .ok (.getfield 111, 3) := by decide +kernel
theorem dX5_runs_73 : decode cX5_runs 73 = .ok (.invokestatic 204, 3) := by decide +kernel
theorem dX5_runs_76 : decode cX5_runs 76 = .ok (.ireturn, 1) := by decide +kernel
theorem dX5_runs_77 : decode cX5_runs 77 = .ok (.aload_n 0, 1) := by decide +kernel
theorem dX5_runs_78 : decode cX5_runs 78 = .ok (.getfield 23, 3) := by decide +kernel
theorem dX5_runs_81 : decode cX5_runs 81 = .ok (.invokevirtual 207, 3) := by decide +kernel
theorem dX5_runs_84 : decode cX5_runs 84 = .ok (.ireturn, 1) := by decide +kernel
theorem dX5_runs_85 : decode cX5_runs 85 = .ok (.aload_n 0, 1) := by decide +kernel
theorem dX5_runs_86 : decode cX5_runs 86 = .ok (.getfield 23, 3) := by decide +kernel
theorem dX5_runs_89 : decode cX5_runs 89 = .ok (.invokevirtual 101, 3) := by decide +kernel
theorem dX5_runs_92 : decode cX5_runs 92 = .ok (.invokestatic 105, 3) := by decide +kernel
theorem dX5_runs_95 : decode cX5_runs 95 = .ok (.ireturn, 1) := by decide +kernel
theorem dX5_ahead_0 : decode cX5_ahead 0 = .ok (.aload_n 0, 1) := by decide +kernel
theorem dX5_ahead_1 : decode cX5_ahead 1 = .ok (.getfield 19, 3) := by decide +kernel
theorem dX5_ahead_4 : decode cX5_ahead 4 = .ok (.iload_n 1, 1) := by decide +kernel
theorem dX5_ahead_5 : decode cX5_ahead 5 = .ok (.invokevirtual 120, 3) := by decide +kernel
theorem dX5_ahead_8 : decode cX5_ahead 8 = .ok (.ifCond .ne 5, 3) := by decide +kernel
theorem dX5_ahead_11 : decode cX5_ahead 11 = .ok (.iconst (-1), 1) := by decide +kernel
theorem dX5_ahead_12 : decode cX5_ahead 12 = .ok (.ireturn, 1) := by decide +kernel
theorem dX5_ahead_13 : decode cX5_ahead 13 = .ok (.aload_n 0, 1) := by decide +kernel
theorem dX5_ahead_14 : decode cX5_ahead 14 = .ok (.getfield 23, 3) := by decide +kernel
theorem dX5_ahead_17 : decode cX5_ahead 17 = .ok (.aload_n 0, 1) := by decide +kernel
theorem dX5_ahead_18 : decode cX5_ahead 18 = .ok (.getfield 19, 3) := by decide +kernel
theorem dX5_ahead_21 : decode cX5_ahead 21 = .ok (.invokevirtual 85, 3) := by decide +kernel
theorem dX5_ahead_24 : decode cX5_ahead 24 = .ok (.aload_n 0, 1) := by decide +kernel
theorem dX5_ahead_25 : decode cX5_ahead 25 = .ok (.getfield 23, 3) := by decide +kernel
theorem dX5_ahead_28 : decode cX5_ahead 28 = .ok (.bipush (-4), 2) := by decide +kernel
theorem dX5_ahead_30 : decode cX5_ahead 30 = .ok (.invokevirtual 201, 3) := by decide +kernel
theorem dX5_ahead_33 : decode cX5_ahead 33 = .ok (.pop, 1) := by decide +kernel
theorem dX5_ahead_34 : decode cX5_ahead 34 = .ok (.aload_n 0, 1) := by decide +kernel
theorem dX5_ahead_35 : decode cX5_ahead 35 = .ok (.getfield 23, 3) := by decide +kernel
theorem dX5_ahead_38 : decode cX5_ahead 38 = .ok (.iload_n 1, 1) := by decide +kernel
theorem dX5_ahead_39 : decode cX5_ahead 39 = .ok (.invokevirtual 135, 3) := by decide +kernel
theorem dX5_ahead_42 : decode cX5_ahead 42 = .ok (.ireturn, 1) := by decide +kernel
theorem dX5_best_0 : decode cX5_best 0 = .ok (.aload_n 0, 1) := by decide +kernel
theorem dX5_best_1 : decode cX5_best 1 = .ok (.getfield 19, 3) := by decide +kernel
theorem dX5_best_4 : decode cX5_best 4 = .ok (.iload_n 1, 1) := by decide +kernel
theorem dX5_best_5 : decode cX5_best 5 = .ok (.invokevirtual 120, 3) := by decide +kernel
theorem dX5_best_8 : decode cX5_best 8 = .ok (.ifCond .eq 18, 3) := by decide +kernel
theorem dX5_best_11 : decode cX5_best 11 = .ok (.iload_n 2, 1) := by decide +kernel
theorem dX5_best_12 : decode cX5_best 12 = .ok (.invokestatic 160, 3) := by decide +kernel
theorem dX5_best_15 : decode cX5_best 15 = .ok (.ifCond .eq 11, 3) := by decide +kernel
theorem dX5_best_18 : decode cX5_best 18 = .ok (.iload_n 3, 1) := by decide +kernel
theorem dX5_best_19 : decode cX5_best 19 = .ok (.iconst 1, 1) := by decide +kernel
theorem dX5_best_20 : decode cX5_best 20 = .ok (.invokestatic 52, 3) := by decide +kernel
theorem dX5_best_23 : decode cX5_best 23 = .ok (.ifCond .ne 5, 3) := by decide +kernel
theorem dX5_best_26 : decode cX5_best 26 = .ok (.iconst (-1), 1) := by decide +kernel
theorem dX5_best_27 : decode cX5_best 27 = .ok (.ireturn, 1) := by decide +kernel
theorem dX5_best_28 : decode cX5_best 28 = .ok (.aload_n 0, 1) := by decide +kernel
theorem dX5_best_29 : decode cX5_best 29 = .ok (.getfield 19, 3) := by decide +kernel
theorem dX5_best_32 : decode cX5_best 32 = .ok (.getfield 132, 3) := by decide +kernel
theorem dX5_best_35 : decode cX5_best 35 = .ok (.iload_n 1, 1) := by decide +kernel
theorem dX5_best_36 : decode cX5_best 36 = .ok (.iaload, 1) := by decide +kernel
theorem dX5_best_37 : decode cX5_best 37 = .ok (.iconst (-1), 1) := by decide +kernel
theorem dX5_best_38 : decode cX5_best 38 = .ok (.if_icmp .eq 6, 3) := by decide +kernel
theorem dX5_best_41 : decode cX5_best 41 = .ok (.bipush (-2), 2) := by decide +kernel
theorem dX5_best_43 : decode cX5_best 43 = .ok (.ireturn, 1) := by decide +kernel
theorem dX5_best_44 : decode cX5_best 44 = .ok (.bipush (-4), 2) := by decide +kernel
theorem dX5_best_46 : decode cX5_best 46 = .ok (.istore 4, 2) := by decide +kernel
theorem dX5_best_48 : decode cX5_best 48 = .ok (.bipush 8, 2) := by decide +kernel
theorem dX5_best_50 : decode cX5_best 50 = .ok (.istore 5, 2) := by decide +kernel
theorem dX5_best_52 : decode cX5_best 52 = .ok (.iconst 0, 1) := by decide +kernel
theorem dX5_best_53 : decode cX5_best 53 = .ok (.istore 6, 2) := by decide +kernel
theorem dX5_best_55 : decode cX5_best 55 = .ok (.iload 6, 2) := by decide +kernel
theorem dX5_best_57 : decode cX5_best 57 = .ok (.aload_n 0, 1) := by decide +kernel
theorem dX5_best_58 : decode cX5_best 58 = .ok (.getfield 19, 3) := by decide +kernel
theorem dX5_best_61 : decode cX5_best 61 = .ok (.getfield 98, 3) := by decide +kernel
theorem dX5_best_64 : decode cX5_best 64 = .ok (.if_icmp .ge 43, 3) := by decide +kernel
theorem dX5_best_67 : decode cX5_best 67 = .ok (.aload_n 0, 1) := by decide +kernel
theorem dX5_best_68 : decode cX5_best 68 = .ok (.getfield 19, 3) := by decide +kernel
theorem dX5_best_71 : decode cX5_best 71 = .ok (.iload_n 1, 1) := by decide +kernel
theorem dX5_best_72 : decode cX5_best 72 = .ok (.iload 6, 2) := by decide +kernel
theorem dX5_best_74 : decode cX5_best 74 = .ok (.iload_n 1, 1) := by decide +kernel
theorem dX5_best_75 : decode cX5_best 75 = .ok (.iload_n 2, 1) := by decide +kernel
theorem dX5_best_76 : decode cX5_best 76 = .ok (.invokevirtual 210, 3) := by decide +kernel
theorem dX5_best_79 : decode cX5_best 79 = .ok (.istore 7, 2) := by decide +kernel
theorem dX5_best_81 : decode cX5_best 81 = .ok (.iload 7, 2) := by decide +kernel
theorem dX5_best_83 : decode cX5_best 83 = .ok (.ifCond .lt 18, 3) := by decide +kernel
theorem dX5_best_86 : decode cX5_best 86 = .ok (.iload 7, 2) := by decide +kernel
theorem dX5_best_88 : decode cX5_best 88 = .ok (.iload 5, 2) := by decide +kernel
theorem dX5_best_90 : decode cX5_best 90 = .ok (.if_icmp .ge 11, 3) := by decide +kernel
theorem dX5_best_93 : decode cX5_best 93 = .ok (.iload 6, 2) := by decide +kernel
theorem dX5_best_95 : decode cX5_best 95 = .ok (.istore 4, 2) := by decide +kernel
theorem dX5_best_97 : decode cX5_best 97 = .ok (.iload 7, 2) := by decide +kernel
theorem dX5_best_99 : decode cX5_best 99 = .ok (.istore 5, 2) := by decide +kernel
theorem dX5_best_101 : decode cX5_best 101 = .ok (.iinc 6 1, 3) := by decide +kernel
theorem dX5_best_104 : decode cX5_best 104 = .ok (.goto (-49), 3) := by decide +kernel
theorem dX5_best_107 : decode cX5_best 107 = .ok (.iload 4, 2) := by decide +kernel
theorem dX5_best_109 : decode cX5_best 109 = .ok (.bipush (-4), 2) := by decide +kernel
theorem dX5_best_111 : decode cX5_best 111 = .ok (.if_icmp .eq 7, 3) := by decide +kernel
theorem dX5_best_114 : decode cX5_best 114 = .ok (.iload_n 3, 1) := by decide +kernel
theorem dX5_best_115 : decode cX5_best 115 = .ok (.ifCond .ne 8, 3) := by decide +kernel
theorem dX5_best_118 : decode cX5_best 118 = .ok (.iload 4, 2) := by decide +kernel
theorem dX5_best_120 : decode cX5_best 120 = .ok (.goto 5, 3) := by decide +kernel
theorem dX5_best_123 : decode cX5_best 123 = .ok (.iload 5, 2) := by decide +kernel
theorem dX5_best_125 : decode cX5_best 125 = .ok (.ireturn, 1) := by decide +kernel
theorem dX5_friend_0 : decode cX5_friend 0 = .ok (.aload_n 0, 1) := by decide +kernel
theorem dX5_friend_1 : decode cX5_friend 1 = .ok (.getfield 19, 3) := by decide +kernel
theorem dX5_friend_4 : decode cX5_friend 4 = .ok (.iload_n 1, 1) := by decide +kernel
theorem dX5_friend_5 : decode cX5_friend 5 = .ok (.invokevirtual 120, 3) := by decide +kernel
theorem dX5_friend_8 : decode cX5_friend 8 = .ok (.ifCond .eq 18, 3) := by decide +kernel
theorem dX5_friend_11 : decode cX5_friend 11 = .ok (.iload_n 2, 1) := by decide +kernel
theorem dX5_friend_12 : decode cX5_friend 12 = .ok (.invokestatic 160, 3) := by decide +kernel
theorem dX5_friend_15 : decode cX5_friend 15 = .ok (.ifCond .eq 11, 3) := by decide +kernel
theorem dX5_friend_18 : decode cX5_friend 18 = .ok (.iload_n 3, 1) := by decide +kernel
theorem dX5_friend_19 : decode cX5_friend 19 = .ok (.iconst 1, 1) := by decide +kernel
theorem dX5_friend_20 : decode cX5_friend 20 = .ok (.invokestatic 52, 3) := by decide +kernel
theorem dX5_friend_23 : decode cX5_friend 23 = .ok (.ifCond .ne 5, 3) := by decide +kernel
theorem dX5_friend_26 : decode cX5_friend 26 = .ok (.iconst (-1), 1) := by decide +kernel
theorem dX5_friend_27 : decode cX5_friend 27 = .ok (.ireturn, 1) := by decide +kernel
theorem dX5_friend_28 : decode cX5_friend 28 = .ok (.bipush (-4), 2) := by decide +kernel
theorem dX5_friend_30 : decode cX5_friend 30 = .ok (.istore 4, 2) := by decide +kernel
theorem dX5_friend_32 : decode cX5_friend 32 = .ok (.bipush 8, 2) := by decide +kernel
theorem dX5_friend_34 : decode cX5_friend 34 = .ok (.istore 5, 2) := by decide +kernel
theorem dX5_friend_36 : decode cX5_friend 36 = .ok (.iconst 0, 1) := by decide +kernel
theorem dX5_friend_37 : decode cX5_friend 37 = .ok (.istore 6, 2) := by decide +kernel
theorem dX5_friend_39 : decode cX5_friend 39 = .ok (.iload 6, 2) := by decide +kernel
theorem dX5_friend_41 : decode cX5_friend 41 = .ok (.aload_n 0, 1) := by decide +kernel
theorem dX5_friend_42 : decode cX5_friend 42 = .ok (.getfield 19, 3) := by decide +kernel
theorem dX5_friend_45 : decode cX5_friend 45 = .ok (.getfield 95, 3) := by decide +kernel
theorem dX5_friend_48 : decode cX5_friend 48 = .ok (.if_icmp .ge 82, 3) := by decide +kernel
theorem dX5_friend_51 : decode cX5_friend 51 = .ok (.iconst 0, 1) := by decide +kernel
theorem dX5_friend_52 : decode cX5_friend 52 = .ok (.istore 7, 2) := by decide +kernel
theorem dX5_friend_54 : decode cX5_friend 54 = .ok (.iload 7, 2) := by decide +kernel
theorem dX5_friend_56 : decode cX5_friend 56 = .ok (.aload_n 0, 1) := by decide +kernel
theorem dX5_friend_57 : decode cX5_friend 57 = .ok (.getfield 19, 3) := by decide +kernel
theorem dX5_friend_60 : decode cX5_friend 60 = .ok (.getfield 98, 3) := by decide +kernel
theorem dX5_friend_63 : decode cX5_friend 63 = .ok (.if_icmp .ge 61, 3) := by decide +kernel
theorem dX5_friend_66 : decode cX5_friend 66 = .ok (.iload 6, 2) := by decide +kernel
theorem dX5_friend_68 : decode cX5_friend 68 = .ok (.iload_n 1, 1) := by decide +kernel
theorem dX5_friend_69 : decode cX5_friend 69 = .ok (.if_icmp .ne 8, 3) := by decide +kernel
theorem dX5_friend_72 : decode cX5_friend 72 = .ok (.bipush (-4), 2) := by decide +kernel
theorem dX5_friend_74 : decode cX5_friend 74 = .ok (.goto 16, 3) := by decide +kernel
theorem dX5_friend_77 : decode cX5_friend 77 = .ok (.aload_n 0, 1) := by decide +kernel
theorem dX5_friend_78 : decode cX5_friend 78 = .ok (.getfield 19, 3) := by decide +kernel
theorem dX5_friend_81 : decode cX5_friend 81 = .ok (.iload 6, 2) := by decide +kernel
theorem dX5_friend_83 : decode cX5_friend 83 = .ok (.iload 7, 2) := by decide +kernel
theorem dX5_friend_85 : decode cX5_friend 85 = .ok (.iload_n 1, 1) := by decide +kernel
theorem dX5_friend_86 : decode cX5_friend 86 = .ok (.iload_n 2, 1) := by decide +kernel
theorem dX5_friend_87 : decode cX5_friend 87 = .ok (.invokevirtual 210, 3) := by decide +kernel
theorem dX5_friend_90 : decode cX5_friend 90 = .ok (.istore 8, 2) := by decide +kernel
theorem dX5_friend_92 : decode cX5_friend 92 = .ok (.iload 8, 2) := by decide +kernel
theorem dX5_friend_94 : decode cX5_friend 94 = .ok (.ifCond .lt 24, 3) := by decide +kernel
theorem dX5_friend_97 : decode cX5_friend 97 = .ok (.iload 8, 2) := by decide +kernel
theorem dX5_friend_99 : decode cX5_friend 99 = .ok (.iload 5, 2) := by decide +kernel
theorem dX5_friend_101 : decode cX5_friend 101 = .ok (.if_icmp .ge 17, 3) := by decide +kernel
theorem dX5_friend_104 : decode cX5_friend 104 = .ok (.bipush 10, 2) := by decide +kernel
theorem dX5_friend_106 : decode cX5_friend 106 = .ok (.iload 6, 2) := by decide +kernel
theorem dX5_friend_108 : decode cX5_friend 108 = .ok (.imul, 1) := by decide +kernel
theorem dX5_friend_109 : decode cX5_friend 109 = .ok (.iload 7, 2) := by decide +kernel
theorem dX5_friend_111 : decode cX5_friend 111 = .ok (.iadd, 1) := by decide +kernel
theorem dX5_friend_112 : decode cX5_friend 112 = .ok (.istore 4, 2) := by decide +kernel
theorem dX5_friend_114 : decode cX5_friend 114 = .ok (.iload 8, 2) := by decide +kernel
theorem dX5_friend_116 : decode cX5_friend 116 = .ok (.istore 5, 2) := by decide +kernel
theorem dX5_friend_118 : decode cX5_friend 118 = .ok (.iinc 7 1, 3) := by decide +kernel
theorem dX5_friend_121 : decode cX5_friend 121 = .ok (.goto (-67), 3) := by decide +kernel
theorem dX5_friend_124 : decode cX5_friend 124 = .ok (.iinc 6 1, 3) := by decide +kernel
theorem dX5_friend_127 : decode cX5_friend 127 = .ok (.goto (-88), 3) := by decide +kernel
theorem dX5_friend_130 : decode cX5_friend 130 = .ok (.iload 4, 2) := by decide +kernel
theorem dX5_friend_132 : decode cX5_friend 132 = .ok (.bipush (-4), 2) := by decide +kernel
theorem dX5_friend_134 : decode cX5_friend 134 = .ok (.if_icmp .eq 7, 3) := by decide +kernel
theorem dX5_friend_137 : decode cX5_friend 137 = .ok (.iload_n 3, 1) := by decide +kernel
theorem dX5_friend_138 : decode cX5_friend 138 = .ok (.ifCond .ne 8, 3) := by decide +kernel
theorem dX5_friend_141 : decode cX5_friend 141 = .ok (.iload 4, 2) := by decide +kernel
theorem dX5_friend_143 : decode cX5_friend 143 = .ok (.goto 5, 3) := by decide +kernel
theorem dX5_friend_146 : decode cX5_friend 146 = .ok (.iload 5, 2) := by decide +kernel
theorem dX5_friend_148 : decode cX5_friend 148 = .ok (.ireturn, 1) := by decide +kernel
theorem dX5_gain_0 : decode cX5_gain 0 = .ok (.aload_n 0, 1) := by decide +kernel
theorem dX5_gain_1 : decode cX5_gain 1 = .ok (.getfield 19, 3) := by decide +kernel
theorem dX5_gain_4 : decode cX5_gain 4 = .ok (.iload_n 1, 1) := by decide +kernel
theorem dX5_gain_5 : decode cX5_gain 5 = .ok (.invokevirtual 120, 3) := by decide +kernel
theorem dX5_gain_8 : decode cX5_gain 8 = .ok (.ifCond .eq 11, 3) := by decide +kernel
theorem dX5_gain_11 : decode cX5_gain 11 = .ok (.iload_n 2, 1) := by decide +kernel
theorem dX5_gain_12 : decode cX5_gain 12 = .ok (.iconst 1, 1) := by decide +kernel
theorem dX5_gain_13 : decode cX5_gain 13 = .ok (.invokestatic 52, 3) := by decide +kernel
theorem dX5_gain_16 : decode cX5_gain 16 = .ok (.ifCond .ne 5, 3) := by decide +kernel
theorem dX5_gain_19 : decode cX5_gain 19 = .ok (.iconst (-1), 1) := by decide +kernel
theorem dX5_gain_20 : decode cX5_gain 20 = .ok (.ireturn, 1) := by decide +kernel
theorem dX5_gain_21 : decode cX5_gain 21 = .ok (.aload_n 0, 1) := by decide +kernel
theorem dX5_gain_22 : decode cX5_gain 22 = .ok (.getfield 19, 3) := by decide +kernel
theorem dX5_gain_25 : decode cX5_gain 25 = .ok (.getfield 132, 3) := by decide +kernel
theorem dX5_gain_28 : decode cX5_gain 28 = .ok (.iload_n 1, 1) := by decide +kernel
theorem dX5_gain_29 : decode cX5_gain 29 = .ok (.iaload, 1) := by decide +kernel
theorem dX5_gain_30 : decode cX5_gain 30 = .ok (.iconst (-1), 1) := by decide +kernel
theorem dX5_gain_31 : decode cX5_gain 31 = .ok (.if_icmp .eq 6, 3) := by decide +kernel
theorem dX5_gain_34 : decode cX5_gain 34 = .ok (.bipush (-2), 2) := by decide +kernel
theorem dX5_gain_36 : decode cX5_gain 36 = .ok (.ireturn, 1) := by decide +kernel
theorem dX5_gain_37 : decode cX5_gain 37 = .ok (.bipush (-4), 2) := by decide +kernel
theorem dX5_gain_39 : decode cX5_gain 39 = .ok (.istore_n 3, 1) := by decide +kernel
theorem dX5_gain_40 : decode cX5_gain 40 = .ok (.aload_n 0, 1) := by decide +kernel
theorem dX5_gain_41 : decode cX5_gain 41 = .ok (.getfield 19, 3) := by decide +kernel
theorem dX5_gain_44 : decode cX5_gain 44 = .ok (.iload_n 1, 1) := by decide +kernel
theorem dX5_gain_45 : decode cX5_gain 45 = .ok (.aload_n 0, 1) := by decide +kernel
theorem dX5_gain_46 : decode cX5_gain 46 = .ok (.getfield 19, 3) := by decide +kernel
theorem dX5_gain_49 : decode cX5_gain 49 = .ok (.iload_n 1, 1) := by decide +kernel
theorem dX5_gain_50 : decode cX5_gain 50 = .ok (.invokevirtual 135, 3) := by decide +kernel
theorem dX5_gain_53 : decode cX5_gain 53 = .ok (.invokevirtual 138, 3) := by decide +kernel
theorem dX5_gain_56 : decode cX5_gain 56 = .ok (.istore 4, 2) := by decide +kernel
theorem dX5_gain_58 : decode cX5_gain 58 = .ok (.iconst 0, 1) := by decide +kernel
theorem dX5_gain_59 : decode cX5_gain 59 = .ok (.istore 5, 2) := by decide +kernel
theorem dX5_gain_61 : decode cX5_gain 61 = .ok (.iload 5, 2) := by decide +kernel
theorem dX5_gain_63 : decode cX5_gain 63 = .ok (.aload_n 0, 1) := by decide +kernel
theorem dX5_gain_64 : decode cX5_gain 64 = .ok (.getfield 19, 3) := by decide +kernel
theorem dX5_gain_67 : decode cX5_gain 67 = .ok (.getfield 98, 3) := by decide +kernel
theorem dX5_gain_70 : decode cX5_gain 70 = .ok (.if_icmp .ge 35, 3) := by decide +kernel
theorem dX5_gain_73 : decode cX5_gain 73 = .ok (.aload_n 0, 1) := by decide +kernel
theorem dX5_gain_74 : decode cX5_gain 74 = .ok (.getfield 19, 3) := by decide +kernel
theorem dX5_gain_77 : decode cX5_gain 77 = .ok (.iload_n 1, 1) := by decide +kernel
theorem dX5_gain_78 : decode cX5_gain 78 = .ok (.iload 5, 2) := by decide +kernel
theorem dX5_gain_80 : decode cX5_gain 80 = .ok (.invokevirtual 214, 3) := by decide +kernel
theorem dX5_gain_83 : decode cX5_gain 83 = .ok (.istore 6, 2) := by decide +kernel
theorem dX5_gain_85 : decode cX5_gain 85 = .ok (.iload 6, 2) := by decide +kernel
theorem dX5_gain_87 : decode cX5_gain 87 = .ok (.iload 4, 2) := by decide +kernel
theorem dX5_gain_89 : decode cX5_gain 89 = .ok (.if_icmp .le 10, 3) := by decide +kernel
theorem dX5_gain_92 : decode cX5_gain 92 = .ok (.iload 5, 2) := by decide +kernel
theorem dX5_gain_94 : decode cX5_gain 94 = .ok (.istore_n 3, 1) := by decide +kernel
theorem dX5_gain_95 : decode cX5_gain 95 = .ok (.iload 6, 2) := by decide +kernel
theorem dX5_gain_97 : decode cX5_gain 97 = .ok (.istore 4, 2) := by decide +kernel
theorem dX5_gain_99 : decode cX5_gain 99 = .ok (.iinc 5 1, 3) := by decide +kernel
theorem dX5_gain_102 : decode cX5_gain 102 = .ok (.goto (-41), 3) := by decide +kernel
theorem dX5_gain_105 : decode cX5_gain 105 = .ok (.iload_n 3, 1) := by decide +kernel
theorem dX5_gain_106 : decode cX5_gain 106 = .ok (.bipush (-4), 2) := by decide +kernel
theorem dX5_gain_108 : decode cX5_gain 108 = .ok (.if_icmp .eq 7, 3) := by decide +kernel
theorem dX5_gain_111 : decode cX5_gain 111 = .ok (.iload_n 2, 1) := by decide +kernel
theorem dX5_gain_112 : decode cX5_gain 112 = .ok (.ifCond .ne 7, 3) := by decide +kernel
theorem dX5_gain_115 : decode cX5_gain 115 = .ok (.iload_n 3, 1) := by decide +kernel
theorem dX5_gain_116 : decode cX5_gain 116 = .ok (.goto 5, 3) := by decide +kernel
theorem dX5_gain_119 : decode cX5_gain 119 = .ok (.iload 4, 2) := by decide +kernel
theorem dX5_gain_121 : decode cX5_gain 121 = .ok (.ireturn, 1) := by decide +kernel
theorem dX5_shut_0 : decode cX5_shut 0 = .ok (.aload_n 0, 1) := by decide +kernel
theorem dX5_shut_1 : decode cX5_shut 1 = .ok (.getfield 19, 3) := by decide +kernel
theorem dX5_shut_4 : decode cX5_shut 4 = .ok (.iload_n 1, 1) := by decide +kernel
theorem dX5_shut_5 : decode cX5_shut 5 = .ok (.invokevirtual 120, 3) := by decide +kernel
theorem dX5_shut_8 : decode cX5_shut 8 = .ok (.ifCond .eq 18, 3) := by decide +kernel
theorem dX5_shut_11 : decode cX5_shut 11 = .ok (.iload_n 2, 1) := by decide +kernel
theorem dX5_shut_12 : decode cX5_shut 12 = .ok (.invokestatic 160, 3) := by decide +kernel
theorem dX5_shut_15 : decode cX5_shut 15 = .ok (.ifCond .eq 11, 3) := by decide +kernel
theorem dX5_shut_18 : decode cX5_shut 18 = .ok (.iload_n 3, 1) := by decide +kernel
theorem dX5_shut_19 : decode cX5_shut 19 = .ok (.iconst 1, 1) := by decide +kernel
theorem dX5_shut_20 : decode cX5_shut 20 = .ok (.invokestatic 52, 3) := by decide +kernel
theorem dX5_shut_23 : decode cX5_shut 23 = .ok (.ifCond .ne 5, 3) := by decide +kernel
theorem dX5_shut_26 : decode cX5_shut 26 = .ok (.iconst (-1), 1) := by decide +kernel
theorem dX5_shut_27 : decode cX5_shut 27 = .ok (.ireturn, 1) := by decide +kernel
theorem dX5_shut_28 : decode cX5_shut 28 = .ok (.iload_n 2, 1) := by decide +kernel
theorem dX5_shut_29 : decode cX5_shut 29 = .ok (.aload_n 0, 1) := by decide +kernel
theorem dX5_shut_30 : decode cX5_shut 30 = .ok (.getfield 19, 3) := by decide +kernel
theorem dX5_shut_33 : decode cX5_shut 33 = .ok (.getfield 129, 3) := by decide +kernel
theorem dX5_shut_36 : decode cX5_shut 36 = .ok (.iload_n 1, 1) := by decide +kernel
theorem dX5_shut_37 : decode cX5_shut 37 = .ok (.iaload, 1) := by decide +kernel
theorem dX5_shut_38 : decode cX5_shut 38 = .ok (.if_icmp .ne 6, 3) := by decide +kernel
theorem dX5_shut_41 : decode cX5_shut 41 = .ok (.bipush (-2), 2) := by decide +kernel
theorem dX5_shut_43 : decode cX5_shut 43 = .ok (.ireturn, 1) := by decide +kernel
theorem dX5_shut_44 : decode cX5_shut 44 = .ok (.aload_n 0, 1) := by decide +kernel
theorem dX5_shut_45 : decode cX5_shut 45 = .ok (.getfield 19, 3) := by decide +kernel
theorem dX5_shut_48 : decode cX5_shut 48 = .ok (.iload_n 1, 1) := by decide +kernel
theorem dX5_shut_49 : decode cX5_shut 49 = .ok (.iload_n 2, 1) := by decide +kernel
theorem dX5_shut_50 : decode cX5_shut 50 = .ok (.invokevirtual 217, 3) := by decide +kernel
theorem dX5_shut_53 : decode cX5_shut 53 = .ok (.istore 4, 2) := by decide +kernel
theorem dX5_shut_55 : decode cX5_shut 55 = .ok (.iload_n 3, 1) := by decide +kernel
theorem dX5_shut_56 : decode cX5_shut 56 = .ok (.ifCond .ne 11, 3) := by decide +kernel
theorem dX5_shut_59 : decode cX5_shut 59 = .ok (.iload 4, 2) := by decide +kernel
theorem dX5_shut_61 : decode cX5_shut 61 = .ok (.invokestatic 105, 3) := by decide +kernel
theorem dX5_shut_64 : decode cX5_shut 64 = .ok (.goto 5, 3) := by decide +kernel
theorem dX5_shut_67 : decode cX5_shut 67 = .ok (.iload 4, 2) := by decide +kernel
theorem dX5_shut_69 : decode cX5_shut 69 = .ok (.ireturn, 1) := by decide +kernel
theorem dX5_leave_0 : decode cX5_leave 0 = .ok (.iload_n 1, 1) := by decide +kernel
theorem dX5_leave_1 : decode cX5_leave 1 = .ok (.iconst 1, 1) := by decide +kernel
theorem dX5_leave_2 : decode cX5_leave 2 = .ok (.invokestatic 52, 3) := by decide +kernel
theorem dX5_leave_5 : decode cX5_leave 5 = .ok (.ifCond .ne 5, 3) := by decide +kernel
theorem dX5_leave_8 : decode cX5_leave 8 = .ok (.iconst (-1), 1) := by decide +kernel
theorem dX5_leave_9 : decode cX5_leave 9 = .ok (.ireturn, 1) := by decide +kernel
theorem dX5_leave_10 : decode cX5_leave 10 = .ok (.bipush (-4), 2) := by decide +kernel
theorem dX5_leave_12 : decode cX5_leave 12 = .ok (.istore_n 2, 1) := by decide +kernel
theorem dX5_leave_13 : decode cX5_leave 13 = .ok (.aload_n 0, 1) := by decide +kernel
theorem dX5_leave_14 : decode cX5_leave 14 = .ok (.bipush (-4), 2) := by decide +kernel
theorem dX5_leave_16 : decode cX5_leave 16 = .ok (.invokevirtual 220, 3) := by decide +kernel
theorem dX5_leave_19 : decode cX5_leave 19 = .ok (.istore_n 3, 1) := by decide +kernel
theorem dX5_leave_20 : decode cX5_leave 20 = .ok (.iconst 0, 1) := by decide +kernel
theorem dX5_leave_21 : decode cX5_leave 21 = .ok (.istore 4, 2) := by decide +kernel
theorem dX5_leave_23 : decode cX5_leave 23 = .ok (.iload 4, 2) := by decide +kernel
theorem dX5_leave_25 : decode cX5_leave 25 = .ok (.aload_n 0, 1) := by decide +kernel
theorem dX5_leave_26 : decode cX5_leave 26 = .ok (.getfield 19, 3) := by decide +kernel
theorem dX5_leave_29 : decode cX5_leave 29 = .ok (.getfield 111, 3) := by decide +kernel
theorem dX5_leave_32 : decode cX5_leave 32 = .ok (.if_icmp .ge 29, 3) := by decide +kernel
theorem dX5_leave_35 : decode cX5_leave 35 = .ok (.aload_n 0, 1) := by decide +kernel
theorem dX5_leave_36 : decode cX5_leave 36 = .ok (.iload 4, 2) := by decide +kernel
theorem dX5_leave_38 : decode cX5_leave 38 = .ok (.invokevirtual 220, 3) := by decide +kernel
theorem dX5_leave_41 : decode cX5_leave 41 = .ok (.istore 5, 2) := by decide +kernel
theorem dX5_leave_43 : decode cX5_leave 43 = .ok (.iload 5, 2) := by decide +kernel
theorem dX5_leave_45 : decode cX5_leave 45 = .ok (.iload_n 3, 1) := by decide +kernel
theorem dX5_leave_46 : decode cX5_leave 46 = .ok (.if_icmp .le 9, 3) := by decide +kernel
theorem dX5_leave_49 : decode cX5_leave 49 = .ok (.iload 4, 2) := by decide +kernel
theorem dX5_leave_51 : decode cX5_leave 51 = .ok (.istore_n 2, 1) := by decide +kernel
theorem dX5_leave_52 : decode cX5_leave 52 = .ok (.iload 5, 2) := by decide +kernel
theorem dX5_leave_54 : decode cX5_leave 54 = .ok (.istore_n 3, 1) := by decide +kernel
theorem dX5_leave_55 : decode cX5_leave 55 = .ok (.iinc 4 1, 3) := by decide +kernel
theorem dX5_leave_58 : decode cX5_leave 58 = .ok (.goto (-35), 3) := by decide +kernel
theorem dX5_leave_61 : decode cX5_leave 61 = .ok (.iload_n 2, 1) := by decide +kernel
theorem dX5_leave_62 : decode cX5_leave 62 = .ok (.bipush (-4), 2) := by decide +kernel
theorem dX5_leave_64 : decode cX5_leave 64 = .ok (.if_icmp .eq 7, 3) := by decide +kernel
theorem dX5_leave_67 : decode cX5_leave 67 = .ok (.iload_n 1, 1) := by decide +kernel
theorem dX5_leave_68 : decode cX5_leave 68 = .ok (.ifCond .ne 7, 3) := by decide +kernel
theorem dX5_leave_71 : decode cX5_leave 71 = .ok (.iload_n 2, 1) := by decide +kernel
theorem dX5_leave_72 : decode cX5_leave 72 = .ok (.goto 4, 3) := by decide +kernel
theorem dX5_leave_75 : decode cX5_leave 75 = .ok (.iload_n 3, 1) := by decide +kernel
theorem dX5_leave_76 : decode cX5_leave 76 = .ok (.ireturn, 1) := by decide +kernel
theorem dX5_kindly_0 : decode cX5_kindly 0 = .ok (.aload_n 0, 1) := by decide +kernel
theorem dX5_kindly_1 : decode cX5_kindly 1 = .ok (.getfield 19, 3) := by decide +kernel
theorem dX5_kindly_4 : decode cX5_kindly 4 = .ok (.iload_n 1, 1) := by decide +kernel
theorem dX5_kindly_5 : decode cX5_kindly 5 = .ok (.invokevirtual 120, 3) := by decide +kernel
theorem dX5_kindly_8 : decode cX5_kindly 8 = .ok (.ifCond .eq 11, 3) := by decide +kernel
theorem dX5_kindly_11 : decode cX5_kindly 11 = .ok (.iload_n 2, 1) := by decide +kernel
theorem dX5_kindly_12 : decode cX5_kindly 12 = .ok (.iconst 1, 1) := by decide +kernel
theorem dX5_kindly_13 : decode cX5_kindly 13 = .ok (.invokestatic 52, 3) := by decide +kernel
theorem dX5_kindly_16 : decode cX5_kindly 16 = .ok (.ifCond .ne 5, 3) := by decide +kernel
theorem dX5_kindly_19 : decode cX5_kindly 19 = .ok (.iconst (-1), 1) := by decide +kernel
theorem dX5_kindly_20 : decode cX5_kindly 20 = .ok (.ireturn, 1) := by decide +kernel
theorem dX5_kindly_21 : decode cX5_kindly 21 = .ok (.aload_n 0, 1) := by decide +kernel
theorem dX5_kindly_22 : decode cX5_kindly 22 = .ok (.getfield 23, 3) := by decide +kernel
theorem dX5_kindly_25 : decode cX5_kindly 25 = .ok (.aload_n 0, 1) := by decide +kernel
theorem dX5_kindly_26 : decode cX5_kindly 26 = .ok (.getfield 19, 3) := by decide +kernel
theorem dX5_kindly_29 : decode cX5_kindly 29 = .ok (.invokevirtual 85, 3) := by decide +kernel
theorem dX5_kindly_32 : decode cX5_kindly 32 = .ok (.bipush (-4), 2) := by decide +kernel
theorem dX5_kindly_34 : decode cX5_kindly 34 = .ok (.istore_n 3, 1) := by decide +kernel
theorem dX5_kindly_35 : decode cX5_kindly 35 = .ok (.iconst (-1), 1) := by decide +kernel
theorem dX5_kindly_36 : decode cX5_kindly 36 = .ok (.istore 4, 2) := by decide +kernel
theorem dX5_kindly_38 : decode cX5_kindly 38 = .ok (.iconst 0, 1) := by decide +kernel
theorem dX5_kindly_39 : decode cX5_kindly 39 = .ok (.istore 5, 2) := by decide +kernel
theorem dX5_kindly_41 : decode cX5_kindly 41 = .ok (.iload 5, 2) := by decide +kernel
theorem dX5_kindly_43 : decode cX5_kindly 43 = .ok (.iconst 4, 1) := by decide +kernel
theorem dX5_kindly_44 : decode cX5_kindly 44 = .ok (.if_icmp .ge 43, 3) := by decide +kernel
theorem dX5_kindly_47 : decode cX5_kindly 47 = .ok (.aload_n 0, 1) := by decide +kernel
theorem dX5_kindly_48 : decode cX5_kindly 48 = .ok (.getfield 23, 3) := by decide +kernel
theorem dX5_kindly_51 : decode cX5_kindly 51 = .ok (.getfield 123, 3) := by decide +kernel
theorem dX5_kindly_54 : decode cX5_kindly 54 = .ok (.iload_n 1, 1) := by decide +kernel
theorem dX5_kindly_55 : decode cX5_kindly 55 = .ok (.iload 5, 2) := by decide +kernel
theorem dX5_kindly_57 : decode cX5_kindly 57 = .ok (.iastore, 1) := by decide +kernel
theorem dX5_kindly_58 : decode cX5_kindly 58 = .ok (.aload_n 0, 1) := by decide +kernel
theorem dX5_kindly_59 : decode cX5_kindly 59 = .ok (.getfield 23, 3) := by decide +kernel
theorem dX5_kindly_62 : decode cX5_kindly 62 = .ok (.invokevirtual 207, 3) := by decide +kernel
theorem dX5_kindly_65 : decode cX5_kindly 65 = .ok (.istore 6, 2) := by decide +kernel
theorem dX5_kindly_67 : decode cX5_kindly 67 = .ok (.iload 6, 2) := by decide +kernel
theorem dX5_kindly_69 : decode cX5_kindly 69 = .ok (.iload 4, 2) := by decide +kernel
theorem dX5_kindly_71 : decode cX5_kindly 71 = .ok (.if_icmp .le 10, 3) := by decide +kernel
theorem dX5_kindly_74 : decode cX5_kindly 74 = .ok (.iload 5, 2) := by decide +kernel
theorem dX5_kindly_76 : decode cX5_kindly 76 = .ok (.istore_n 3, 1) := by decide +kernel
theorem dX5_kindly_77 : decode cX5_kindly 77 = .ok (.iload 6, 2) := by decide +kernel
theorem dX5_kindly_79 : decode cX5_kindly 79 = .ok (.istore 4, 2) := by decide +kernel
theorem dX5_kindly_81 : decode cX5_kindly 81 = .ok (.iinc 5 1, 3) := by decide +kernel
theorem dX5_kindly_84 : decode cX5_kindly 84 = .ok (.goto (-43), 3) := by decide +kernel
theorem dX5_kindly_87 : decode cX5_kindly 87 = .ok (.iload_n 2, 1) := by decide +kernel
theorem dX5_kindly_88 : decode cX5_kindly 88 = .ok (.ifCond .ne 7, 3) := by decide +kernel
theorem dX5_kindly_91 : decode cX5_kindly 91 = .ok (.iload_n 3, 1) := by decide +kernel
theorem dX5_kindly_92 : decode cX5_kindly 92 = .ok (.goto 5, 3) := by decide +kernel
theorem dX5_kindly_95 : decode cX5_kindly 95 = .ok (.iload 4, 2) := by decide +kernel
theorem dX5_kindly_97 : decode cX5_kindly 97 = .ok (.ireturn, 1) := by decide +kernel
theorem dX5_dear_0 : decode cX5_dear 0 = .ok (.aload_n 0, 1) := by decide +kernel
theorem dX5_dear_1 : decode cX5_dear 1 = .ok (.getfield 19, 3) := by decide +kernel
theorem dX5_dear_4 : decode cX5_dear 4 = .ok (.iload_n 1, 1) := by decide +kernel
theorem dX5_dear_5 : decode cX5_dear 5 = .ok (.invokevirtual 120, 3) := by decide +kernel
theorem dX5_dear_8 : decode cX5_dear 8 = .ok (.ifCond .eq 11, 3) := by decide +kernel
theorem dX5_dear_11 : decode cX5_dear 11 = .ok (.iload_n 2, 1) := by decide +kernel
theorem dX5_dear_12 : decode cX5_dear 12 = .ok (.iconst 1, 1) := by decide +kernel
theorem dX5_dear_13 : decode cX5_dear 13 = .ok (.invokestatic 52, 3) := by decide +kernel
theorem dX5_dear_16 : decode cX5_dear 16 = .ok (.ifCond .ne 5, 3) := by decide +kernel
theorem dX5_dear_19 : decode cX5_dear 19 = .ok (.iconst (-1), 1) := by decide +kernel
theorem dX5_dear_20 : decode cX5_dear 20 = .ok (.ireturn, 1) := by decide +kernel
theorem dX5_dear_21 : decode cX5_dear 21 = .ok (.aload_n 0, 1) := by decide +kernel
theorem dX5_dear_22 : decode cX5_dear 22 = .ok (.getfield 19, 3) := by decide +kernel
theorem dX5_dear_25 : decode cX5_dear 25 = .ok (.iload_n 1, 1) := by decide +kernel
theorem dX5_dear_26 : decode cX5_dear 26 = .ok (.invokevirtual 191, 3) := by decide +kernel
theorem dX5_dear_29 : decode cX5_dear 29 = .ok (.istore_n 3, 1) := by decide +kernel
theorem dX5_dear_30 : decode cX5_dear 30 = .ok (.aload_n 0, 1) := by decide +kernel
theorem dX5_dear_31 : decode cX5_dear 31 = .ok (.getfield 19, 3) := by decide +kernel
theorem dX5_dear_34 : decode cX5_dear 34 = .ok (.iload_n 1, 1) := by decide +kernel
theorem dX5_dear_35 : decode cX5_dear 35 = .ok (.aload_n 0, 1) := by decide +kernel
theorem dX5_dear_36 : decode cX5_dear 36 = .ok (.getfield 19, 3) := by decide +kernel
theorem dX5_dear_39 : decode cX5_dear 39 = .ok (.iload_n 1, 1) := by decide +kernel
theorem dX5_dear_40 : decode cX5_dear 40 = .ok (.invokevirtual 135, 3) := by decide +kernel
theorem dX5_dear_43 : decode cX5_dear 43 = .ok (.invokevirtual 138, 3) := by decide +kernel
theorem dX5_dear_46 : decode cX5_dear 46 = .ok (.istore 4, 2) := by decide +kernel
theorem dX5_dear_48 : decode cX5_dear 48 = .ok (.bipush (-4), 2) := by decide +kernel
theorem dX5_dear_50 : decode cX5_dear 50 = .ok (.istore 5, 2) := by decide +kernel
theorem dX5_dear_52 : decode cX5_dear 52 = .ok (.iconst 0, 1) := by decide +kernel
theorem dX5_dear_53 : decode cX5_dear 53 = .ok (.istore 6, 2) := by decide +kernel
theorem dX5_dear_55 : decode cX5_dear 55 = .ok (.iconst 0, 1) := by decide +kernel
theorem dX5_dear_56 : decode cX5_dear 56 = .ok (.istore 7, 2) := by decide +kernel
theorem dX5_dear_58 : decode cX5_dear 58 = .ok (.iload 7, 2) := by decide +kernel
theorem dX5_dear_60 : decode cX5_dear 60 = .ok (.aload_n 0, 1) := by decide +kernel
theorem dX5_dear_61 : decode cX5_dear 61 = .ok (.getfield 19, 3) := by decide +kernel
theorem dX5_dear_64 : decode cX5_dear 64 = .ok (.getfield 98, 3) := by decide +kernel
theorem dX5_dear_67 : decode cX5_dear 67 = .ok (.if_icmp .ge 61, 3) := by decide +kernel
theorem dX5_dear_70 : decode cX5_dear 70 = .ok (.iload 4, 2) := by decide +kernel
theorem dX5_dear_72 : decode cX5_dear 72 = .ok (.aload_n 0, 1) := by decide +kernel
theorem dX5_dear_73 : decode cX5_dear 73 = .ok (.getfield 19, 3) := by decide +kernel
theorem dX5_dear_76 : decode cX5_dear 76 = .ok (.iload_n 1, 1) := by decide +kernel
theorem dX5_dear_77 : decode cX5_dear 77 = .ok (.aload_n 0, 1) := by decide +kernel
theorem dX5_dear_78 : decode cX5_dear 78 = .ok (.getfield 19, 3) := by decide +kernel
theorem dX5_dear_81 : decode cX5_dear 81 = .ok (.aload_n 0, 1) := by decide +kernel
theorem dX5_dear_82 : decode cX5_dear 82 = .ok (.getfield 19, 3) := by decide +kernel
theorem dX5_dear_85 : decode cX5_dear 85 = .ok (.getfield 129, 3) := by decide +kernel
theorem dX5_dear_88 : decode cX5_dear 88 = .ok (.iload_n 1, 1) := by decide +kernel
theorem dX5_dear_89 : decode cX5_dear 89 = .ok (.iaload, 1) := by decide +kernel
theorem dX5_dear_90 : decode cX5_dear 90 = .ok (.iload_n 3, 1) := by decide +kernel
theorem dX5_dear_91 : decode cX5_dear 91 = .ok (.iconst 1, 1) := by decide +kernel
theorem dX5_dear_92 : decode cX5_dear 92 = .ok (.iload 7, 2) := by decide +kernel
theorem dX5_dear_94 : decode cX5_dear 94 = .ok (.ishl, 1) := by decide +kernel
theorem dX5_dear_95 : decode cX5_dear 95 = .ok (.iconst (-1), 1) := by decide +kernel
theorem dX5_dear_96 : decode cX5_dear 96 = .ok (.ixor, 1) := by decide +kernel
theorem dX5_dear_97 : decode cX5_dear 97 = .ok (.iand, 1) := by decide +kernel
theorem dX5_dear_98 : decode cX5_dear 98 = .ok (.invokevirtual 223, 3) := by decide +kernel
theorem dX5_dear_101 : decode cX5_dear 101 = .ok (.invokevirtual 138, 3) := by decide +kernel
theorem dX5_dear_104 : decode cX5_dear 104 = .ok (.isub, 1) := by decide +kernel
theorem dX5_dear_105 : decode cX5_dear 105 = .ok (.istore 8, 2) := by decide +kernel
theorem dX5_dear_107 : decode cX5_dear 107 = .ok (.iload 8, 2) := by decide +kernel
theorem dX5_dear_109 : decode cX5_dear 109 = .ok (.iload 6, 2) := by decide +kernel
theorem dX5_dear_111 : decode cX5_dear 111 = .ok (.if_icmp .le 11, 3) := by decide +kernel
theorem dX5_dear_114 : decode cX5_dear 114 = .ok (.iload 7, 2) := by decide +kernel
theorem dX5_dear_116 : decode cX5_dear 116 = .ok (.istore 5, 2) := by decide +kernel
theorem dX5_dear_118 : decode cX5_dear 118 = .ok (.iload 8, 2) := by decide +kernel
theorem dX5_dear_120 : decode cX5_dear 120 = .ok (.istore 6, 2) := by decide +kernel
theorem dX5_dear_122 : decode cX5_dear 122 = .ok (.iinc 7 1, 3) := by decide +kernel
theorem dX5_dear_125 : decode cX5_dear 125 = .ok (.goto (-67), 3) := by decide +kernel
theorem dX5_dear_128 : decode cX5_dear 128 = .ok (.iload 5, 2) := by decide +kernel
theorem dX5_dear_130 : decode cX5_dear 130 = .ok (.bipush (-4), 2) := by decide +kernel
theorem dX5_dear_132 : decode cX5_dear 132 = .ok (.if_icmp .eq 7, 3) := by decide +kernel
theorem dX5_dear_135 : decode cX5_dear 135 = .ok (.iload_n 2, 1) := by decide +kernel
theorem dX5_dear_136 : decode cX5_dear 136 = .ok (.ifCond .ne 8, 3) := by decide +kernel
theorem dX5_dear_139 : decode cX5_dear 139 = .ok (.iload 5, 2) := by decide +kernel
theorem dX5_dear_141 : decode cX5_dear 141 = .ok (.goto 5, 3) := by decide +kernel
theorem dX5_dear_144 : decode cX5_dear 144 = .ok (.iload 6, 2) := by decide +kernel
theorem dX5_dear_146 : decode cX5_dear 146 = .ok (.ireturn, 1) := by decide +kernel
theorem dX5_luck_0 : decode cX5_luck 0 = .ok (.iload_n 1, 1) := by decide +kernel
theorem dX5_luck_1 : decode cX5_luck 1 = .ok (.bipush 10, 2) := by decide +kernel
theorem dX5_luck_3 : decode cX5_luck 3 = .ok (.invokestatic 52, 3) := by decide +kernel
theorem dX5_luck_6 : decode cX5_luck 6 = .ok (.ifCond .eq 30, 3) := by decide +kernel
theorem dX5_luck_9 : decode cX5_luck 9 = .ok (.aload_n 0, 1) := by decide +kernel
theorem dX5_luck_10 : decode cX5_luck 10 = .ok (.getfield 19, 3) := by decide +kernel
theorem dX5_luck_13 : decode cX5_luck 13 = .ok (.iload_n 2, 1) := by decide +kernel
theorem dX5_luck_14 : decode cX5_luck 14 = .ok (.invokevirtual 120, 3) := by decide +kernel
theorem dX5_luck_17 : decode cX5_luck 17 = .ok (.ifCond .eq 19, 3) := by decide +kernel
theorem dX5_luck_20 : decode cX5_luck 20 = .ok (.iload_n 3, 1) := by decide +kernel
theorem dX5_luck_21 : decode cX5_luck 21 = .ok (.invokestatic 160, 3) := by decide +kernel
theorem dX5_luck_24 : decode cX5_luck 24 = .ok (.ifCond .eq 12, 3) := by decide +kernel
theorem dX5_luck_27 : decode cX5_luck 27 = .ok (.iload 4, 2) := by decide +kernel
theorem dX5_luck_29 : decode cX5_luck 29 = .ok (.iconst 1, 1) := by decide +kernel
theorem dX5_luck_30 : decode cX5_luck 30 = .ok (.invokestatic 52, 3) := by decide +kernel
theorem dX5_luck_33 : decode cX5_luck 33 = .ok (.ifCond .ne 7, 3) := by decide +kernel
theorem dX5_luck_36 : decode cX5_luck 36 = .ok (.ldc2_w 226, 3) := by decide +kernel
theorem dX5_luck_39 : decode cX5_luck 39 = .ok (.lreturn, 1) := by decide +kernel
theorem dX5_luck_40 : decode cX5_luck 40 = .ok (.aload_n 0, 1) := by decide +kernel
theorem dX5_luck_41 : decode cX5_luck 41 = .ok (.getfield 19, 3) := by decide +kernel
theorem dX5_luck_44 : decode cX5_luck 44 = .ok (.iload_n 1, 1) := by decide +kernel
theorem dX5_luck_45 : decode cX5_luck 45 = .ok (.iload_n 2, 1) := by decide +kernel
theorem dX5_luck_46 : decode cX5_luck 46 = .ok (.iconst 1, 1) := by decide +kernel
theorem dX5_luck_47 : decode cX5_luck 47 = .ok (.iload_n 3, 1) := by decide +kernel
theorem dX5_luck_48 : decode cX5_luck 48 = .ok (.ishl, 1) := by decide +kernel
theorem dX5_luck_49 : decode cX5_luck 49 = .ok (.invokevirtual 228, 3) := by decide +kernel
theorem dX5_luck_52 : decode cX5_luck 52 = .ok (.aload_n 0, 1) := by decide +kernel
theorem dX5_luck_53 : decode cX5_luck 53 = .ok (.getfield 19, 3) := by decide +kernel
theorem dX5_luck_56 : decode cX5_luck 56 = .ok (.invokevirtual 232, 3) := by decide +kernel
theorem dX5_luck_59 : decode cX5_luck 59 = .ok (.iload 4, 2) := by decide +kernel
theorem dX5_luck_61 : decode cX5_luck 61 = .ok (.invokestatic 236, 3) := by decide +kernel
theorem dX5_luck_64 : decode cX5_luck 64 = .ok (.lreturn, 1) := by decide +kernel
theorem dX5_mean_0 : decode cX5_mean 0 = .ok (.iload_n 1, 1) := by decide +kernel
theorem dX5_mean_1 : decode cX5_mean 1 = .ok (.bipush 10, 2) := by decide +kernel
theorem dX5_mean_3 : decode cX5_mean 3 = .ok (.invokestatic 52, 3) := by decide +kernel
theorem dX5_mean_6 : decode cX5_mean 6 = .ok (.ifCond .eq 22, 3) := by decide +kernel
theorem dX5_mean_9 : decode cX5_mean 9 = .ok (.aload_n 0, 1) := by decide +kernel
theorem dX5_mean_10 : decode cX5_mean 10 = .ok (.getfield 19, 3) := by decide +kernel
theorem dX5_mean_13 : decode cX5_mean 13 = .ok (.iload_n 2, 1) := by decide +kernel
theorem dX5_mean_14 : decode cX5_mean 14 = .ok (.invokevirtual 120, 3) := by decide +kernel
theorem dX5_mean_17 : decode cX5_mean 17 = .ok (.ifCond .eq 11, 3) := by decide +kernel
theorem dX5_mean_20 : decode cX5_mean 20 = .ok (.iload_n 3, 1) := by decide +kernel
theorem dX5_mean_21 : decode cX5_mean 21 = .ok (.iconst 1, 1) := by decide +kernel
theorem dX5_mean_22 : decode cX5_mean 22 = .ok (.invokestatic 52, 3) := by decide +kernel
theorem dX5_mean_25 : decode cX5_mean 25 = .ok (.ifCond .ne 7, 3) := by decide +kernel
theorem dX5_mean_28 : decode cX5_mean 28 = .ok (.ldc2_w 226, 3) := by decide +kernel
theorem dX5_mean_31 : decode cX5_mean 31 = .ok (.lreturn, 1) := by decide +kernel
theorem dX5_mean_32 : decode cX5_mean 32 = .ok (.aload_n 0, 1) := by decide +kernel
theorem dX5_mean_33 : decode cX5_mean 33 = .ok (.getfield 19, 3) := by decide +kernel
theorem dX5_mean_36 : decode cX5_mean 36 = .ok (.iload_n 1, 1) := by decide +kernel
theorem dX5_mean_37 : decode cX5_mean 37 = .ok (.iload_n 2, 1) := by decide +kernel
theorem dX5_mean_38 : decode cX5_mean 38 = .ok (.sipush 255, 3) := by decide +kernel
theorem dX5_mean_41 : decode cX5_mean 41 = .ok (.invokevirtual 228, 3) := by decide +kernel
theorem dX5_mean_44 : decode cX5_mean 44 = .ok (.aload_n 0, 1) := by decide +kernel
theorem dX5_mean_45 : decode cX5_mean 45 = .ok (.getfield 19, 3) := by decide +kernel
theorem dX5_mean_48 : decode cX5_mean 48 = .ok (.invokevirtual 232, 3) := by decide +kernel
theorem dX5_mean_51 : decode cX5_mean 51 = .ok (.iload_n 3, 1) := by decide +kernel
theorem dX5_mean_52 : decode cX5_mean 52 = .ok (.invokestatic 236, 3) := by decide +kernel
theorem dX5_mean_55 : decode cX5_mean 55 = .ok (.lreturn, 1) := by decide +kernel
theorem dX5_see_0 : decode cX5_see 0 = .ok (.aload_n 0, 1) := by decide +kernel
theorem dX5_see_1 : decode cX5_see 1 = .ok (.getfield 19, 3) := by decide +kernel
theorem dX5_see_4 : decode cX5_see 4 = .ok (.iload_n 1, 1) := by decide +kernel
theorem dX5_see_5 : decode cX5_see 5 = .ok (.invokevirtual 120, 3) := by decide +kernel
theorem dX5_see_8 : decode cX5_see 8 = .ok (.ifCond .eq 10, 3) := by decide +kernel
theorem dX5_see_11 : decode cX5_see 11 = .ok (.iload_n 2, 1) := by decide +kernel
theorem dX5_see_12 : decode cX5_see 12 = .ok (.invokestatic 160, 3) := by decide +kernel
theorem dX5_see_15 : decode cX5_see 15 = .ok (.ifCond .ne 5, 3) := by decide +kernel
theorem dX5_see_18 : decode cX5_see 18 = .ok (.iconst (-1), 1) := by decide +kernel
theorem dX5_see_19 : decode cX5_see 19 = .ok (.ireturn, 1) := by decide +kernel
theorem dX5_see_20 : decode cX5_see 20 = .ok (.aload_n 0, 1) := by decide +kernel
theorem dX5_see_21 : decode cX5_see 21 = .ok (.getfield 29, 3) := by decide +kernel
theorem dX5_see_24 : decode cX5_see 24 = .ok (.iload_n 1, 1) := by decide +kernel
theorem dX5_see_25 : decode cX5_see 25 = .ok (.iload_n 2, 1) := by decide +kernel
theorem dX5_see_26 : decode cX5_see 26 = .ok (.iload_n 3, 1) := by decide +kernel
theorem dX5_see_27 : decode cX5_see 27 = .ok (.invokevirtual 240, 3) := by decide +kernel
theorem dX5_see_30 : decode cX5_see 30 = .ok (.ifCond .eq 13, 3) := by decide +kernel
theorem dX5_see_33 : decode cX5_see 33 = .ok (.aload_n 0, 1) := by decide +kernel
theorem dX5_see_34 : decode cX5_see 34 = .ok (.getfield 29, 3) := by decide +kernel
theorem dX5_see_37 : decode cX5_see 37 = .ok (.getfield 89, 3) := by decide +kernel
theorem dX5_see_40 : decode cX5_see 40 = .ok (.goto 5, 3) := by decide +kernel
theorem dX5_see_43 : decode cX5_see 43 = .ok (.bipush (-3), 2) := by decide +kernel
theorem dX5_see_45 : decode cX5_see 45 = .ok (.ireturn, 1) := by decide +kernel
theorem dX5_forget_0 : decode cX5_forget 0 = .ok (.aload_n 0, 1) := by decide +kernel
theorem dX5_forget_1 : decode cX5_forget 1 = .ok (.getfield 29, 3) := by decide +kernel
theorem dX5_forget_4 : decode cX5_forget 4 = .ok (.getfield 89, 3) := by decide +kernel
theorem dX5_forget_7 : decode cX5_forget 7 = .ok (.istore_n 2, 1) := by decide +kernel
theorem dX5_forget_8 : decode cX5_forget 8 = .ok (.iload_n 1, 1) := by decide +kernel
theorem dX5_forget_9 : decode cX5_forget 9 = .ok (.iload_n 2, 1) := by decide +kernel
theorem dX5_forget_10 : decode cX5_forget 10 = .ok (.invokestatic 52, 3) := by decide +kernel
theorem dX5_forget_13 : decode cX5_forget 13 = .ok (.ifCond .ne 5, 3) := by decide +kernel
theorem dX5_forget_16 : decode cX5_forget 16 = .ok (.iconst (-1), 1) := by decide +kernel
theorem dX5_forget_17 : decode cX5_forget 17 = .ok (.ireturn, 1) := by decide +kernel
theorem dX5_forget_18 : decode cX5_forget 18 = .ok (.aload_n 0, 1) := by decide +kernel
theorem dX5_forget_19 : decode cX5_forget 19 = .ok (.getfield 29, 3) := by decide +kernel
theorem dX5_forget_22 : decode cX5_forget 22 = .ok (.iload_n 1, 1) := by decide +kernel
theorem dX5_forget_23 : decode cX5_forget 23 = .ok (.putfield 89, 3) := by decide +kernel
theorem dX5_forget_26 : decode cX5_forget 26 = .ok (.iload_n 2, 1) := by decide +kernel
theorem dX5_forget_27 : decode cX5_forget 27 = .ok (.ireturn, 1) := by decide +kernel
theorem dX5_kinds_0 : decode cX5_kinds 0 = .ok (.aload_n 0, 1) := by decide +kernel
theorem dX5_kinds_1 : decode cX5_kinds 1 = .ok (.getfield 19, 3) := by decide +kernel
theorem dX5_kinds_4 : decode cX5_kinds 4 = .ok (.iload_n 1, 1) := by decide +kernel
theorem dX5_kinds_5 : decode cX5_kinds 5 = .ok (.invokevirtual 120, 3) := by decide +kernel
theorem dX5_kinds_8 : decode cX5_kinds 8 = .ok (.ifCond .ne 5, 3) := by decide +kernel
theorem dX5_kinds_11 : decode cX5_kinds 11 = .ok (.iconst (-1), 1) := by decide +kernel
theorem dX5_kinds_12 : decode cX5_kinds 12 = .ok (.ireturn, 1) := by decide +kernel
theorem dX5_kinds_13 : decode cX5_kinds 13 = .ok (.aload_n 0, 1) := by decide +kernel
theorem dX5_kinds_14 : decode cX5_kinds 14 = .ok (.getfield 23, 3) := by decide +kernel
theorem dX5_kinds_17 : decode cX5_kinds 17 = .ok (.aload_n 0, 1) := by decide +kernel
theorem dX5_kinds_18 : decode cX5_kinds 18 = .ok (.getfield 19, 3) := by decide +kernel
theorem dX5_kinds_21 : decode cX5_kinds 21 = .ok (.invokevirtual 85, 3) := by decide +kernel
theorem dX5_kinds_24 : decode cX5_kinds 24 = .ok (.iconst 0, 1) := by decide +kernel
theorem dX5_kinds_25 : decode cX5_kinds 25 = .ok (.istore_n 2, 1) := by decide +kernel
theorem dX5_kinds_26 : decode cX5_kinds 26 = .ok (.iconst 0, 1) := by decide +kernel
theorem dX5_kinds_27 : decode cX5_kinds 27 = .ok (.istore_n 3, 1) := by decide +kernel
theorem dX5_kinds_28 : decode cX5_kinds 28 = .ok (.iload_n 3, 1) := by decide +kernel
theorem dX5_kinds_29 : decode cX5_kinds 29 = .ok (.iconst 4, 1) := by decide +kernel
theorem dX5_kinds_30 : decode cX5_kinds 30 = .ok (.if_icmp .ge 39, 3) := by decide +kernel
theorem dX5_kinds_33 : decode cX5_kinds 33 = .ok (.aload_n 0, 1) := by decide +kernel
theorem dX5_kinds_34 : decode cX5_kinds 34 = .ok (.getfield 23, 3) := by decide +kernel
theorem dX5_kinds_37 : decode cX5_kinds 37 = .ok (.getfield 123, 3) := by decide +kernel
theorem dX5_kinds_40 : decode cX5_kinds 40 = .ok (.iload_n 1, 1) := by decide +kernel
theorem dX5_kinds_41 : decode cX5_kinds 41 = .ok (.iload_n 3, 1) := by decide +kernel
theorem dX5_kinds_42 : decode cX5_kinds 42 = .ok (.iastore, 1) := by decide +kernel
theorem dX5_kinds_43 : decode cX5_kinds 43 = .ok (.aload_n 0, 1) := by decide +kernel
theorem dX5_kinds_44 : decode cX5_kinds 44 = .ok (.getfield 29, 3) := by decide +kernel
theorem dX5_kinds_47 : decode cX5_kinds 47 = .ok (.aload_n 0, 1) := by decide +kernel
theorem dX5_kinds_48 : decode cX5_kinds 48 = .ok (.getfield 23, 3) := by decide +kernel
theorem dX5_kinds_51 : decode cX5_kinds 51 = .ok (.invokevirtual 244, 3) := by decide +kernel
theorem dX5_kinds_54 : decode cX5_kinds 54 = .ok (.ifCond .eq 9, 3) := by decide +kernel
theorem dX5_kinds_57 : decode cX5_kinds 57 = .ok (.iload_n 2, 1) := by decide +kernel
theorem dX5_kinds_58 : decode cX5_kinds 58 = .ok (.iconst 1, 1) := by decide +kernel
theorem dX5_kinds_59 : decode cX5_kinds 59 = .ok (.iload_n 3, 1) := by decide +kernel
theorem dX5_kinds_60 : decode cX5_kinds 60 = .ok (.ishl, 1) := by decide +kernel
theorem dX5_kinds_61 : decode cX5_kinds 61 = .ok (.ior, 1) := by decide +kernel
theorem dX5_kinds_62 : decode cX5_kinds 62 = .ok (.istore_n 2, 1) := by decide +kernel
theorem dX5_kinds_63 : decode cX5_kinds 63 = .ok (.iinc 3 1, 3) := by decide +kernel
theorem dX5_kinds_66 : decode cX5_kinds 66 = .ok (.goto (-38), 3) := by decide +kernel
theorem dX5_kinds_69 : decode cX5_kinds 69 = .ok (.iload_n 2, 1) := by decide +kernel
theorem dX5_kinds_70 : decode cX5_kinds 70 = .ok (.ireturn, 1) := by decide +kernel
theorem dX5_walls_0 : decode cX5_walls 0 = .ok (.aload_n 0, 1) := by decide +kernel
theorem dX5_walls_1 : decode cX5_walls 1 = .ok (.getfield 19, 3) := by decide +kernel
theorem dX5_walls_4 : decode cX5_walls 4 = .ok (.iload_n 1, 1) := by decide +kernel
theorem dX5_walls_5 : decode cX5_walls 5 = .ok (.invokevirtual 120, 3) := by decide +kernel
theorem dX5_walls_8 : decode cX5_walls 8 = .ok (.ifCond .eq 11, 3) := by decide +kernel
theorem dX5_walls_11 : decode cX5_walls 11 = .ok (.aload_n 0, 1) := by decide +kernel
theorem dX5_walls_12 : decode cX5_walls 12 = .ok (.iload_n 1, 1) := by decide +kernel
theorem dX5_walls_13 : decode cX5_walls 13 = .ok (.invokevirtual 248, 3) := by decide +kernel
theorem dX5_walls_16 : decode cX5_walls 16 = .ok (.goto 4, 3) := by decide +kernel
theorem dX5_walls_19 : decode cX5_walls 19 = .ok (.iconst (-1), 1) := by decide +kernel
theorem dX5_walls_20 : decode cX5_walls 20 = .ok (.ireturn, 1) := by decide +kernel
theorem dX5_ask_0 : decode cX5_ask 0 = .ok (.aload_n 0, 1) := by decide +kernel
theorem dX5_ask_1 : decode cX5_ask 1 = .ok (.getfield 19, 3) := by decide +kernel
theorem dX5_ask_4 : decode cX5_ask 4 = .ok (.iload_n 1, 1) := by decide +kernel
theorem dX5_ask_5 : decode cX5_ask 5 = .ok (.invokevirtual 120, 3) := by decide +kernel
theorem dX5_ask_8 : decode cX5_ask 8 = .ok (.ifCond .eq 11, 3) := by decide +kernel
theorem dX5_ask_11 : decode cX5_ask 11 = .ok (.iload_n 2, 1) := by decide +kernel
theorem dX5_ask_12 : decode cX5_ask 12 = .ok (.iconst 1, 1) := by decide +kernel
theorem dX5_ask_13 : decode cX5_ask 13 = .ok (.invokestatic 52, 3) := by decide +kernel
theorem dX5_ask_16 : decode cX5_ask 16 = .ok (.ifCond .ne 5, 3) := by decide +kernel
theorem dX5_ask_19 : decode cX5_ask 19 = .ok (.iconst (-1), 1) := by decide +kernel
theorem dX5_ask_20 : decode cX5_ask 20 = .ok (.ireturn, 1) := by decide +kernel
theorem dX5_ask_21 : decode cX5_ask 21 = .ok (.aload_n 0, 1) := by decide +kernel
theorem dX5_ask_22 : decode cX5_ask 22 = .ok (.iload_n 1, 1) := by decide +kernel
theorem dX5_ask_23 : decode cX5_ask 23 = .ok (.invokevirtual 248, 3) := by decide +kernel
theorem dX5_ask_26 : decode cX5_ask 26 = .ok (.istore_n 3, 1) := by decide +kernel
theorem dX5_ask_27 : decode cX5_ask 27 = .ok (.iload_n 3, 1) := by decide +kernel
theorem dX5_ask_28 : decode cX5_ask 28 = .ok (.invokestatic 105, 3) := by decide +kernel
theorem dX5_ask_31 : decode cX5_ask 31 = .ok (.istore 4, 2) := by decide +kernel
theorem dX5_ask_33 : decode cX5_ask 33 = .ok (.bipush (-4), 2) := by decide +kernel
theorem dX5_ask_35 : decode cX5_ask 35 = .ok (.istore 5, 2) := by decide +kernel
theorem dX5_ask_37 : decode cX5_ask 37 = .ok (.iload 4, 2) := by decide +kernel
theorem dX5_ask_39 : decode cX5_ask 39 = .ok (.istore 6, 2) := by decide +kernel
theorem dX5_ask_41 : decode cX5_ask 41 = .ok (.iconst 0, 1) := by decide +kernel
theorem dX5_ask_42 : decode cX5_ask 42 = .ok (.istore 7, 2) := by decide +kernel
theorem dX5_ask_44 : decode cX5_ask 44 = .ok (.iload 7, 2) := by decide +kernel
theorem dX5_ask_46 : decode cX5_ask 46 = .ok (.aload_n 0, 1) := by decide +kernel
theorem dX5_ask_47 : decode cX5_ask 47 = .ok (.getfield 19, 3) := by decide +kernel
theorem dX5_ask_50 : decode cX5_ask 50 = .ok (.getfield 95, 3) := by decide +kernel
theorem dX5_ask_53 : decode cX5_ask 53 = .ok (.if_icmp .ge 76, 3) := by decide +kernel
theorem dX5_ask_56 : decode cX5_ask 56 = .ok (.aload_n 0, 1) := by decide +kernel
theorem dX5_ask_57 : decode cX5_ask 57 = .ok (.iload_n 1, 1) := by decide +kernel
theorem dX5_ask_58 : decode cX5_ask 58 = .ok (.iload_n 3, 1) := by decide +kernel
theorem dX5_ask_59 : decode cX5_ask 59 = .ok (.iload 7, 2) := by decide +kernel
theorem dX5_ask_61 : decode cX5_ask 61 = .ok (.invokevirtual 251, 3) := by decide +kernel
theorem dX5_ask_64 : decode cX5_ask 64 = .ok (.iconst 0, 1) := by decide +kernel
theorem dX5_ask_65 : decode cX5_ask 65 = .ok (.istore 8, 2) := by decide +kernel
theorem dX5_ask_67 : decode cX5_ask 67 = .ok (.iload 8, 2) := by decide +kernel
theorem dX5_ask_69 : decode cX5_ask 69 = .ok (.bipush 8, 2) := by decide +kernel
theorem dX5_ask_71 : decode cX5_ask 71 = .ok (.if_icmp .ge 52, 3) := by decide +kernel
theorem dX5_ask_74 : decode cX5_ask 74 = .ok (.aload_n 0, 1) := by decide +kernel
theorem dX5_ask_75 : decode cX5_ask 75 = .ok (.getfield 48, 3) := by decide +kernel
theorem dX5_ask_78 : decode cX5_ask 78 = .ok (.iload 8, 2) := by decide +kernel
theorem dX5_ask_80 : decode cX5_ask 80 = .ok (.iaload, 1) := by decide +kernel
theorem dX5_ask_81 : decode cX5_ask 81 = .ok (.iload 4, 2) := by decide +kernel
theorem dX5_ask_83 : decode cX5_ask 83 = .ok (.aload_n 0, 1) := by decide +kernel
theorem dX5_ask_84 : decode cX5_ask 84 = .ok (.getfield 48, 3) := by decide +kernel
theorem dX5_ask_87 : decode cX5_ask 87 = .ok (.iload 8, 2) := by decide +kernel
theorem dX5_ask_89 : decode cX5_ask 89 = .ok (.iaload, 1) := by decide +kernel
theorem dX5_ask_90 : decode cX5_ask 90 = .ok (.isub, 1) := by decide +kernel
theorem dX5_ask_91 : decode cX5_ask 91 = .ok (.invokestatic 255, 3) := by decide +kernel
theorem dX5_ask_94 : decode cX5_ask 94 = .ok (.istore 9, 2) := by decide +kernel
theorem dX5_ask_96 : decode cX5_ask 96 = .ok (.iload 9, 2) := by decide +kernel
theorem dX5_ask_98 : decode cX5_ask 98 = .ok (.iload 6, 2) := by decide +kernel
theorem dX5_ask_100 : decode cX5_ask 100 = .ok (.if_icmp .ge 17, 3) := by decide +kernel
theorem dX5_ask_103 : decode cX5_ask 103 = .ok (.bipush 10, 2) := by decide +kernel
theorem dX5_ask_105 : decode cX5_ask 105 = .ok (.iload 7, 2) := by decide +kernel
theorem dX5_ask_107 : decode cX5_ask 107 = .ok (.imul, 1) := by decide +kernel
theorem dX5_ask_108 : decode cX5_ask 108 = .ok (.iload 8, 2) := by decide +kernel
theorem dX5_ask_110 : decode cX5_ask 110 = .ok (.iadd, 1) := by decide +kernel
theorem dX5_ask_111 : decode cX5_ask 111 = .ok (.istore 5, 2) := by decide +kernel
theorem dX5_ask_113 : decode cX5_ask 113 = .ok (.iload 9, 2) := by decide +kernel
theorem dX5_ask_115 : decode cX5_ask 115 = .ok (.istore 6, 2) := by decide +kernel
theorem dX5_ask_117 : decode cX5_ask 117 = .ok (.iinc 8 1, 3) := by decide +kernel
theorem dX5_ask_120 : decode cX5_ask 120 = .ok (.goto (-53), 3) := by decide +kernel
theorem dX5_ask_123 : decode cX5_ask 123 = .ok (.iinc 7 1, 3) := by decide +kernel
theorem dX5_ask_126 : decode cX5_ask 126 = .ok (.goto (-82), 3) := by decide +kernel
theorem dX5_ask_129 : decode cX5_ask 129 = .ok (.iload 5, 2) := by decide +kernel
theorem dX5_ask_131 : decode cX5_ask 131 = .ok (.bipush (-4), 2) := by decide +kernel
theorem dX5_ask_133 : decode cX5_ask 133 = .ok (.if_icmp .eq 7, 3) := by decide +kernel
theorem dX5_ask_136 : decode cX5_ask 136 = .ok (.iload_n 2, 1) := by decide +kernel
theorem dX5_ask_137 : decode cX5_ask 137 = .ok (.ifCond .ne 8, 3) := by decide +kernel
theorem dX5_ask_140 : decode cX5_ask 140 = .ok (.iload 5, 2) := by decide +kernel
theorem dX5_ask_142 : decode cX5_ask 142 = .ok (.goto 5, 3) := by decide +kernel
theorem dX5_ask_145 : decode cX5_ask 145 = .ok (.iload 6, 2) := by decide +kernel
theorem dX5_ask_147 : decode cX5_ask 147 = .ok (.ireturn, 1) := by decide +kernel
theorem dX5_drift_0 : decode cX5_drift 0 = .ok (.iload_n 2, 1) := by decide +kernel
theorem dX5_drift_1 : decode cX5_drift 1 = .ok (.iconst 1, 1) := by decide +kernel
theorem dX5_drift_2 : decode cX5_drift 2 = .ok (.if_icmp .lt 17, 3) := by decide +kernel
theorem dX5_drift_5 : decode cX5_drift 5 = .ok (.iload_n 2, 1) := by decide +kernel
theorem dX5_drift_6 : decode cX5_drift 6 = .ok (.bipush 60, 2) := by decide +kernel
theorem dX5_drift_8 : decode cX5_drift 8 = .ok (.if_icmp .gt 11, 3) := by decide +kernel
theorem dX5_drift_11 : decode cX5_drift 11 = .ok (.iload_n 3, 1) := by decide +kernel
theorem dX5_drift_12 : decode cX5_drift 12 = .ok (.iconst 1, 1) := by decide +kernel
theorem dX5_drift_13 : decode cX5_drift 13 = .ok (.invokestatic 52, 3) := by decide +kernel
theorem dX5_drift_16 : decode cX5_drift 16 = .ok (.ifCond .ne 5, 3) := by decide +kernel
theorem dX5_drift_19 : decode cX5_drift 19 = .ok (.iconst (-1), 1) := by decide +kernel
theorem dX5_drift_20 : decode cX5_drift 20 = .ok (.ireturn, 1) := by decide +kernel
theorem dX5_drift_21 : decode cX5_drift 21 = .ok (.aload_n 0, 1) := by decide +kernel
theorem dX5_drift_22 : decode cX5_drift 22 = .ok (.getfield 19, 3) := by decide +kernel
theorem dX5_drift_25 : decode cX5_drift 25 = .ok (.getfield 95, 3) := by decide +kernel
theorem dX5_drift_28 : decode cX5_drift 28 = .ok (.ifCond .eq 13, 3) := by decide +kernel
theorem dX5_drift_31 : decode cX5_drift 31 = .ok (.aload_n 0, 1) := by decide +kernel
theorem dX5_drift_32 : decode cX5_drift 32 = .ok (.getfield 19, 3) := by decide +kernel
theorem dX5_drift_35 : decode cX5_drift 35 = .ok (.getfield 98, 3) := by decide +kernel
theorem dX5_drift_38 : decode cX5_drift 38 = .ok (.ifCond .ne 6, 3) := by decide +kernel
theorem dX5_drift_41 : decode cX5_drift 41 = .ok (.bipush (-2), 2) := by decide +kernel
theorem dX5_drift_43 : decode cX5_drift 43 = .ok (.ireturn, 1) := by decide +kernel
theorem dX5_drift_44 : decode cX5_drift 44 = .ok (.aload_n 0, 1) := by decide +kernel
theorem dX5_drift_45 : decode cX5_drift 45 = .ok (.getfield 23, 3) := by decide +kernel
theorem dX5_drift_48 : decode cX5_drift 48 = .ok (.aload_n 0, 1) := by decide +kernel
theorem dX5_drift_49 : decode cX5_drift 49 = .ok (.getfield 19, 3) := by decide +kernel
theorem dX5_drift_52 : decode cX5_drift 52 = .ok (.invokevirtual 85, 3) := by decide +kernel
theorem dX5_drift_55 : decode cX5_drift 55 = .ok (.iload_n 1, 1) := by decide +kernel
theorem dX5_drift_56 : decode cX5_drift 56 = .ok (.istore 4, 2) := by decide +kernel
theorem dX5_drift_58 : decode cX5_drift 58 = .ok (.iconst 0, 1) := by decide +kernel
theorem dX5_drift_59 : decode cX5_drift 59 = .ok (.istore 5, 2) := by decide +kernel
theorem dX5_drift_61 : decode cX5_drift 61 = .ok (.iload 5, 2) := by decide +kernel
theorem dX5_drift_63 : decode cX5_drift 63 = .ok (.iload_n 2, 1) := by decide +kernel
theorem dX5_drift_64 : decode cX5_drift 64 = .ok (.if_icmp .ge 37, 3) := by decide +kernel
theorem dX5_drift_67 : decode cX5_drift 67 = .ok (.iload 4, 2) := by decide +kernel
theorem dX5_drift_69 : decode cX5_drift 69 = .ok (.ldc_w 260, 3) := by decide +kernel
theorem dX5_drift_72 : decode cX5_drift 72 = .ok (.imul, 1) := by decide +kernel
theorem dX5_drift_73 : decode cX5_drift 73 = .ok (.sipush 12345, 3) := by decide +kernel
theorem dX5_drift_76 : decode cX5_drift 76 = .ok (.iadd, 1) := by decide +kernel
theorem dX5_drift_77 : decode cX5_drift 77 = .ok (.istore 4, 2) := by decide +kernel
theorem dX5_drift_79 : decode cX5_drift 79 = .ok (.aload_n 0, 1) := by decide +kernel
theorem dX5_drift_80 : decode cX5_drift 80 = .ok (.getfield 23, 3) := by decide +kernel
theorem dX5_drift_83 : decode cX5_drift 83 = .ok (.iload 4, 2) := by decide +kernel
theorem dX5_drift_85 : decode cX5_drift 85 = .ok (.bipush 16, 2) := by decide +kernel
theorem dX5_drift_87 : decode cX5_drift 87 = .ok (.iushr, 1) := by decide +kernel
theorem dX5_drift_88 : decode cX5_drift 88 = .ok (.sipush 32767, 3) := by decide +kernel
theorem dX5_drift_91 : decode cX5_drift 91 = .ok (.iand, 1) := by decide +kernel
theorem dX5_drift_92 : decode cX5_drift 92 = .ok (.invokevirtual 261, 3) := by decide +kernel
theorem dX5_drift_95 : decode cX5_drift 95 = .ok (.iinc 5 1, 3) := by decide +kernel
theorem dX5_drift_98 : decode cX5_drift 98 = .ok (.goto (-37), 3) := by decide +kernel
theorem dX5_drift_101 : decode cX5_drift 101 = .ok (.iload_n 3, 1) := by decide +kernel
theorem dX5_drift_102 : decode cX5_drift 102 = .ok (.ifCond .ne 13, 3) := by decide +kernel
theorem dX5_drift_105 : decode cX5_drift 105 = .ok (.aload_n 0, 1) := by decide +kernel
theorem dX5_drift_106 : decode cX5_drift 106 = .ok (.getfield 23, 3) := by decide +kernel
theorem dX5_drift_109 : decode cX5_drift 109 = .ok (.invokevirtual 207, 3) := by decide +kernel
theorem dX5_drift_112 : decode cX5_drift 112 = .ok (.goto 13, 3) := by decide +kernel
theorem dX5_drift_115 : decode cX5_drift 115 = .ok (.aload_n 0, 1) := by decide +kernel
theorem dX5_drift_116 : decode cX5_drift 116 = .ok (.getfield 23, 3) := by decide +kernel
theorem dX5_drift_119 : decode cX5_drift 119 = .ok (.invokevirtual 101, 3) := by decide +kernel
theorem dX5_drift_122 : decode cX5_drift 122 = .ok (.invokestatic 105, 3) := by decide +kernel
theorem dX5_drift_125 : decode cX5_drift 125 = .ok (.ireturn, 1) := by decide +kernel
theorem dX5_keep_0 : decode cX5_keep 0 = .ok (.iload_n 1, 1) := by decide +kernel
theorem dX5_keep_1 : decode cX5_keep 1 = .ok (.iconst 1, 1) := by decide +kernel
theorem dX5_keep_2 : decode cX5_keep 2 = .ok (.invokestatic 52, 3) := by decide +kernel
theorem dX5_keep_5 : decode cX5_keep 5 = .ok (.ifCond .ne 5, 3) := by decide +kernel
theorem dX5_keep_8 : decode cX5_keep 8 = .ok (.iconst (-1), 1) := by decide +kernel
theorem dX5_keep_9 : decode cX5_keep 9 = .ok (.ireturn, 1) := by decide +kernel
theorem dX5_keep_10 : decode cX5_keep 10 = .ok (.aload_n 0, 1) := by decide +kernel
theorem dX5_keep_11 : decode cX5_keep 11 = .ok (.getfield 37, 3) := by decide +kernel
theorem dX5_keep_14 : decode cX5_keep 14 = .ok (.iload_n 1, 1) := by decide +kernel
theorem dX5_keep_15 : decode cX5_keep 15 = .ok (.baload, 1) := by decide +kernel
theorem dX5_keep_16 : decode cX5_keep 16 = .ok (.ifCond .eq 7, 3) := by decide +kernel
theorem dX5_keep_19 : decode cX5_keep 19 = .ok (.iconst 1, 1) := by decide +kernel
theorem dX5_keep_20 : decode cX5_keep 20 = .ok (.goto 4, 3) := by decide +kernel
theorem dX5_keep_23 : decode cX5_keep 23 = .ok (.iconst 0, 1) := by decide +kernel
theorem dX5_keep_24 : decode cX5_keep 24 = .ok (.istore_n 2, 1) := by decide +kernel
theorem dX5_keep_25 : decode cX5_keep 25 = .ok (.aload_n 0, 1) := by decide +kernel
theorem dX5_keep_26 : decode cX5_keep 26 = .ok (.getfield 33, 3) := by decide +kernel
theorem dX5_keep_29 : decode cX5_keep 29 = .ok (.iload_n 1, 1) := by decide +kernel
theorem dX5_keep_30 : decode cX5_keep 30 = .ok (.aaload, 1) := by decide +kernel
theorem dX5_keep_31 : decode cX5_keep 31 = .ok (.aload_n 0, 1) := by decide +kernel
theorem dX5_keep_32 : decode cX5_keep 32 = .ok (.getfield 19, 3) := by decide +kernel
theorem dX5_keep_35 : decode cX5_keep 35 = .ok (.invokevirtual 85, 3) := by decide +kernel
theorem dX5_keep_38 : decode cX5_keep 38 = .ok (.aload_n 0, 1) := by decide +kernel
theorem dX5_keep_39 : decode cX5_keep 39 = .ok (.getfield 37, 3) := by decide +kernel
theorem dX5_keep_42 : decode cX5_keep 42 = .ok (.iload_n 1, 1) := by decide +kernel
theorem dX5_keep_43 : decode cX5_keep 43 = .ok (.iconst 1, 1) := by decide +kernel
theorem dX5_keep_44 : decode cX5_keep 44 = .ok (.bastore, 1) := by decide +kernel
theorem dX5_keep_45 : decode cX5_keep 45 = .ok (.iload_n 2, 1) := by decide +kernel
theorem dX5_keep_46 : decode cX5_keep 46 = .ok (.ireturn, 1) := by decide +kernel
theorem dX5_back_0 : decode cX5_back 0 = .ok (.iload_n 1, 1) := by decide +kernel
theorem dX5_back_1 : decode cX5_back 1 = .ok (.iconst 1, 1) := by decide +kernel
theorem dX5_back_2 : decode cX5_back 2 = .ok (.invokestatic 52, 3) := by decide +kernel
theorem dX5_back_5 : decode cX5_back 5 = .ok (.ifCond .ne 5, 3) := by decide +kernel
theorem dX5_back_8 : decode cX5_back 8 = .ok (.iconst (-1), 1) := by decide +kernel
theorem dX5_back_9 : decode cX5_back 9 = .ok (.ireturn, 1) := by decide +kernel
theorem dX5_back_10 : decode cX5_back 10 = .ok (.aload_n 0, 1) := by decide +kernel
theorem dX5_back_11 : decode cX5_back 11 = .ok (.getfield 37, 3) := by decide +kernel
theorem dX5_back_14 : decode cX5_back 14 = .ok (.iload_n 1, 1) := by decide +kernel
theorem dX5_back_15 : decode cX5_back 15 = .ok (.baload, 1) := by decide +kernel
theorem dX5_back_16 : decode cX5_back 16 = .ok (.ifCond .ne 6, 3) := by decide +kernel
theorem dX5_back_19 : decode cX5_back 19 = .ok (.bipush (-2), 2) := by decide +kernel
theorem dX5_back_21 : decode cX5_back 21 = .ok (.ireturn, 1) := by decide +kernel
theorem dX5_back_22 : decode cX5_back 22 = .ok (.aload_n 0, 1) := by decide +kernel
theorem dX5_back_23 : decode cX5_back 23 = .ok (.getfield 19, 3) := by decide +kernel
theorem dX5_back_26 : decode cX5_back 26 = .ok (.aload_n 0, 1) := by decide +kernel
theorem dX5_back_27 : decode cX5_back 27 = .ok (.getfield 33, 3) := by decide +kernel
theorem dX5_back_30 : decode cX5_back 30 = .ok (.iload_n 1, 1) := by decide +kernel
theorem dX5_back_31 : decode cX5_back 31 = .ok (.aaload, 1) := by decide +kernel
theorem dX5_back_32 : decode cX5_back 32 = .ok (.invokevirtual 85, 3) := by decide +kernel
theorem dX5_back_35 : decode cX5_back 35 = .ok (.aload_n 0, 1) := by decide +kernel
theorem dX5_back_36 : decode cX5_back 36 = .ok (.getfield 19, 3) := by decide +kernel
theorem dX5_back_39 : decode cX5_back 39 = .ok (.invokevirtual 101, 3) := by decide +kernel
theorem dX5_back_42 : decode cX5_back 42 = .ok (.invokestatic 105, 3) := by decide +kernel
theorem dX5_back_45 : decode cX5_back 45 = .ok (.ireturn, 1) := by decide +kernel
theorem dX5_sheet_0 : decode cX5_sheet 0 = .ok (.iload_n 1, 1) := by decide +kernel
theorem dX5_sheet_1 : decode cX5_sheet 1 = .ok (.iconst 3, 1) := by decide +kernel
theorem dX5_sheet_2 : decode cX5_sheet 2 = .ok (.invokestatic 52, 3) := by decide +kernel
theorem dX5_sheet_5 : decode cX5_sheet 5 = .ok (.ifCond .eq 17, 3) := by decide +kernel
theorem dX5_sheet_8 : decode cX5_sheet 8 = .ok (.iload_n 2, 1) := by decide +kernel
theorem dX5_sheet_9 : decode cX5_sheet 9 = .ok (.iconst 2, 1) := by decide +kernel
theorem dX5_sheet_10 : decode cX5_sheet 10 = .ok (.invokestatic 52, 3) := by decide +kernel
theorem dX5_sheet_13 : decode cX5_sheet 13 = .ok (.ifCond .eq 9, 3) := by decide +kernel
theorem dX5_sheet_16 : decode cX5_sheet 16 = .ok (.iload_n 3, 1) := by decide +kernel
theorem dX5_sheet_17 : decode cX5_sheet 17 = .ok (.bipush 40, 2) := by decide +kernel
theorem dX5_sheet_19 : decode cX5_sheet 19 = .ok (.if_icmp .le 5, 3) := by decide +kernel
theorem dX5_sheet_22 : decode cX5_sheet 22 = .ok (.iconst (-1), 1) := by decide +kernel
theorem dX5_sheet_23 : decode cX5_sheet 23 = .ok (.ireturn, 1) := by decide +kernel
theorem dX5_sheet_24 : decode cX5_sheet 24 = .ok (.iload_n 3, 1) := by decide +kernel
theorem dX5_sheet_25 : decode cX5_sheet 25 = .ok (.ifCond .ge 6, 3) := by decide +kernel
theorem dX5_sheet_28 : decode cX5_sheet 28 = .ok (.bipush (-14), 2) := by decide +kernel
theorem dX5_sheet_30 : decode cX5_sheet 30 = .ok (.ireturn, 1) := by decide +kernel
theorem dX5_sheet_31 : decode cX5_sheet 31 = .ok (.aload_n 0, 1) := by decide +kernel
theorem dX5_sheet_32 : decode cX5_sheet 32 = .ok (.getfield 43, 3) := by decide +kernel
theorem dX5_sheet_35 : decode cX5_sheet 35 = .ok (.iload_n 1, 1) := by decide +kernel
theorem dX5_sheet_36 : decode cX5_sheet 36 = .ok (.aaload, 1) := by decide +kernel
theorem dX5_sheet_37 : decode cX5_sheet 37 = .ok (.iload_n 2, 1) := by decide +kernel
theorem dX5_sheet_38 : decode cX5_sheet 38 = .ok (.iload_n 3, 1) := by decide +kernel
theorem dX5_sheet_39 : decode cX5_sheet 39 = .ok (.invokevirtual 265, 3) := by decide +kernel
theorem dX5_sheet_42 : decode cX5_sheet 42 = .ok (.iconst 1, 1) := by decide +kernel
theorem dX5_sheet_43 : decode cX5_sheet 43 = .ok (.ireturn, 1) := by decide +kernel
theorem dX5_lay_0 : decode cX5_lay 0 = .ok (.iload_n 1, 1) := by decide +kernel
theorem dX5_lay_1 : decode cX5_lay 1 = .ok (.iconst 3, 1) := by decide +kernel
theorem dX5_lay_2 : decode cX5_lay 2 = .ok (.invokestatic 52, 3) := by decide +kernel
theorem dX5_lay_5 : decode cX5_lay 5 = .ok (.ifCond .ne 5, 3) := by decide +kernel
theorem dX5_lay_8 : decode cX5_lay 8 = .ok (.iconst (-1), 1) := by decide +kernel
theorem dX5_lay_9 : decode cX5_lay 9 = .ok (.ireturn, 1) := by decide +kernel
theorem dX5_lay_10 : decode cX5_lay 10 = .ok (.aload_n 0, 1) := by decide +kernel
theorem dX5_lay_11 : decode cX5_lay 11 = .ok (.getfield 43, 3) := by decide +kernel
theorem dX5_lay_14 : decode cX5_lay 14 = .ok (.iload_n 1, 1) := by decide +kernel
theorem dX5_lay_15 : decode cX5_lay 15 = .ok (.aaload, 1) := by decide +kernel
theorem dX5_lay_16 : decode cX5_lay 16 = .ok (.astore 4, 2) := by decide +kernel
theorem dX5_lay_18 : decode cX5_lay 18 = .ok (.aload 4, 2) := by decide +kernel
theorem dX5_lay_20 : decode cX5_lay 20 = .ok (.aload 4, 2) := by decide +kernel
theorem dX5_lay_22 : decode cX5_lay 22 = .ok (.getfield 269, 3) := by decide +kernel
theorem dX5_lay_25 : decode cX5_lay 25 = .ok (.iload_n 2, 1) := by decide +kernel
theorem dX5_lay_26 : decode cX5_lay 26 = .ok (.i2l, 1) := by decide +kernel
theorem dX5_lay_27 : decode cX5_lay 27 = .ok (.invokevirtual 272, 3) := by decide +kernel
theorem dX5_lay_30 : decode cX5_lay 30 = .ok (.istore 5, 2) := by decide +kernel
theorem dX5_lay_32 : decode cX5_lay 32 = .ok (.iload 5, 2) := by decide +kernel
theorem dX5_lay_34 : decode cX5_lay 34 = .ok (.ifCond .eq 9, 3) := by decide +kernel
theorem dX5_lay_37 : decode cX5_lay 37 = .ok (.bipush (-10), 2) := by decide +kernel
theorem dX5_lay_39 : decode cX5_lay 39 = .ok (.iload 5, 2) := by decide +kernel
theorem dX5_lay_41 : decode cX5_lay 41 = .ok (.isub, 1) := by decide +kernel
theorem dX5_lay_42 : decode cX5_lay 42 = .ok (.ireturn, 1) := by decide +kernel
theorem dX5_lay_43 : decode cX5_lay 43 = .ok (.aload 4, 2) := by decide +kernel
theorem dX5_lay_45 : decode cX5_lay 45 = .ok (.getfield 276, 3) := by decide +kernel
theorem dX5_lay_48 : decode cX5_lay 48 = .ok (.iload_n 2, 1) := by decide +kernel
theorem dX5_lay_49 : decode cX5_lay 49 = .ok (.iload_n 3, 1) := by decide +kernel
theorem dX5_lay_50 : decode cX5_lay 50 = .ok (.aload 4, 2) := by decide +kernel
theorem dX5_lay_52 : decode cX5_lay 52 = .ok (.getfield 269, 3) := by decide +kernel
theorem dX5_lay_55 : decode cX5_lay 55 = .ok (.invokestatic 279, 3) := by decide +kernel
theorem dX5_lay_58 : decode cX5_lay 58 = .ok (.iastore, 1) := by decide +kernel
theorem dX5_lay_59 : decode cX5_lay 59 = .ok (.iconst 1, 1) := by decide +kernel
theorem dX5_lay_60 : decode cX5_lay 60 = .ok (.ireturn, 1) := by decide +kernel
theorem dX5_read_0 : decode cX5_read 0 = .ok (.iload_n 1, 1) := by decide +kernel
theorem dX5_read_1 : decode cX5_read 1 = .ok (.iconst 3, 1) := by decide +kernel
theorem dX5_read_2 : decode cX5_read 2 = .ok (.invokestatic 52, 3) := by decide +kernel
theorem dX5_read_5 : decode cX5_read 5 = .ok (.ifCond .eq 21, 3) := by decide +kernel
theorem dX5_read_8 : decode cX5_read 8 = .ok (.iload_n 2, 1) := by decide +kernel
theorem dX5_read_9 : decode cX5_read 9 = .ok (.iconst 2, 1) := by decide +kernel
theorem dX5_read_10 : decode cX5_read 10 = .ok (.invokestatic 52, 3) := by decide +kernel
theorem dX5_read_13 : decode cX5_read 13 = .ok (.ifCond .eq 13, 3) := by decide +kernel
theorem dX5_read_16 : decode cX5_read 16 = .ok (.iload 4, 2) := by decide +kernel
theorem dX5_read_18 : decode cX5_read 18 = .ok (.bipush 20, 2) := by decide +kernel
theorem dX5_read_20 : decode cX5_read 20 = .ok (.invokestatic 52, 3) := by decide +kernel
theorem dX5_read_23 : decode cX5_read 23 = .ok (.ifCond .ne 5, 3) := by decide +kernel
theorem dX5_read_26 : decode cX5_read 26 = .ok (.iconst (-1), 1) := by decide +kernel
theorem dX5_read_27 : decode cX5_read 27 = .ok (.ireturn, 1) := by decide +kernel
theorem dX5_read_28 : decode cX5_read 28 = .ok (.aload_n 0, 1) := by decide +kernel
theorem dX5_read_29 : decode cX5_read 29 = .ok (.getfield 43, 3) := by decide +kernel
theorem dX5_read_32 : decode cX5_read 32 = .ok (.iload_n 1, 1) := by decide +kernel
theorem dX5_read_33 : decode cX5_read 33 = .ok (.aaload, 1) := by decide +kernel
theorem dX5_read_34 : decode cX5_read 34 = .ok (.astore 5, 2) := by decide +kernel
theorem dX5_read_36 : decode cX5_read 36 = .ok (.aload_n 0, 1) := by decide +kernel
theorem dX5_read_37 : decode cX5_read 37 = .ok (.getfield 23, 3) := by decide +kernel
theorem dX5_read_40 : decode cX5_read 40 = .ok (.aload_n 0, 1) := by decide +kernel
theorem dX5_read_41 : decode cX5_read 41 = .ok (.getfield 19, 3) := by decide +kernel
theorem dX5_read_44 : decode cX5_read 44 = .ok (.invokevirtual 85, 3) := by decide +kernel
theorem dX5_read_47 : decode cX5_read 47 = .ok (.iconst 0, 1) := by decide +kernel
theorem dX5_read_48 : decode cX5_read 48 = .ok (.istore 6, 2) := by decide +kernel
theorem dX5_read_50 : decode cX5_read 50 = .ok (.iconst 0, 1) := by decide +kernel
theorem dX5_read_51 : decode cX5_read 51 = .ok (.istore 7, 2) := by decide +kernel
theorem dX5_read_53 : decode cX5_read 53 = .ok (.iconst 0, 1) := by decide +kernel
theorem dX5_read_54 : decode cX5_read 54 = .ok (.istore 8, 2) := by decide +kernel
theorem dX5_read_56 : decode cX5_read 56 = .ok (.iload 8, 2) := by decide +kernel
theorem dX5_read_58 : decode cX5_read 58 = .ok (.iload 4, 2) := by decide +kernel
theorem dX5_read_60 : decode cX5_read 60 = .ok (.if_icmp .ge 75, 3) := by decide +kernel
theorem dX5_read_63 : decode cX5_read 63 = .ok (.iload 6, 2) := by decide +kernel
theorem dX5_read_65 : decode cX5_read 65 = .ok (.ifCond .ne 70, 3) := by decide +kernel
theorem dX5_read_68 : decode cX5_read 68 = .ok (.aload 5, 2) := by decide +kernel
theorem dX5_read_70 : decode cX5_read 70 = .ok (.iload_n 2, 1) := by decide +kernel
theorem dX5_read_71 : decode cX5_read 71 = .ok (.iload_n 3, 1) := by decide +kernel
theorem dX5_read_72 : decode cX5_read 72 = .ok (.iload 8, 2) := by decide +kernel
theorem dX5_read_74 : decode cX5_read 74 = .ok (.invokevirtual 282, 3) := by decide +kernel
theorem dX5_read_77 : decode cX5_read 77 = .ok (.istore 6, 2) := by decide +kernel
theorem dX5_read_79 : decode cX5_read 79 = .ok (.iload 6, 2) := by decide +kernel
theorem dX5_read_81 : decode cX5_read 81 = .ok (.ifCond .ne 48, 3) := by decide +kernel
theorem dX5_read_84 : decode cX5_read 84 = .ok (.iload_n 3, 1) := by decide +kernel
theorem dX5_read_85 : decode cX5_read 85 = .ok (.iconst 2, 1) := by decide +kernel
theorem dX5_read_86 : decode cX5_read 86 = .ok (.iload 8, 2) := by decide +kernel
theorem dX5_read_88 : decode cX5_read 88 = .ok (.imul, 1) := by decide +kernel
theorem dX5_read_89 : decode cX5_read 89 = .ok (.iadd, 1) := by decide +kernel
theorem dX5_read_90 : decode cX5_read 90 = .ok (.istore 9, 2) := by decide +kernel
theorem dX5_read_92 : decode cX5_read 92 = .ok (.aload_n 0, 1) := by decide +kernel
theorem dX5_read_93 : decode cX5_read 93 = .ok (.getfield 23, 3) := by decide +kernel
theorem dX5_read_96 : decode cX5_read 96 = .ok (.aload 5, 2) := by decide +kernel
theorem dX5_read_98 : decode cX5_read 98 = .ok (.getfield 276, 3) := by decide +kernel
theorem dX5_read_101 : decode cX5_read 101 = .ok (.iload 9, 2) := by decide +kernel
theorem dX5_read_103 : decode cX5_read 103 = .ok (.iaload, 1) := by decide +kernel
theorem dX5_read_104 : decode cX5_read 104 = .ok (.aload 5, 2) := by decide +kernel
theorem dX5_read_106 : decode cX5_read 106 = .ok (.getfield 276, 3) := by decide +kernel
theorem dX5_read_109 : decode cX5_read 109 = .ok (.iload 9, 2) := by decide +kernel
theorem dX5_read_111 : decode cX5_read 111 = .ok (.iconst 1, 1) := by decide +kernel
theorem dX5_read_112 : decode cX5_read 112 = .ok (.iadd, 1) := by decide +kernel
theorem dX5_read_113 : decode cX5_read 113 = .ok (.iaload, 1) := by decide +kernel
theorem dX5_read_114 : decode cX5_read 114 = .ok (.invokevirtual 185, 3) := by decide +kernel
theorem dX5_read_117 : decode cX5_read 117 = .ok (.ifCond .ne 9, 3) := by decide +kernel
theorem dX5_read_120 : decode cX5_read 120 = .ok (.bipush (-20), 2) := by decide +kernel
theorem dX5_read_122 : decode cX5_read 122 = .ok (.iload 8, 2) := by decide +kernel
theorem dX5_read_124 : decode cX5_read 124 = .ok (.isub, 1) := by decide +kernel
theorem dX5_read_125 : decode cX5_read 125 = .ok (.ireturn, 1) := by decide +kernel
theorem dX5_read_126 : decode cX5_read 126 = .ok (.iinc 7 1, 3) := by decide +kernel
theorem dX5_read_129 : decode cX5_read 129 = .ok (.iinc 8 1, 3) := by decide +kernel
theorem dX5_read_132 : decode cX5_read 132 = .ok (.goto (-76), 3) := by decide +kernel
theorem dX5_read_135 : decode cX5_read 135 = .ok (.aload_n 0, 1) := by decide +kernel
theorem dX5_read_136 : decode cX5_read 136 = .ok (.getfield 19, 3) := by decide +kernel
theorem dX5_read_139 : decode cX5_read 139 = .ok (.aload_n 0, 1) := by decide +kernel
theorem dX5_read_140 : decode cX5_read 140 = .ok (.getfield 23, 3) := by decide +kernel
theorem dX5_read_143 : decode cX5_read 143 = .ok (.invokevirtual 85, 3) := by decide +kernel
theorem dX5_read_146 : decode cX5_read 146 = .ok (.aload_n 0, 1) := by decide +kernel
theorem dX5_read_147 : decode cX5_read 147 = .ok (.iload 6, 2) := by decide +kernel
theorem dX5_read_149 : decode cX5_read 149 = .ok (.putfield 285, 3) := by decide +kernel
theorem dX5_read_152 : decode cX5_read 152 = .ok (.iload 7, 2) := by decide +kernel
theorem dX5_read_154 : decode cX5_read 154 = .ok (.ireturn, 1) := by decide +kernel
theorem dX5_torn_0 : decode cX5_torn 0 = .ok (.aload_n 0, 1) := by decide +kernel
theorem dX5_torn_1 : decode cX5_torn 1 = .ok (.getfield 285, 3) := by decide +kernel
theorem dX5_torn_4 : decode cX5_torn 4 = .ok (.ireturn, 1) := by decide +kernel
theorem dX5_count_0 : decode cX5_count 0 = .ok (.iload_n 1, 1) := by decide +kernel
theorem dX5_count_1 : decode cX5_count 1 = .ok (.tableswitch 139 0 5 #[39, 47, 77, 88, 115, 126], 39) := by decide +kernel
theorem dX5_count_40 : decode cX5_count 40 = .ok (.aload_n 0, 1) := by decide +kernel
theorem dX5_count_41 : decode cX5_count 41 = .ok (.getfield 29, 3) := by decide +kernel
theorem dX5_count_44 : decode cX5_count 44 = .ok (.getfield 89, 3) := by decide +kernel
theorem dX5_count_47 : decode cX5_count 47 = .ok (.ireturn, 1) := by decide +kernel
theorem dX5_count_48 : decode cX5_count 48 = .ok (.aload_n 0, 1) := by decide +kernel
theorem dX5_count_49 : decode cX5_count 49 = .ok (.getfield 37, 3) := by decide +kernel
theorem dX5_count_52 : decode cX5_count 52 = .ok (.iconst 0, 1) := by decide +kernel
theorem dX5_count_53 : decode cX5_count 53 = .ok (.baload, 1) := by decide +kernel
theorem dX5_count_54 : decode cX5_count 54 = .ok (.ifCond .eq 7, 3) := by decide +kernel
theorem dX5_count_57 : decode cX5_count 57 = .ok (.iconst 1, 1) := by decide +kernel
theorem dX5_count_58 : decode cX5_count 58 = .ok (.goto 4, 3) := by decide +kernel
theorem dX5_count_61 : decode cX5_count 61 = .ok (.iconst 0, 1) := by decide +kernel
theorem dX5_count_62 : decode cX5_count 62 = .ok (.aload_n 0, 1) := by decide +kernel
theorem dX5_count_63 : decode cX5_count 63 = .ok (.getfield 37, 3) := by decide +kernel
theorem dX5_count_66 : decode cX5_count 66 = .ok (.iconst 1, 1) := by decide +kernel
theorem dX5_count_67 : decode cX5_count 67 = .ok (.baload, 1) := by decide +kernel
theorem dX5_count_68 : decode cX5_count 68 = .ok (.ifCond .eq 7, 3) := by decide +kernel
theorem dX5_count_71 : decode cX5_count 71 = .ok (.iconst 1, 1) := by decide +kernel
theorem dX5_count_72 : decode cX5_count 72 = .ok (.goto 4, 3) := by decide +kernel
theorem dX5_count_75 : decode cX5_count 75 = .ok (.iconst 0, 1) := by decide +kernel
theorem dX5_count_76 : decode cX5_count 76 = .ok (.iadd, 1) := by decide +kernel
theorem dX5_count_77 : decode cX5_count 77 = .ok (.ireturn, 1) := by decide +kernel
theorem dX5_count_78 : decode cX5_count 78 = .ok (.aload_n 0, 1) := by decide +kernel
theorem dX5_count_79 : decode cX5_count 79 = .ok (.getfield 10, 3) := by decide +kernel
theorem dX5_count_82 : decode cX5_count 82 = .ok (.getfield 56, 3) := by decide +kernel
theorem dX5_count_85 : decode cX5_count 85 = .ok (.getfield 66, 3) := by decide +kernel
theorem dX5_count_88 : decode cX5_count 88 = .ok (.ireturn, 1) := by decide +kernel
theorem dX5_count_89 : decode cX5_count 89 = .ok (.aload_n 0, 1) := by decide +kernel
theorem dX5_count_90 : decode cX5_count 90 = .ok (.getfield 43, 3) := by decide +kernel
theorem dX5_count_93 : decode cX5_count 93 = .ok (.iconst 0, 1) := by decide +kernel
theorem dX5_count_94 : decode cX5_count 94 = .ok (.aaload, 1) := by decide +kernel
theorem dX5_count_95 : decode cX5_count 95 = .ok (.getfield 288, 3) := by decide +kernel
theorem dX5_count_98 : decode cX5_count 98 = .ok (.ifCond .ge 8, 3) := by decide +kernel
theorem dX5_count_101 : decode cX5_count 101 = .ok (.bipush (-4), 2) := by decide +kernel
theorem dX5_count_103 : decode cX5_count 103 = .ok (.goto 12, 3) := by decide +kernel
theorem dX5_count_106 : decode cX5_count 106 = .ok (.aload_n 0, 1) := by decide +kernel
theorem dX5_count_107 : decode cX5_count 107 = .ok (.getfield 43, 3) := by decide +kernel
theorem dX5_count_110 : decode cX5_count 110 = .ok (.iconst 0, 1) := by decide +kernel
theorem dX5_count_111 : decode cX5_count 111 = .ok (.aaload, 1) := by decide +kernel
theorem dX5_count_112 : decode cX5_count 112 = .ok (.getfield 288, 3) := by decide +kernel
theorem dX5_count_115 : decode cX5_count 115 = .ok (.ireturn, 1) := by decide +kernel
theorem dX5_count_116 : decode cX5_count 116 = .ok (.aload_n 0, 1) := by decide +kernel
theorem dX5_count_117 : decode cX5_count 117 = .ok (.getfield 19, 3) := by decide +kernel
theorem dX5_count_120 : decode cX5_count 120 = .ok (.sipush 255, 3) := by decide +kernel
theorem dX5_count_123 : decode cX5_count 123 = .ok (.invokevirtual 289, 3) := by decide +kernel
theorem dX5_count_126 : decode cX5_count 126 = .ok (.ireturn, 1) := by decide +kernel
theorem dX5_count_127 : decode cX5_count 127 = .ok (.aload_n 0, 1) := by decide +kernel
theorem dX5_count_128 : decode cX5_count 128 = .ok (.getfield 19, 3) := by decide +kernel
theorem dX5_count_131 : decode cX5_count 131 = .ok (.bipush (-2), 2) := by decide +kernel
theorem dX5_count_133 : decode cX5_count 133 = .ok (.invokevirtual 114, 3) := by decide +kernel
theorem dX5_count_136 : decode cX5_count 136 = .ok (.invokestatic 105, 3) := by decide +kernel
theorem dX5_count_139 : decode cX5_count 139 = .ok (.ireturn, 1) := by decide +kernel
theorem dX5_count_140 : decode cX5_count 140 = .ok (.iconst (-1), 1) := by decide +kernel
theorem dX5_count_141 : decode cX5_count 141 = .ok (.ireturn, 1) := by decide +kernel
theorem dX5_isUpTo_0 : decode cX5_isUpTo 0 = .ok (.iload_n 0, 1) := by decide +kernel
theorem dX5_isUpTo_1 : decode cX5_isUpTo 1 = .ok (.ifCond .lt 12, 3) := by decide +kernel
theorem dX5_isUpTo_4 : decode cX5_isUpTo 4 = .ok (.iload_n 0, 1) := by decide +kernel
theorem dX5_isUpTo_5 : decode cX5_isUpTo 5 = .ok (.iload_n 1, 1) := by decide +kernel
theorem dX5_isUpTo_6 : decode cX5_isUpTo 6 = .ok (.if_icmp .gt 7, 3) := by decide +kernel
theorem dX5_isUpTo_9 : decode cX5_isUpTo 9 = .ok (.iconst 1, 1) := by decide +kernel
theorem dX5_isUpTo_10 : decode cX5_isUpTo 10 = .ok (.goto 4, 3) := by decide +kernel
theorem dX5_isUpTo_13 : decode cX5_isUpTo 13 = .ok (.iconst 0, 1) := by decide +kernel
theorem dX5_isUpTo_14 : decode cX5_isUpTo 14 = .ok (.ireturn, 1) := by decide +kernel
theorem dX5_isRoom_0 : decode cX5_isRoom 0 = .ok (.iload_n 0, 1) := by decide +kernel
theorem dX5_isRoom_1 : decode cX5_isRoom 1 = .ok (.ifCond .lt 13, 3) := by decide +kernel
theorem dX5_isRoom_4 : decode cX5_isRoom 4 = .ok (.iload_n 0, 1) := by decide +kernel
theorem dX5_isRoom_5 : decode cX5_isRoom 5 = .ok (.bipush 8, 2) := by decide +kernel
theorem dX5_isRoom_7 : decode cX5_isRoom 7 = .ok (.if_icmp .ge 7, 3) := by decide +kernel
theorem dX5_isRoom_10 : decode cX5_isRoom 10 = .ok (.iconst 1, 1) := by decide +kernel
theorem dX5_isRoom_11 : decode cX5_isRoom 11 = .ok (.goto 4, 3) := by decide +kernel
theorem dX5_isRoom_14 : decode cX5_isRoom 14 = .ok (.iconst 0, 1) := by decide +kernel
theorem dX5_isRoom_15 : decode cX5_isRoom 15 = .ok (.ireturn, 1) := by decide +kernel
theorem dX5_hasBit_0 : decode cX5_hasBit 0 = .ok (.iload_n 1, 1) := by decide +kernel
theorem dX5_hasBit_1 : decode cX5_hasBit 1 = .ok (.ifCond .lt 22, 3) := by decide +kernel
theorem dX5_hasBit_4 : decode cX5_hasBit 4 = .ok (.iload_n 1, 1) := by decide +kernel
theorem dX5_hasBit_5 : decode cX5_hasBit 5 = .ok (.bipush 32, 2) := by decide +kernel
theorem dX5_hasBit_7 : decode cX5_hasBit 7 = .ok (.if_icmp .ge 16, 3) := by decide +kernel
theorem dX5_hasBit_10 : decode cX5_hasBit 10 = .ok (.iload_n 0, 1) := by decide +kernel
theorem dX5_hasBit_11 : decode cX5_hasBit 11 = .ok (.iload_n 1, 1) := by decide +kernel
theorem dX5_hasBit_12 : decode cX5_hasBit 12 = .ok (.iushr, 1) := by decide +kernel
theorem dX5_hasBit_13 : decode cX5_hasBit 13 = .ok (.iconst 1, 1) := by decide +kernel
theorem dX5_hasBit_14 : decode cX5_hasBit 14 = .ok (.iand, 1) := by decide +kernel
theorem dX5_hasBit_15 : decode cX5_hasBit 15 = .ok (.iconst 1, 1) := by decide +kernel
theorem dX5_hasBit_16 : decode cX5_hasBit 16 = .ok (.if_icmp .ne 7, 3) := by decide +kernel
theorem dX5_hasBit_19 : decode cX5_hasBit 19 = .ok (.iconst 1, 1) := by decide +kernel
theorem dX5_hasBit_20 : decode cX5_hasBit 20 = .ok (.goto 4, 3) := by decide +kernel
theorem dX5_hasBit_23 : decode cX5_hasBit 23 = .ok (.iconst 0, 1) := by decide +kernel
theorem dX5_hasBit_24 : decode cX5_hasBit 24 = .ok (.ireturn, 1) := by decide +kernel
theorem dX5_replaced_0 : decode cX5_replaced 0 = .ok (.iload_n 1, 1) := by decide +kernel
theorem dX5_replaced_1 : decode cX5_replaced 1 = .ok (.ifCond .lt 17, 3) := by decide +kernel
theorem dX5_replaced_4 : decode cX5_replaced 4 = .ok (.iload_n 1, 1) := by decide +kernel
theorem dX5_replaced_5 : decode cX5_replaced 5 = .ok (.aload_n 0, 1) := by decide +kernel
theorem dX5_replaced_6 : decode cX5_replaced 6 = .ok (.arraylength, 1) := by decide +kernel
theorem dX5_replaced_7 : decode cX5_replaced 7 = .ok (.if_icmp .ge 11, 3) := by decide +kernel
theorem dX5_replaced_10 : decode cX5_replaced 10 = .ok (.iload_n 2, 1) := by decide +kernel
theorem dX5_replaced_11 : decode cX5_replaced 11 = .ok (.iload_n 3, 1) := by decide +kernel
theorem dX5_replaced_12 : decode cX5_replaced 12 = .ok (.invokestatic 52, 3) := by decide +kernel
theorem dX5_replaced_15 : decode cX5_replaced 15 = .ok (.ifCond .ne 5, 3) := by decide +kernel
theorem dX5_replaced_18 : decode cX5_replaced 18 = .ok (.iconst (-1), 1) := by decide +kernel
theorem dX5_replaced_19 : decode cX5_replaced 19 = .ok (.ireturn, 1) := by decide +kernel
theorem dX5_replaced_20 : decode cX5_replaced 20 = .ok (.aload_n 0, 1) := by decide +kernel
theorem dX5_replaced_21 : decode cX5_replaced 21 = .ok (.iload_n 1, 1) := by decide +kernel
theorem dX5_replaced_22 : decode cX5_replaced 22 = .ok (.iaload, 1) := by decide +kernel
theorem dX5_replaced_23 : decode cX5_replaced 23 = .ok (.istore 4, 2) := by decide +kernel
theorem dX5_replaced_25 : decode cX5_replaced 25 = .ok (.aload_n 0, 1) := by decide +kernel
theorem dX5_replaced_26 : decode cX5_replaced 26 = .ok (.iload_n 1, 1) := by decide +kernel
theorem dX5_replaced_27 : decode cX5_replaced 27 = .ok (.iload_n 2, 1) := by decide +kernel
theorem dX5_replaced_28 : decode cX5_replaced 28 = .ok (.iastore, 1) := by decide +kernel
theorem dX5_replaced_29 : decode cX5_replaced 29 = .ok (.iload 4, 2) := by decide +kernel
theorem dX5_replaced_31 : decode cX5_replaced 31 = .ok (.ireturn, 1) := by decide +kernel
theorem dX5_firstMissing_0 : decode cX5_firstMissing 0 = .ok (.iconst 0, 1) := by decide +kernel
theorem dX5_firstMissing_1 : decode cX5_firstMissing 1 = .ok (.istore_n 2, 1) := by decide +kernel
theorem dX5_firstMissing_2 : decode cX5_firstMissing 2 = .ok (.iload_n 2, 1) := by decide +kernel
theorem dX5_firstMissing_3 : decode cX5_firstMissing 3 = .ok (.iload_n 1, 1) := by decide +kernel
theorem dX5_firstMissing_4 : decode cX5_firstMissing 4 = .ok (.if_icmp .ge 19, 3) := by decide +kernel
theorem dX5_firstMissing_7 : decode cX5_firstMissing 7 = .ok (.iload_n 0, 1) := by decide +kernel
theorem dX5_firstMissing_8 : decode cX5_firstMissing 8 = .ok (.iload_n 2, 1) := by decide +kernel
theorem dX5_firstMissing_9 : decode cX5_firstMissing 9 = .ok (.invokestatic 292, 3) := by decide +kernel
theorem dX5_firstMissing_12 : decode cX5_firstMissing 12 = .ok (.ifCond .ne 5, 3) := by decide +kernel
theorem dX5_firstMissing_15 : decode cX5_firstMissing 15 = .ok (.iload_n 2, 1) := by decide +kernel
theorem dX5_firstMissing_16 : decode cX5_firstMissing 16 = .ok (.ireturn, 1) := by decide +kernel
theorem dX5_firstMissing_17 : decode cX5_firstMissing 17 = .ok (.iinc 2 1, 3) := by decide +kernel
theorem dX5_firstMissing_20 : decode cX5_firstMissing 20 = .ok (.goto (-18), 3) := by decide +kernel
theorem dX5_firstMissing_23 : decode cX5_firstMissing 23 = .ok (.bipush (-4), 2) := by decide +kernel
theorem dX5_firstMissing_25 : decode cX5_firstMissing 25 = .ok (.ireturn, 1) := by decide +kernel
theorem dX5_inLowestTerms_0 : decode cX5_inLowestTerms 0 = .ok (.lload_n 2, 1) := by decide +kernel
theorem dX5_inLowestTerms_1 : decode cX5_inLowestTerms 1 = .ok (.lstore 5, 2) := by decide +kernel
theorem dX5_inLowestTerms_3 : decode cX5_inLowestTerms 3 = .ok (.lload_n 0, 1) := by decide +kernel
theorem dX5_inLowestTerms_4 : decode cX5_inLowestTerms 4 = .ok (.lstore 7, 2) := by decide +kernel
theorem dX5_inLowestTerms_6 : decode cX5_inLowestTerms 6 = .ok (.iconst 0, 1) := by decide +kernel
theorem dX5_inLowestTerms_7 : decode cX5_inLowestTerms 7 = .ok (.istore 9, 2) := by decide +kernel
theorem dX5_inLowestTerms_9 : decode cX5_inLowestTerms 9 = .ok (.iload 9, 2) := by decide +kernel
theorem dX5_inLowestTerms_11 : decode cX5_inLowestTerms 11 = .ok (.sipush 200, 3) := by decide +kernel
theorem dX5_inLowestTerms_14 : decode cX5_inLowestTerms 14 = .ok (.if_icmp .ge 31, 3) := by decide +kernel
theorem dX5_inLowestTerms_17 : decode cX5_inLowestTerms 17 = .ok (.lload 7, 2) := by decide +kernel
theorem dX5_inLowestTerms_19 : decode cX5_inLowestTerms 19 = .ok (.lconst 0, 1) := by decide +kernel
theorem dX5_inLowestTerms_20 : decode cX5_inLowestTerms 20 = .ok (.lcmp, 1) := by decide +kernel
theorem dX5_inLowestTerms_21 : decode cX5_inLowestTerms 21 = .ok (.ifCond .eq 24, 3) := by decide +kernel
theorem dX5_inLowestTerms_24 : decode cX5_inLowestTerms 24 = .ok (.lload 5, 2) := by decide +kernel
theorem dX5_inLowestTerms_26 : decode cX5_inLowestTerms 26 = .ok (.lload 7, 2) := by decide +kernel
theorem dX5_inLowestTerms_28 : decode cX5_inLowestTerms 28 = .ok (.lrem, 1) := by decide +kernel
theorem dX5_inLowestTerms_29 : decode cX5_inLowestTerms 29 = .ok (.lstore 10, 2) := by decide +kernel
theorem dX5_inLowestTerms_31 : decode cX5_inLowestTerms 31 = .ok (.lload 7, 2) := by decide +kernel
theorem dX5_inLowestTerms_33 : decode cX5_inLowestTerms 33 = .ok (.lstore 5, 2) := by decide +kernel
theorem dX5_inLowestTerms_35 : decode cX5_inLowestTerms 35 = .ok (.lload 10, 2) := by decide +kernel
theorem dX5_inLowestTerms_37 : decode cX5_inLowestTerms 37 = .ok (.lstore 7, 2) := by decide +kernel
theorem dX5_inLowestTerms_39 : decode cX5_inLowestTerms 39 = .ok (.iinc 9 1, 3) := by decide +kernel
theorem dX5_inLowestTerms_42 : decode cX5_inLowestTerms 42 = .ok (.goto (-33), 3) := by decide +kernel
theorem dX5_inLowestTerms_45 : decode cX5_inLowestTerms 45 = .ok (.lload 5, 2) := by decide +kernel
theorem dX5_inLowestTerms_47 : decode cX5_inLowestTerms 47 = .ok (.lconst 0, 1) := by decide +kernel
theorem dX5_inLowestTerms_48 : decode cX5_inLowestTerms 48 = .ok (.lcmp, 1) := by decide +kernel
theorem dX5_inLowestTerms_49 : decode cX5_inLowestTerms 49 = .ok (.ifCond .ne 7, 3) := by decide +kernel
theorem dX5_inLowestTerms_52 : decode cX5_inLowestTerms 52 = .ok (.ldc2_w 226, 3) := by decide +kernel
theorem dX5_inLowestTerms_55 : decode cX5_inLowestTerms 55 = .ok (.lreturn, 1) := by decide +kernel
theorem dX5_inLowestTerms_56 : decode cX5_inLowestTerms 56 = .ok (.iload 4, 2) := by decide +kernel
theorem dX5_inLowestTerms_58 : decode cX5_inLowestTerms 58 = .ok (.ifCond .ne 10, 3) := by decide +kernel
theorem dX5_inLowestTerms_61 : decode cX5_inLowestTerms 61 = .ok (.lload_n 0, 1) := by decide +kernel
theorem dX5_inLowestTerms_62 : decode cX5_inLowestTerms 62 = .ok (.lload 5, 2) := by decide +kernel
theorem dX5_inLowestTerms_64 : decode cX5_inLowestTerms 64 = .ok (.ldiv, 1) := by decide +kernel
theorem dX5_inLowestTerms_65 : decode cX5_inLowestTerms 65 = .ok (.goto 7, 3) := by decide +kernel
theorem dX5_inLowestTerms_68 : decode cX5_inLowestTerms 68 = .ok (.lload_n 2, 1) := by decide +kernel
theorem dX5_inLowestTerms_69 : decode cX5_inLowestTerms 69 = .ok (.lload 5, 2) := by decide +kernel
theorem dX5_inLowestTerms_71 : decode cX5_inLowestTerms 71 = .ok (.ldiv, 1) := by decide +kernel
theorem dX5_inLowestTerms_72 : decode cX5_inLowestTerms 72 = .ok (.lreturn, 1) := by decide +kernel
theorem dX5_narrowed_0 : decode cX5_narrowed 0 = .ok (.iload_n 1, 1) := by decide +kernel
theorem dX5_narrowed_1 : decode cX5_narrowed 1 = .ok (.lookupswitch 33 #[(0, 27), (1, 30)], 27) := by decide +kernel
theorem dX5_narrowed_28 : decode cX5_narrowed 28 = .ok (.iload_n 0, 1) := by decide +kernel
theorem dX5_narrowed_29 : decode cX5_narrowed 29 = .ok (.i2b, 1) := by decide +kernel
theorem dX5_narrowed_30 : decode cX5_narrowed 30 = .ok (.ireturn, 1) := by decide +kernel
theorem dX5_narrowed_31 : decode cX5_narrowed 31 = .ok (.iload_n 0, 1) := by decide +kernel
theorem dX5_narrowed_32 : decode cX5_narrowed 32 = .ok (.i2s, 1) := by decide +kernel
theorem dX5_narrowed_33 : decode cX5_narrowed 33 = .ok (.ireturn, 1) := by decide +kernel
theorem dX5_narrowed_34 : decode cX5_narrowed 34 = .ok (.iload_n 0, 1) := by decide +kernel
theorem dX5_narrowed_35 : decode cX5_narrowed 35 = .ok (.ireturn, 1) := by decide +kernel
theorem dX5_reachedByPlan_0 : decode cX5_reachedByPlan 0 = .ok (.aload_n 0, 1) := by decide +kernel
theorem dX5_reachedByPlan_1 : decode cX5_reachedByPlan 1 = .ok (.getfield 23, 3) := by decide +kernel
theorem dX5_reachedByPlan_4 : decode cX5_reachedByPlan 4 = .ok (.aload_n 0, 1) := by decide +kernel
theorem dX5_reachedByPlan_5 : decode cX5_reachedByPlan 5 = .ok (.getfield 19, 3) := by decide +kernel
theorem dX5_reachedByPlan_8 : decode cX5_reachedByPlan 8 = .ok (.invokevirtual 85, 3) := by decide +kernel
theorem dX5_reachedByPlan_11 : decode cX5_reachedByPlan 11 = .ok (.aload_n 0, 1) := by decide +kernel
theorem dX5_reachedByPlan_12 : decode cX5_reachedByPlan 12 = .ok (.getfield 23, 3) := by decide +kernel
theorem dX5_reachedByPlan_15 : decode cX5_reachedByPlan 15 = .ok (.iload_n 1, 1) := by decide +kernel
theorem dX5_reachedByPlan_16 : decode cX5_reachedByPlan 16 = .ok (.invokevirtual 201, 3) := by decide +kernel
theorem dX5_reachedByPlan_19 : decode cX5_reachedByPlan 19 = .ok (.pop, 1) := by decide +kernel
theorem dX5_reachedByPlan_20 : decode cX5_reachedByPlan 20 = .ok (.aload_n 0, 1) := by decide +kernel
theorem dX5_reachedByPlan_21 : decode cX5_reachedByPlan 21 = .ok (.getfield 23, 3) := by decide +kernel
theorem dX5_reachedByPlan_24 : decode cX5_reachedByPlan 24 = .ok (.invokevirtual 207, 3) := by decide +kernel
theorem dX5_reachedByPlan_27 : decode cX5_reachedByPlan 27 = .ok (.ireturn, 1) := by decide +kernel
theorem dX5_wallsAsSeen_0 : decode cX5_wallsAsSeen 0 = .ok (.aload_n 0, 1) := by decide +kernel
theorem dX5_wallsAsSeen_1 : decode cX5_wallsAsSeen 1 = .ok (.getfield 23, 3) := by decide +kernel
theorem dX5_wallsAsSeen_4 : decode cX5_wallsAsSeen 4 = .ok (.aload_n 0, 1) := by decide +kernel
theorem dX5_wallsAsSeen_5 : decode cX5_wallsAsSeen 5 = .ok (.getfield 19, 3) := by decide +kernel
theorem dX5_wallsAsSeen_8 : decode cX5_wallsAsSeen 8 = .ok (.invokevirtual 85, 3) := by decide +kernel
theorem dX5_wallsAsSeen_11 : decode cX5_wallsAsSeen 11 = .ok (.iconst 0, 1) := by decide +kernel
theorem dX5_wallsAsSeen_12 : decode cX5_wallsAsSeen 12 = .ok (.istore_n 2, 1) := by decide +kernel
theorem dX5_wallsAsSeen_13 : decode cX5_wallsAsSeen 13 = .ok (.iconst 0, 1) := by decide +kernel
theorem dX5_wallsAsSeen_14 : decode cX5_wallsAsSeen 14 = .ok (.istore_n 3, 1) := by decide +kernel
theorem dX5_wallsAsSeen_15 : decode cX5_wallsAsSeen 15 = .ok (.iload_n 3, 1) := by decide +kernel
theorem dX5_wallsAsSeen_16 : decode cX5_wallsAsSeen 16 = .ok (.aload_n 0, 1) := by decide +kernel
theorem dX5_wallsAsSeen_17 : decode cX5_wallsAsSeen 17 = .ok (.getfield 19, 3) := by decide +kernel
theorem dX5_wallsAsSeen_20 : decode cX5_wallsAsSeen 20 = .ok (.getfield 98, 3) := by decide +kernel
theorem dX5_wallsAsSeen_23 : decode cX5_wallsAsSeen 23 = .ok (.if_icmp .ge 41, 3) := by decide +kernel
theorem dX5_wallsAsSeen_26 : decode cX5_wallsAsSeen 26 = .ok (.aload_n 0, 1) := by decide +kernel
theorem dX5_wallsAsSeen_27 : decode cX5_wallsAsSeen 27 = .ok (.getfield 23, 3) := by decide +kernel
theorem dX5_wallsAsSeen_30 : decode cX5_wallsAsSeen 30 = .ok (.iload_n 1, 1) := by decide +kernel
theorem dX5_wallsAsSeen_31 : decode cX5_wallsAsSeen 31 = .ok (.iload_n 3, 1) := by decide +kernel
theorem dX5_wallsAsSeen_32 : decode cX5_wallsAsSeen 32 = .ok (.invokevirtual 295, 3) := by decide +kernel
theorem dX5_wallsAsSeen_35 : decode cX5_wallsAsSeen 35 = .ok (.ifCond .eq 23, 3) := by decide +kernel
theorem dX5_wallsAsSeen_38 : decode cX5_wallsAsSeen 38 = .ok (.aload_n 0, 1) := by decide +kernel
theorem dX5_wallsAsSeen_39 : decode cX5_wallsAsSeen 39 = .ok (.getfield 29, 3) := by decide +kernel
theorem dX5_wallsAsSeen_42 : decode cX5_wallsAsSeen 42 = .ok (.aload_n 0, 1) := by decide +kernel
theorem dX5_wallsAsSeen_43 : decode cX5_wallsAsSeen 43 = .ok (.getfield 23, 3) := by decide +kernel
theorem dX5_wallsAsSeen_46 : decode cX5_wallsAsSeen 46 = .ok (.invokevirtual 244, 3) := by decide +kernel
theorem dX5_wallsAsSeen_49 : decode cX5_wallsAsSeen 49 = .ok (.ifCond .eq 9, 3) := by decide +kernel
theorem dX5_wallsAsSeen_52 : decode cX5_wallsAsSeen 52 = .ok (.iload_n 2, 1) := by decide +kernel
theorem dX5_wallsAsSeen_53 : decode cX5_wallsAsSeen 53 = .ok (.iconst 1, 1) := by decide +kernel
theorem dX5_wallsAsSeen_54 : decode cX5_wallsAsSeen 54 = .ok (.iload_n 3, 1) := by decide +kernel
theorem dX5_wallsAsSeen_55 : decode cX5_wallsAsSeen 55 = .ok (.ishl, 1) := by decide +kernel
theorem dX5_wallsAsSeen_56 : decode cX5_wallsAsSeen 56 = .ok (.ior, 1) := by decide +kernel
theorem dX5_wallsAsSeen_57 : decode cX5_wallsAsSeen 57 = .ok (.istore_n 2, 1) := by decide +kernel
theorem dX5_wallsAsSeen_58 : decode cX5_wallsAsSeen 58 = .ok (.iinc 3 1, 3) := by decide +kernel
theorem dX5_wallsAsSeen_61 : decode cX5_wallsAsSeen 61 = .ok (.goto (-46), 3) := by decide +kernel
theorem dX5_wallsAsSeen_64 : decode cX5_wallsAsSeen 64 = .ok (.iload_n 2, 1) := by decide +kernel
theorem dX5_wallsAsSeen_65 : decode cX5_wallsAsSeen 65 = .ok (.ireturn, 1) := by decide +kernel
theorem dX5_countReaching_0 : decode cX5_countReaching 0 = .ok (.aload_n 0, 1) := by decide +kernel
theorem dX5_countReaching_1 : decode cX5_countReaching 1 = .ok (.getfield 23, 3) := by decide +kernel
theorem dX5_countReaching_4 : decode cX5_countReaching 4 = .ok (.aload_n 0, 1) := by decide +kernel
theorem dX5_countReaching_5 : decode cX5_countReaching 5 = .ok (.getfield 19, 3) := by decide +kernel
theorem dX5_countReaching_8 : decode cX5_countReaching 8 = .ok (.invokevirtual 85, 3) := by decide +kernel
theorem dX5_countReaching_11 : decode cX5_countReaching 11 = .ok (.aload_n 0, 1) := by decide +kernel
theorem dX5_countReaching_12 : decode cX5_countReaching 12 = .ok (.getfield 48, 3) := by decide +kernel
theorem dX5_countReaching_15 : decode cX5_countReaching 15 = .ok (.iconst 0, 1) := by decide +kernel
theorem dX5_countReaching_16 : decode cX5_countReaching 16 = .ok (.invokestatic 298, 3) := by decide +kernel
theorem dX5_countReaching_19 : decode cX5_countReaching 19 = .ok (.iconst 0, 1) := by decide +kernel
theorem dX5_countReaching_20 : decode cX5_countReaching 20 = .ok (.istore 4, 2) := by decide +kernel
theorem dX5_countReaching_22 : decode cX5_countReaching 22 = .ok (.iload 4, 2) := by decide +kernel
theorem dX5_countReaching_24 : decode cX5_countReaching 24 = .ok (.aload_n 0, 1) := by decide +kernel
theorem dX5_countReaching_25 : decode cX5_countReaching 25 = .ok (.getfield 19, 3) := by decide +kernel
theorem dX5_countReaching_28 : decode cX5_countReaching 28 = .ok (.getfield 98, 3) := by decide +kernel
theorem dX5_countReaching_31 : decode cX5_countReaching 31 = .ok (.if_icmp .ge 78, 3) := by decide +kernel
theorem dX5_countReaching_34 : decode cX5_countReaching 34 = .ok (.iload_n 2, 1) := by decide +kernel
theorem dX5_countReaching_35 : decode cX5_countReaching 35 = .ok (.iload 4, 2) := by decide +kernel
theorem dX5_countReaching_37 : decode cX5_countReaching 37 = .ok (.invokestatic 292, 3) := by decide +kernel
theorem dX5_countReaching_40 : decode cX5_countReaching 40 = .ok (.ifCond .eq 27, 3) := by decide +kernel
theorem dX5_countReaching_43 : decode cX5_countReaching 43 = .ok (.aload_n 0, 1) := by decide +kernel
theorem dX5_countReaching_44 : decode cX5_countReaching 44 = .ok (.getfield 23, 3) := by decide +kernel
theorem dX5_countReaching_47 : decode cX5_countReaching 47 = .ok (.iload_n 1, 1) := by decide +kernel
theorem dX5_countReaching_48 : decode cX5_countReaching 48 = .ok (.iload 4, 2) := by decide +kernel
theorem dX5_countReaching_50 : decode cX5_countReaching 50 = .ok (.invokevirtual 295, 3) := by decide +kernel
theorem dX5_countReaching_53 : decode cX5_countReaching 53 = .ok (.ifCond .eq 14, 3) := by decide +kernel
theorem dX5_countReaching_56 : decode cX5_countReaching 56 = .ok (.aload_n 0, 1) := by decide +kernel
theorem dX5_countReaching_57 : decode cX5_countReaching 57 = .ok (.getfield 23, 3) := by decide +kernel
theorem dX5_countReaching_60 : decode cX5_countReaching 60 = .ok (.iload_n 3, 1) := by decide +kernel
theorem dX5_countReaching_61 : decode cX5_countReaching 61 = .ok (.invokevirtual 135, 3) := by decide +kernel
theorem dX5_countReaching_64 : decode cX5_countReaching 64 = .ok (.goto 4, 3) := by decide +kernel
theorem dX5_countReaching_67 : decode cX5_countReaching 67 = .ok (.iconst 0, 1) := by decide +kernel
theorem dX5_countReaching_68 : decode cX5_countReaching 68 = .ok (.istore 5, 2) := by decide +kernel
theorem dX5_countReaching_70 : decode cX5_countReaching 70 = .ok (.iconst 0, 1) := by decide +kernel
theorem dX5_countReaching_71 : decode cX5_countReaching 71 = .ok (.istore 6, 2) := by decide +kernel
theorem dX5_countReaching_73 : decode cX5_countReaching 73 = .ok (.iload 6, 2) := by decide +kernel
theorem dX5_countReaching_75 : decode cX5_countReaching 75 = .ok (.bipush 8, 2) := by decide +kernel
theorem dX5_countReaching_77 : decode cX5_countReaching 77 = .ok (.if_icmp .ge 26, 3) := by decide +kernel
theorem dX5_countReaching_80 : decode cX5_countReaching 80 = .ok (.aload_n 0, 1) := by decide +kernel
theorem dX5_countReaching_81 : decode cX5_countReaching 81 = .ok (.getfield 48, 3) := by decide +kernel
theorem dX5_countReaching_84 : decode cX5_countReaching 84 = .ok (.iload 6, 2) := by decide +kernel
theorem dX5_countReaching_86 : decode cX5_countReaching 86 = .ok (.dup2, 1) := by decide +kernel
theorem dX5_countReaching_87 : decode cX5_countReaching 87 = .ok (.iaload, 1) := by decide +kernel
theorem dX5_countReaching_88 : decode cX5_countReaching 88 = .ok (.iload 5, 2) := by decide +kernel
theorem dX5_countReaching_90 : decode cX5_countReaching 90 = .ok (.iload 6, 2) := by decide +kernel
theorem dX5_countReaching_92 : decode cX5_countReaching 92 = .ok (.iushr, 1) := by decide +kernel
theorem dX5_countReaching_93 : decode cX5_countReaching 93 = .ok (.iconst 1, 1) := by decide +kernel
theorem dX5_countReaching_94 : decode cX5_countReaching 94 = .ok (.iand, 1) := by decide +kernel
theorem dX5_countReaching_95 : decode cX5_countReaching 95 = .ok (.iadd, 1) := by decide +kernel
theorem dX5_countReaching_96 : decode cX5_countReaching 96 = .ok (.iastore, 1) := by decide +kernel
theorem dX5_countReaching_97 : decode cX5_countReaching 97 = .ok (.iinc 6 1, 3) := by decide +kernel
theorem dX5_countReaching_100 : decode cX5_countReaching 100 = .ok (.goto (-27), 3) := by decide +kernel
theorem dX5_countReaching_103 : decode cX5_countReaching 103 = .ok (.iinc 4 1, 3) := by decide +kernel
theorem dX5_countReaching_106 : decode cX5_countReaching 106 = .ok (.goto (-84), 3) := by decide +kernel
theorem dX5_countReaching_109 : decode cX5_countReaching 109 = .ok (.return_, 1) := by decide +kernel
end
section
theorem dX6_init_0 : decode cX6_init 0 = .ok (.aload_n 0, 1) := by decide +kernel
theorem dX6_init_1 : decode cX6_init 1 = .ok (.invokespecial 1, 3) := by decide +kernel
theorem dX6_init_4 : decode cX6_init 4 = .ok (.aload_n 0, 1) := by decide +kernel
theorem dX6_init_5 : decode cX6_init 5 = .ok (.sipush 325, 3) := by decide +kernel
theorem dX6_init_8 : decode cX6_init 8 = .ok (.newarray .int, 2) := by decide +kernel
theorem dX6_init_10 : decode cX6_init 10 = .ok (.putfield 7, 3) := by decide +kernel
theorem dX6_init_13 : decode cX6_init 13 = .ok (.aload_n 0, 1) := by decide +kernel
theorem dX6_init_14 : decode cX6_init 14 = .ok (.bipush 65, 2) := by decide +kernel
theorem dX6_init_16 : decode cX6_init 16 = .ok (.newarray .int, 2) := by decide +kernel
theorem dX6_init_18 : decode cX6_init 18 = .ok (.putfield 13, 3) := by decide +kernel
theorem dX6_init_21 : decode cX6_init 21 = .ok (.aload_n 0, 1) := by decide +kernel
theorem dX6_init_22 : decode cX6_init 22 = .ok (.sipush 160, 3) := by decide +kernel
theorem dX6_init_25 : decode cX6_init 25 = .ok (.newarray .int, 2) := by decide +kernel
theorem dX6_init_27 : decode cX6_init 27 = .ok (.putfield 16, 3) := by decide +kernel
theorem dX6_init_30 : decode cX6_init 30 = .ok (.aload_n 0, 1) := by decide +kernel
theorem dX6_init_31 : decode cX6_init 31 = .ok (.bipush 8, 2) := by decide +kernel
theorem dX6_init_33 : decode cX6_init 33 = .ok (.newarray .int, 2) := by decide +kernel
theorem dX6_init_35 : decode cX6_init 35 = .ok (.dup, 1) := by decide +kernel
theorem dX6_init_36 : decode cX6_init 36 = .ok (.iconst 0, 1) := by decide +kernel
theorem dX6_init_37 : decode cX6_init 37 = .ok (.iconst 0, 1) := by decide +kernel
theorem dX6_init_38 : decode cX6_init 38 = .ok (.iastore, 1) := by decide +kernel
theorem dX6_init_39 : decode cX6_init 39 = .ok (.dup, 1) := by decide +kernel
theorem dX6_init_40 : decode cX6_init 40 = .ok (.iconst 1, 1) := by decide +kernel
theorem dX6_init_41 : decode cX6_init 41 = .ok (.iconst 3, 1) := by decide +kernel
theorem dX6_init_42 : decode cX6_init 42 = .ok (.iastore, 1) := by decide +kernel
theorem dX6_init_43 : decode cX6_init 43 = .ok (.dup, 1) := by decide +kernel
theorem dX6_init_44 : decode cX6_init 44 = .ok (.iconst 2, 1) := by decide +kernel
theorem dX6_init_45 : decode cX6_init 45 = .ok (.bipush 8, 2) := by decide +kernel
theorem dX6_init_47 : decode cX6_init 47 = .ok (.iastore, 1) := by decide +kernel
theorem dX6_init_48 : decode cX6_init 48 = .ok (.dup, 1) := by decide +kernel
theorem dX6_init_49 : decode cX6_init 49 = .ok (.iconst 3, 1) := by decide +kernel
theorem dX6_init_50 : decode cX6_init 50 = .ok (.bipush 16, 2) := by decide +kernel
theorem dX6_init_52 : decode cX6_init 52 = .ok (.iastore, 1) := by decide +kernel
theorem dX6_init_53 : decode cX6_init 53 = .ok (.dup, 1) := by decide +kernel
theorem dX6_init_54 : decode cX6_init 54 = .ok (.iconst 4, 1) := by decide +kernel
theorem dX6_init_55 : decode cX6_init 55 = .ok (.bipush 20, 2) := by decide +kernel
theorem dX6_init_57 : decode cX6_init 57 = .ok (.iastore, 1) := by decide +kernel
theorem dX6_init_58 : decode cX6_init 58 = .ok (.dup, 1) := by decide +kernel
theorem dX6_init_59 : decode cX6_init 59 = .ok (.iconst 5, 1) := by decide +kernel
theorem dX6_init_60 : decode cX6_init 60 = .ok (.bipush 24, 2) := by decide +kernel
theorem dX6_init_62 : decode cX6_init 62 = .ok (.iastore, 1) := by decide +kernel
theorem dX6_init_63 : decode cX6_init 63 = .ok (.dup, 1) := by decide +kernel
theorem dX6_init_64 : decode cX6_init 64 = .ok (.bipush 6, 2) := by decide +kernel
theorem dX6_init_66 : decode cX6_init 66 = .ok (.bipush 28, 2) := by decide +kernel
theorem dX6_init_68 : decode cX6_init 68 = .ok (.iastore, 1) := by decide +kernel
theorem dX6_init_69 : decode cX6_init 69 = .ok (.dup, 1) := by decide +kernel
theorem dX6_init_70 : decode cX6_init 70 = .ok (.bipush 7, 2) := by decide +kernel
theorem dX6_init_72 : decode cX6_init 72 = .ok (.bipush 32, 2) := by decide +kernel
theorem dX6_init_74 : decode cX6_init 74 = .ok (.iastore, 1) := by decide +kernel
theorem dX6_init_75 : decode cX6_init 75 = .ok (.putfield 19, 3) := by decide +kernel
theorem dX6_init_78 : decode cX6_init 78 = .ok (.aload_n 0, 1) := by decide +kernel
theorem dX6_init_79 : decode cX6_init 79 = .ok (.bipush 32, 2) := by decide +kernel
theorem dX6_init_81 : decode cX6_init 81 = .ok (.newarray .int, 2) := by decide +kernel
theorem dX6_init_83 : decode cX6_init 83 = .ok (.dup, 1) := by decide +kernel
theorem dX6_init_84 : decode cX6_init 84 = .ok (.iconst 0, 1) := by decide +kernel
theorem dX6_init_85 : decode cX6_init 85 = .ok (.bipush 111, 2) := by decide +kernel
theorem dX6_init_87 : decode cX6_init 87 = .ok (.iastore, 1) := by decide +kernel
theorem dX6_init_88 : decode cX6_init 88 = .ok (.dup, 1) := by decide +kernel
theorem dX6_init_89 : decode cX6_init 89 = .ok (.iconst 1, 1) := by decide +kernel
theorem dX6_init_90 : decode cX6_init 90 = .ok (.bipush 119, 2) := by decide +kernel
theorem dX6_init_92 : decode cX6_init 92 = .ok (.iastore, 1) := by decide +kernel
theorem dX6_init_93 : decode cX6_init 93 = .ok (.dup, 1) := by decide +kernel
theorem dX6_init_94 : decode cX6_init 94 = .ok (.iconst 2, 1) := by decide +kernel
theorem dX6_init_95 : decode cX6_init 95 = .ok (.bipush 110, 2) := by decide +kernel
theorem dX6_init_97 : decode cX6_init 97 = .ok (.iastore, 1) := by decide +kernel
theorem dX6_init_98 : decode cX6_init 98 = .ok (.dup, 1) := by decide +kernel
theorem dX6_init_99 : decode cX6_init 99 = .ok (.iconst 3, 1) := by decide +kernel
theorem dX6_init_100 : decode cX6_init 100 = .ok (.bipush 104, 2) := by decide +kernel
theorem dX6_init_102 : decode cX6_init 102 = .ok (.iastore, 1) := by decide +kernel
theorem dX6_init_103 : decode cX6_init 103 = .ok (.dup, 1) := by decide +kernel
theorem dX6_init_104 : decode cX6_init 104 = .ok (.iconst 4, 1) := by decide +kernel
theorem dX6_init_105 : decode cX6_init 105 = .ok (.bipush 111, 2) := by decide +kernel
theorem dX6_init_107 : decode cX6_init 107 = .ok (.iastore, 1) := by decide +kernel
theorem dX6_init_108 : decode cX6_init 108 = .ok (.dup, 1) := by decide +kernel
theorem dX6_init_109 : decode cX6_init 109 = .ok (.iconst 5, 1) := by decide +kernel
theorem dX6_init_110 : decode cX6_init 110 = .ok (.bipush 117, 2) := by decide +kernel
theorem dX6_init_112 : decode cX6_init 112 = .ok (.iastore, 1) := by decide +kernel
theorem dX6_init_113 : decode cX6_init 113 = .ok (.dup, 1) := by decide +kernel
theorem dX6_init_114 : decode cX6_init 114 = .ok (.bipush 6, 2) := by decide +kernel
theorem dX6_init_116 : decode cX6_init 116 = .ok (.bipush 115, 2) := by decide +kernel
theorem dX6_init_118 : decode cX6_init 118 = .ok (.iastore, 1) := by decide +kernel
theorem dX6_init_119 : decode cX6_init 119 = .ok (.dup, 1) := by decide +kernel
theorem dX6_init_120 : decode cX6_init 120 = .ok (.bipush 7, 2) := by decide +kernel
theorem dX6_init_122 : decode cX6_init 122 = .ok (.bipush 101, 2) := by decide +kernel
theorem dX6_init_124 : decode cX6_init 124 = .ok (.iastore, 1) := by decide +kernel
theorem dX6_init_125 : decode cX6_init 125 = .ok (.dup, 1) := by decide +kernel
theorem dX6_init_126 : decode cX6_init 126 = .ok (.bipush 8, 2) := by decide +kernel
theorem dX6_init_128 : decode cX6_init 128 = .ok (.bipush 115, 2) := by decide +kernel
theorem dX6_init_130 : decode cX6_init 130 = .ok (.iastore, 1) := by decide +kernel
theorem dX6_init_131 : decode cX6_init 131 = .ok (.dup, 1) := by decide +kernel
theorem dX6_init_132 : decode cX6_init 132 = .ok (.bipush 9, 2) := by decide +kernel
theorem dX6_init_134 : decode cX6_init 134 = .ok (.bipush 116, 2) := by decide +kernel
theorem dX6_init_136 : decode cX6_init 136 = .ok (.iastore, 1) := by decide +kernel
theorem dX6_init_137 : decode cX6_init 137 = .ok (.dup, 1) := by decide +kernel
theorem dX6_init_138 : decode cX6_init 138 = .ok (.bipush 10, 2) := by decide +kernel
theorem dX6_init_140 : decode cX6_init 140 = .ok (.bipush 114, 2) := by decide +kernel
theorem dX6_init_142 : decode cX6_init 142 = .ok (.iastore, 1) := by decide +kernel
theorem dX6_init_143 : decode cX6_init 143 = .ok (.dup, 1) := by decide +kernel
theorem dX6_init_144 : decode cX6_init 144 = .ok (.bipush 11, 2) := by decide +kernel
theorem dX6_init_146 : decode cX6_init 146 = .ok (.bipush 97, 2) := by decide +kernel
theorem dX6_init_148 : decode cX6_init 148 = .ok (.iastore, 1) := by decide +kernel
theorem dX6_init_149 : decode cX6_init 149 = .ok (.dup, 1) := by decide +kernel
theorem dX6_init_150 : decode cX6_init 150 = .ok (.bipush 12, 2) := by decide +kernel
theorem dX6_init_152 : decode cX6_init 152 = .ok (.bipush 110, 2) := by decide +kernel
theorem dX6_init_154 : decode cX6_init 154 = .ok (.iastore, 1) := by decide +kernel
theorem dX6_init_155 : decode cX6_init 155 = .ok (.dup, 1) := by decide +kernel
theorem dX6_init_156 : decode cX6_init 156 = .ok (.bipush 13, 2) := by decide +kernel
theorem dX6_init_158 : decode cX6_init 158 = .ok (.bipush 103, 2) := by decide +kernel
theorem dX6_init_160 : decode cX6_init 160 = .ok (.iastore, 1) := by decide +kernel
theorem dX6_init_161 : decode cX6_init 161 = .ok (.dup, 1) := by decide +kernel
theorem dX6_init_162 : decode cX6_init 162 = .ok (.bipush 14, 2) := by decide +kernel
theorem dX6_init_164 : decode cX6_init 164 = .ok (.bipush 101, 2) := by decide +kernel
theorem dX6_init_166 : decode cX6_init 166 = .ok (.iastore, 1) := by decide +kernel
theorem dX6_init_167 : decode cX6_init 167 = .ok (.dup, 1) := by decide +kernel
theorem dX6_init_168 : decode cX6_init 168 = .ok (.bipush 15, 2) := by decide +kernel
theorem dX6_init_170 : decode cX6_init 170 = .ok (.bipush 114, 2) := by decide +kernel
theorem dX6_init_172 : decode cX6_init 172 = .ok (.iastore, 1) := by decide +kernel
theorem dX6_init_173 : decode cX6_init 173 = .ok (.dup, 1) := by decide +kernel
theorem dX6_init_174 : decode cX6_init 174 = .ok (.bipush 16, 2) := by decide +kernel
theorem dX6_init_176 : decode cX6_init 176 = .ok (.bipush 103, 2) := by decide +kernel
theorem dX6_init_178 : decode cX6_init 178 = .ok (.iastore, 1) := by decide +kernel
theorem dX6_init_179 : decode cX6_init 179 = .ok (.dup, 1) := by decide +kernel
theorem dX6_init_180 : decode cX6_init 180 = .ok (.bipush 17, 2) := by decide +kernel
theorem dX6_init_182 : decode cX6_init 182 = .ok (.bipush 97, 2) := by decide +kernel
theorem dX6_init_184 : decode cX6_init 184 = .ok (.iastore, 1) := by decide +kernel
theorem dX6_init_185 : decode cX6_init 185 = .ok (.dup, 1) := by decide +kernel
theorem dX6_init_186 : decode cX6_init 186 = .ok (.bipush 18, 2) := by decide +kernel
theorem dX6_init_188 : decode cX6_init 188 = .ok (.bipush 111, 2) := by decide +kernel
theorem dX6_init_190 : decode cX6_init 190 = .ok (.iastore, 1) := by decide +kernel
theorem dX6_init_191 : decode cX6_init 191 = .ok (.dup, 1) := by decide +kernel
theorem dX6_init_192 : decode cX6_init 192 = .ok (.bipush 19, 2) := by decide +kernel
theorem dX6_init_194 : decode cX6_init 194 = .ok (.bipush 108, 2) := by decide +kernel
theorem dX6_init_196 : decode cX6_init 196 = .ok (.iastore, 1) := by decide +kernel
theorem dX6_init_197 : decode cX6_init 197 = .ok (.dup, 1) := by decide +kernel
theorem dX6_init_198 : decode cX6_init 198 = .ok (.bipush 20, 2) := by decide +kernel
theorem dX6_init_200 : decode cX6_init 200 = .ok (.bipush 119, 2) := by decide +kernel
theorem dX6_init_202 : decode cX6_init 202 = .ok (.iastore, 1) := by decide +kernel
theorem dX6_init_203 : decode cX6_init 203 = .ok (.dup, 1) := by decide +kernel
theorem dX6_init_204 : decode cX6_init 204 = .ok (.bipush 21, 2) := by decide +kernel
theorem dX6_init_206 : decode cX6_init 206 = .ok (.bipush 97, 2) := by decide +kernel
theorem dX6_init_208 : decode cX6_init 208 = .ok (.iastore, 1) := by decide +kernel
theorem dX6_init_209 : decode cX6_init 209 = .ok (.dup, 1) := by decide +kernel
theorem dX6_init_210 : decode cX6_init 210 = .ok (.bipush 22, 2) := by decide +kernel
theorem dX6_init_212 : decode cX6_init 212 = .ok (.bipush 108, 2) := by decide +kernel
theorem dX6_init_214 : decode cX6_init 214 = .ok (.iastore, 1) := by decide +kernel
theorem dX6_init_215 : decode cX6_init 215 = .ok (.dup, 1) := by decide +kernel
theorem dX6_init_216 : decode cX6_init 216 = .ok (.bipush 23, 2) := by decide +kernel
theorem dX6_init_218 : decode cX6_init 218 = .ok (.bipush 108, 2) := by decide +kernel
theorem dX6_init_220 : decode cX6_init 220 = .ok (.iastore, 1) := by decide +kernel
theorem dX6_init_221 : decode cX6_init 221 = .ok (.dup, 1) := by decide +kernel
theorem dX6_init_222 : decode cX6_init 222 = .ok (.bipush 24, 2) := by decide +kernel
theorem dX6_init_224 : decode cX6_init 224 = .ok (.bipush 114, 2) := by decide +kernel
theorem dX6_init_226 : decode cX6_init 226 = .ok (.iastore, 1) := by decide +kernel
theorem dX6_init_227 : decode cX6_init 227 = .ok (.dup, 1) := by decide +kernel
theorem dX6_init_228 : decode cX6_init 228 = .ok (.bipush 25, 2) := by decide +kernel
theorem dX6_init_230 : decode cX6_init 230 = .ok (.bipush 111, 2) := by decide +kernel
theorem dX6_init_232 : decode cX6_init 232 = .ok (.iastore, 1) := by decide +kernel
theorem dX6_init_233 : decode cX6_init 233 = .ok (.dup, 1) := by decide +kernel
theorem dX6_init_234 : decode cX6_init 234 = .ok (.bipush 26, 2) := by decide +kernel
theorem dX6_init_236 : decode cX6_init 236 = .ok (.bipush 111, 2) := by decide +kernel
theorem dX6_init_238 : decode cX6_init 238 = .ok (.iastore, 1) := by decide +kernel
theorem dX6_init_239 : decode cX6_init 239 = .ok (.dup, 1) := by decide +kernel
theorem dX6_init_240 : decode cX6_init 240 = .ok (.bipush 27, 2) := by decide +kernel
theorem dX6_init_242 : decode cX6_init 242 = .ok (.bipush 109, 2) := by decide +kernel
theorem dX6_init_244 : decode cX6_init 244 = .ok (.iastore, 1) := by decide +kernel
theorem dX6_init_245 : decode cX6_init 245 = .ok (.dup, 1) := by decide +kernel
theorem dX6_init_246 : decode cX6_init 246 = .ok (.bipush 28, 2) := by decide +kernel
theorem dX6_init_248 : decode cX6_init 248 = .ok (.bipush 112, 2) := by decide +kernel
theorem dX6_init_250 : decode cX6_init 250 = .ok (.iastore, 1) := by decide +kernel
theorem dX6_init_251 : decode cX6_init 251 = .ok (.dup, 1) := by decide +kernel
theorem dX6_init_252 : decode cX6_init 252 = .ok (.bipush 29, 2) := by decide +kernel
theorem dX6_init_254 : decode cX6_init 254 = .ok (.bipush 108, 2) := by decide +kernel
theorem dX6_init_256 : decode cX6_init 256 = .ok (.iastore, 1) := by decide +kernel
theorem dX6_init_257 : decode cX6_init 257 = .ok (.dup, 1) := by decide +kernel
theorem dX6_init_258 : decode cX6_init 258 = .ok (.bipush 30, 2) := by decide +kernel
theorem dX6_init_260 : decode cX6_init 260 = .ok (.bipush 97, 2) := by decide +kernel
theorem dX6_init_262 : decode cX6_init 262 = .ok (.iastore, 1) := by decide +kernel
theorem dX6_init_263 : decode cX6_init 263 = .ok (.dup, 1) := by decide +kernel
theorem dX6_init_264 : decode cX6_init 264 = .ok (.bipush 31, 2) := by decide +kernel
theorem dX6_init_266 : decode cX6_init 266 = .ok (.bipush 110, 2) := by decide +kernel
theorem dX6_init_268 : decode cX6_init 268 = .ok (.iastore, 1) := by decide +kernel
theorem dX6_init_269 : decode cX6_init 269 = .ok (.putfield 22, 3) := by decide +kernel
theorem dX6_init_272 : decode cX6_init 272 = .ok (.aload_n 0, 1) := by decide +kernel
theorem dX6_init_273 : decode cX6_init 273 = .ok (.bipush 8, 2) := by decide +kernel
theorem dX6_init_275 : decode cX6_init 275 = .ok (.newarray .int, 2) := by decide +kernel
theorem dX6_init_277 : decode cX6_init 277 = .ok (.putfield 25, 3) := by decide +kernel
theorem dX6_init_280 : decode cX6_init 280 = .ok (.aload_n 0, 1) := by decide +kernel
theorem dX6_init_281 : decode cX6_init 281 = .ok (.bipush 18, 2) := by decide +kernel
theorem dX6_init_283 : decode cX6_init 283 = .ok (.newarray .int, 2) := by decide +kernel
theorem dX6_init_285 : decode cX6_init 285 = .ok (.putfield 28, 3) := by decide +kernel
theorem dX6_init_288 : decode cX6_init 288 = .ok (.aload_n 0, 1) := by decide +kernel
theorem dX6_init_289 : decode cX6_init 289 = .ok (.bipush 45, 2) := by decide +kernel
theorem dX6_init_291 : decode cX6_init 291 = .ok (.newarray .int, 2) := by decide +kernel
theorem dX6_init_293 : decode cX6_init 293 = .ok (.putfield 31, 3) := by decide +kernel
theorem dX6_init_296 : decode cX6_init 296 = .ok (.aload_n 0, 1) := by decide +kernel
theorem dX6_init_297 : decode cX6_init 297 = .ok (.iconst 2, 1) := by decide +kernel
theorem dX6_init_298 : decode cX6_init 298 = .ok (.newarray .boolean, 2) := by decide +kernel
theorem dX6_init_300 : decode cX6_init 300 = .ok (.putfield 34, 3) := by decide +kernel
theorem dX6_init_303 : decode cX6_init 303 = .ok (.aload_n 0, 1) := by decide +kernel
theorem dX6_init_304 : decode cX6_init 304 = .ok (.iconst 4, 1) := by decide +kernel
theorem dX6_init_305 : decode cX6_init 305 = .ok (.newarray .int, 2) := by decide +kernel
theorem dX6_init_307 : decode cX6_init 307 = .ok (.dup, 1) := by decide +kernel
theorem dX6_init_308 : decode cX6_init 308 = .ok (.iconst 0, 1) := by decide +kernel
theorem dX6_init_309 : decode cX6_init 309 = .ok (.bipush (-4), 2) := by decide +kernel
theorem dX6_init_311 : decode cX6_init 311 = .ok (.iastore, 1) := by decide +kernel
theorem dX6_init_312 : decode cX6_init 312 = .ok (.dup, 1) := by decide +kernel
theorem dX6_init_313 : decode cX6_init 313 = .ok (.iconst 1, 1) := by decide +kernel
theorem dX6_init_314 : decode cX6_init 314 = .ok (.bipush (-4), 2) := by decide +kernel
theorem dX6_init_316 : decode cX6_init 316 = .ok (.iastore, 1) := by decide +kernel
theorem dX6_init_317 : decode cX6_init 317 = .ok (.dup, 1) := by decide +kernel
theorem dX6_init_318 : decode cX6_init 318 = .ok (.iconst 2, 1) := by decide +kernel
theorem dX6_init_319 : decode cX6_init 319 = .ok (.bipush (-4), 2) := by decide +kernel
theorem dX6_init_321 : decode cX6_init 321 = .ok (.iastore, 1) := by decide +kernel
theorem dX6_init_322 : decode cX6_init 322 = .ok (.dup, 1) := by decide +kernel
theorem dX6_init_323 : decode cX6_init 323 = .ok (.iconst 3, 1) := by decide +kernel
theorem dX6_init_324 : decode cX6_init 324 = .ok (.bipush (-4), 2) := by decide +kernel
theorem dX6_init_326 : decode cX6_init 326 = .ok (.iastore, 1) := by decide +kernel
theorem dX6_init_327 : decode cX6_init 327 = .ok (.putfield 38, 3) := by decide +kernel
theorem dX6_init_330 : decode cX6_init 330 = .ok (.aload_n 0, 1) := by decide +kernel
theorem dX6_init_331 : decode cX6_init 331 = .ok (.iconst 4, 1) := by decide +kernel
theorem dX6_init_332 : decode cX6_init 332 = .ok (.newarray .int, 2) := by decide +kernel
theorem dX6_init_334 : decode cX6_init 334 = .ok (.putfield 41, 3) := by decide +kernel
theorem dX6_init_337 : decode cX6_init 337 = .ok (.aload_n 0, 1) := by decide +kernel
theorem dX6_init_338 : decode cX6_init 338 = .ok (.sipush 160, 3) := by decide +kernel
theorem dX6_init_341 : decode cX6_init 341 = .ok (.newarray .int, 2) := by decide +kernel
theorem dX6_init_343 : decode cX6_init 343 = .ok (.putfield 44, 3) := by decide +kernel
theorem dX6_init_346 : decode cX6_init 346 = .ok (.return_, 1) := by decide +kernel
theorem dX6_in_0 : decode cX6_in 0 = .ok (.lload_n 0, 1) := by decide +kernel
theorem dX6_in_1 : decode cX6_in 1 = .ok (.lload_n 2, 1) := by decide +kernel
theorem dX6_in_2 : decode cX6_in 2 = .ok (.lcmp, 1) := by decide +kernel
theorem dX6_in_3 : decode cX6_in 3 = .ok (.ifCond .lt 14, 3) := by decide +kernel
theorem dX6_in_6 : decode cX6_in 6 = .ok (.lload_n 0, 1) := by decide +kernel
theorem dX6_in_7 : decode cX6_in 7 = .ok (.lload 4, 2) := by decide +kernel
theorem dX6_in_9 : decode cX6_in 9 = .ok (.lcmp, 1) := by decide +kernel
theorem dX6_in_10 : decode cX6_in 10 = .ok (.ifCond .gt 7, 3) := by decide +kernel
theorem dX6_in_13 : decode cX6_in 13 = .ok (.iconst 1, 1) := by decide +kernel
theorem dX6_in_14 : decode cX6_in 14 = .ok (.goto 4, 3) := by decide +kernel
theorem dX6_in_17 : decode cX6_in 17 = .ok (.iconst 0, 1) := by decide +kernel
theorem dX6_in_18 : decode cX6_in 18 = .ok (.ireturn, 1) := by decide +kernel
theorem dX6_feed_0 : decode cX6_feed 0 = .ok (.iload_n 1, 1) := by decide +kernel
theorem dX6_feed_1 : decode cX6_feed 1 = .ok (.i2l, 1) := by decide +kernel
theorem dX6_feed_2 : decode cX6_feed 2 = .ok (.lconst 0, 1) := by decide +kernel
theorem dX6_feed_3 : decode cX6_feed 3 = .ok (.ldc2_w 47, 3) := by decide +kernel
theorem dX6_feed_6 : decode cX6_feed 6 = .ok (.invokestatic 49, 3) := by decide +kernel
theorem dX6_feed_9 : decode cX6_feed 9 = .ok (.ifCond .ne 5, 3) := by decide +kernel
theorem dX6_feed_12 : decode cX6_feed 12 = .ok (.iconst (-1), 1) := by decide +kernel
theorem dX6_feed_13 : decode cX6_feed 13 = .ok (.ireturn, 1) := by decide +kernel
theorem dX6_feed_14 : decode cX6_feed 14 = .ok (.aload_n 0, 1) := by decide +kernel
theorem dX6_feed_15 : decode cX6_feed 15 = .ok (.getfield 53, 3) := by decide +kernel
theorem dX6_feed_18 : decode cX6_feed 18 = .ok (.sipush 160, 3) := by decide +kernel
theorem dX6_feed_21 : decode cX6_feed 21 = .ok (.if_icmp .ne 6, 3) := by decide +kernel
theorem dX6_feed_24 : decode cX6_feed 24 = .ok (.bipush (-3), 2) := by decide +kernel
theorem dX6_feed_26 : decode cX6_feed 26 = .ok (.ireturn, 1) := by decide +kernel
theorem dX6_feed_27 : decode cX6_feed 27 = .ok (.aload_n 0, 1) := by decide +kernel
theorem dX6_feed_28 : decode cX6_feed 28 = .ok (.getfield 16, 3) := by decide +kernel
theorem dX6_feed_31 : decode cX6_feed 31 = .ok (.aload_n 0, 1) := by decide +kernel
theorem dX6_feed_32 : decode cX6_feed 32 = .ok (.getfield 53, 3) := by decide +kernel
theorem dX6_feed_35 : decode cX6_feed 35 = .ok (.iload_n 1, 1) := by decide +kernel
theorem dX6_feed_36 : decode cX6_feed 36 = .ok (.iastore, 1) := by decide +kernel
theorem dX6_feed_37 : decode cX6_feed 37 = .ok (.aload_n 0, 1) := by decide +kernel
theorem dX6_feed_38 : decode cX6_feed 38 = .ok (.dup, 1) := by decide +kernel
theorem dX6_feed_39 : decode cX6_feed 39 = .ok (.getfield 53, 3) := by decide +kernel
theorem dX6_feed_42 : decode cX6_feed 42 = .ok (.iconst 1, 1) := by decide +kernel
theorem dX6_feed_43 : decode cX6_feed 43 = .ok (.iadd, 1) := by decide +kernel
theorem dX6_feed_44 : decode cX6_feed 44 = .ok (.putfield 53, 3) := by decide +kernel
theorem dX6_feed_47 : decode cX6_feed 47 = .ok (.aload_n 0, 1) := by decide +kernel
theorem dX6_feed_48 : decode cX6_feed 48 = .ok (.getfield 53, 3) := by decide +kernel
theorem dX6_feed_51 : decode cX6_feed 51 = .ok (.ireturn, 1) := by decide +kernel
theorem dX6_end_0 : decode cX6_end 0 = .ok (.iload_n 1, 1) := by decide +kernel
theorem dX6_end_1 : decode cX6_end 1 = .ok (.i2l, 1) := by decide +kernel
theorem dX6_end_2 : decode cX6_end 2 = .ok (.lconst 0, 1) := by decide +kernel
theorem dX6_end_3 : decode cX6_end 3 = .ok (.aload_n 0, 1) := by decide +kernel
theorem dX6_end_4 : decode cX6_end 4 = .ok (.getfield 53, 3) := by decide +kernel
theorem dX6_end_7 : decode cX6_end 7 = .ok (.i2l, 1) := by decide +kernel
theorem dX6_end_8 : decode cX6_end 8 = .ok (.invokestatic 49, 3) := by decide +kernel
theorem dX6_end_11 : decode cX6_end 11 = .ok (.ifCond .ne 5, 3) := by decide +kernel
theorem dX6_end_14 : decode cX6_end 14 = .ok (.iconst (-1), 1) := by decide +kernel
theorem dX6_end_15 : decode cX6_end 15 = .ok (.ireturn, 1) := by decide +kernel
theorem dX6_end_16 : decode cX6_end 16 = .ok (.aload_n 0, 1) := by decide +kernel
theorem dX6_end_17 : decode cX6_end 17 = .ok (.getfield 53, 3) := by decide +kernel
theorem dX6_end_20 : decode cX6_end 20 = .ok (.istore_n 2, 1) := by decide +kernel
theorem dX6_end_21 : decode cX6_end 21 = .ok (.aload_n 0, 1) := by decide +kernel
theorem dX6_end_22 : decode cX6_end 22 = .ok (.iload_n 1, 1) := by decide +kernel
theorem dX6_end_23 : decode cX6_end 23 = .ok (.putfield 53, 3) := by decide +kernel
theorem dX6_end_26 : decode cX6_end 26 = .ok (.iload_n 2, 1) := by decide +kernel
theorem dX6_end_27 : decode cX6_end 27 = .ok (.ireturn, 1) := by decide +kernel
theorem dX6_byteAt_0 : decode cX6_byteAt 0 = .ok (.iload_n 1, 1) := by decide +kernel
theorem dX6_byteAt_1 : decode cX6_byteAt 1 = .ok (.aload_n 0, 1) := by decide +kernel
theorem dX6_byteAt_2 : decode cX6_byteAt 2 = .ok (.getfield 53, 3) := by decide +kernel
theorem dX6_byteAt_5 : decode cX6_byteAt 5 = .ok (.if_icmp .ge 12, 3) := by decide +kernel
theorem dX6_byteAt_8 : decode cX6_byteAt 8 = .ok (.aload_n 0, 1) := by decide +kernel
theorem dX6_byteAt_9 : decode cX6_byteAt 9 = .ok (.getfield 16, 3) := by decide +kernel
theorem dX6_byteAt_12 : decode cX6_byteAt 12 = .ok (.iload_n 1, 1) := by decide +kernel
theorem dX6_byteAt_13 : decode cX6_byteAt 13 = .ok (.iaload, 1) := by decide +kernel
theorem dX6_byteAt_14 : decode cX6_byteAt 14 = .ok (.goto 5, 3) := by decide +kernel
theorem dX6_byteAt_17 : decode cX6_byteAt 17 = .ok (.bipush (-4), 2) := by decide +kernel
theorem dX6_byteAt_19 : decode cX6_byteAt 19 = .ok (.ireturn, 1) := by decide +kernel
theorem dX6_fails_0 : decode cX6_fails 0 = .ok (.aload_n 0, 1) := by decide +kernel
theorem dX6_fails_1 : decode cX6_fails 1 = .ok (.getfield 57, 3) := by decide +kernel
theorem dX6_fails_4 : decode cX6_fails 4 = .ok (.ifCond .ne 16, 3) := by decide +kernel
theorem dX6_fails_7 : decode cX6_fails 7 = .ok (.aload_n 0, 1) := by decide +kernel
theorem dX6_fails_8 : decode cX6_fails 8 = .ok (.iload_n 1, 1) := by decide +kernel
theorem dX6_fails_9 : decode cX6_fails 9 = .ok (.putfield 57, 3) := by decide +kernel
theorem dX6_fails_12 : decode cX6_fails 12 = .ok (.aload_n 0, 1) := by decide +kernel
theorem dX6_fails_13 : decode cX6_fails 13 = .ok (.aload_n 0, 1) := by decide +kernel
theorem dX6_fails_14 : decode cX6_fails 14 = .ok (.getfield 60, 3) := by decide +kernel
theorem dX6_fails_17 : decode cX6_fails 17 = .ok (.putfield 63, 3) := by decide +kernel
theorem dX6_fails_20 : decode cX6_fails 20 = .ok (.return_, 1) := by decide +kernel
theorem dX6_nameHere_0 : decode cX6_nameHere 0 = .ok (.iconst 0, 1) := by decide +kernel
theorem dX6_nameHere_1 : decode cX6_nameHere 1 = .ok (.istore_n 1, 1) := by decide +kernel
theorem dX6_nameHere_2 : decode cX6_nameHere 2 = .ok (.iload_n 1, 1) := by decide +kernel
theorem dX6_nameHere_3 : decode cX6_nameHere 3 = .ok (.bipush 7, 2) := by decide +kernel
theorem dX6_nameHere_5 : decode cX6_nameHere 5 = .ok (.if_icmp .ge 113, 3) := by decide +kernel
theorem dX6_nameHere_8 : decode cX6_nameHere 8 = .ok (.aload_n 0, 1) := by decide +kernel
theorem dX6_nameHere_9 : decode cX6_nameHere 9 = .ok (.getfield 66, 3) := by decide +kernel
theorem dX6_nameHere_12 : decode cX6_nameHere 12 = .ok (.iconst 1, 1) := by decide +kernel
theorem dX6_nameHere_13 : decode cX6_nameHere 13 = .ok (.if_icmp .ne 105, 3) := by decide +kernel
theorem dX6_nameHere_16 : decode cX6_nameHere 16 = .ok (.aload_n 0, 1) := by decide +kernel
theorem dX6_nameHere_17 : decode cX6_nameHere 17 = .ok (.getfield 69, 3) := by decide +kernel
theorem dX6_nameHere_20 : decode cX6_nameHere 20 = .ok (.aload_n 0, 1) := by decide +kernel
theorem dX6_nameHere_21 : decode cX6_nameHere 21 = .ok (.getfield 60, 3) := by decide +kernel
theorem dX6_nameHere_24 : decode cX6_nameHere 24 = .ok (.isub, 1) := by decide +kernel
theorem dX6_nameHere_25 : decode cX6_nameHere 25 = .ok (.aload_n 0, 1) := by decide +kernel
theorem dX6_nameHere_26 : decode cX6_nameHere 26 = .ok (.getfield 19, 3) := by decide +kernel
theorem dX6_nameHere_29 : decode cX6_nameHere 29 = .ok (.iload_n 1, 1) := by decide +kernel
theorem dX6_nameHere_30 : decode cX6_nameHere 30 = .ok (.iconst 1, 1) := by decide +kernel
theorem dX6_nameHere_31 : decode cX6_nameHere 31 = .ok (.iadd, 1) := by decide +kernel
theorem dX6_nameHere_32 : decode cX6_nameHere 32 = .ok (.iaload, 1) := by decide +kernel
theorem dX6_nameHere_33 : decode cX6_nameHere 33 = .ok (.aload_n 0, 1) := by decide +kernel
theorem dX6_nameHere_34 : decode cX6_nameHere 34 = .ok (.getfield 19, 3) := by decide +kernel
theorem dX6_nameHere_37 : decode cX6_nameHere 37 = .ok (.iload_n 1, 1) := by decide +kernel
theorem dX6_nameHere_38 : decode cX6_nameHere 38 = .ok (.iaload, 1) := by decide +kernel
theorem dX6_nameHere_39 : decode cX6_nameHere 39 = .ok (.isub, 1) := by decide +kernel
theorem dX6_nameHere_40 : decode cX6_nameHere 40 = .ok (.if_icmp .ne 7, 3) := by decide +kernel
theorem dX6_nameHere_43 : decode cX6_nameHere 43 = .ok (.iconst 1, 1) := by decide +kernel
theorem dX6_nameHere_44 : decode cX6_nameHere 44 = .ok (.goto 4, 3) := by decide +kernel
theorem dX6_nameHere_47 : decode cX6_nameHere 47 = .ok (.iconst 0, 1) := by decide +kernel
theorem dX6_nameHere_48 : decode cX6_nameHere 48 = .ok (.istore_n 2, 1) := by decide +kernel
theorem dX6_nameHere_49 : decode cX6_nameHere 49 = .ok (.iconst 0, 1) := by decide +kernel
theorem dX6_nameHere_50 : decode cX6_nameHere 50 = .ok (.istore_n 3, 1) := by decide +kernel
theorem dX6_nameHere_51 : decode cX6_nameHere 51 = .ok (.iload_n 2, 1) := by decide +kernel
theorem dX6_nameHere_52 : decode cX6_nameHere 52 = .ok (.ifCond .eq 54, 3) := by decide +kernel
theorem dX6_nameHere_55 : decode cX6_nameHere 55 = .ok (.iload_n 3, 1) := by decide +kernel
theorem dX6_nameHere_56 : decode cX6_nameHere 56 = .ok (.aload_n 0, 1) := by decide +kernel
theorem dX6_nameHere_57 : decode cX6_nameHere 57 = .ok (.getfield 69, 3) := by decide +kernel
theorem dX6_nameHere_60 : decode cX6_nameHere 60 = .ok (.aload_n 0, 1) := by decide +kernel
theorem dX6_nameHere_61 : decode cX6_nameHere 61 = .ok (.getfield 60, 3) := by decide +kernel
theorem dX6_nameHere_64 : decode cX6_nameHere 64 = .ok (.isub, 1) := by decide +kernel
theorem dX6_nameHere_65 : decode cX6_nameHere 65 = .ok (.if_icmp .ge 41, 3) := by decide +kernel
theorem dX6_nameHere_68 : decode cX6_nameHere 68 = .ok (.aload_n 0, 1) := by decide +kernel
theorem dX6_nameHere_69 : decode cX6_nameHere 69 = .ok (.aload_n 0, 1) := by decide +kernel
theorem dX6_nameHere_70 : decode cX6_nameHere 70 = .ok (.getfield 60, 3) := by decide +kernel
theorem dX6_nameHere_73 : decode cX6_nameHere 73 = .ok (.iload_n 3, 1) := by decide +kernel
theorem dX6_nameHere_74 : decode cX6_nameHere 74 = .ok (.iadd, 1) := by decide +kernel
theorem dX6_nameHere_75 : decode cX6_nameHere 75 = .ok (.invokevirtual 72, 3) := by decide +kernel
theorem dX6_nameHere_78 : decode cX6_nameHere 78 = .ok (.aload_n 0, 1) := by decide +kernel
theorem dX6_nameHere_79 : decode cX6_nameHere 79 = .ok (.getfield 22, 3) := by decide +kernel
theorem dX6_nameHere_82 : decode cX6_nameHere 82 = .ok (.aload_n 0, 1) := by decide +kernel
theorem dX6_nameHere_83 : decode cX6_nameHere 83 = .ok (.getfield 19, 3) := by decide +kernel
theorem dX6_nameHere_86 : decode cX6_nameHere 86 = .ok (.iload_n 1, 1) := by decide +kernel
theorem dX6_nameHere_87 : decode cX6_nameHere 87 = .ok (.iaload, 1) := by decide +kernel
theorem dX6_nameHere_88 : decode cX6_nameHere 88 = .ok (.iload_n 3, 1) := by decide +kernel
theorem dX6_nameHere_89 : decode cX6_nameHere 89 = .ok (.iadd, 1) := by decide +kernel
theorem dX6_nameHere_90 : decode cX6_nameHere 90 = .ok (.iaload, 1) := by decide +kernel
theorem dX6_nameHere_91 : decode cX6_nameHere 91 = .ok (.if_icmp .ne 7, 3) := by decide +kernel
theorem dX6_nameHere_94 : decode cX6_nameHere 94 = .ok (.iconst 1, 1) := by decide +kernel
theorem dX6_nameHere_95 : decode cX6_nameHere 95 = .ok (.goto 4, 3) := by decide +kernel
theorem dX6_nameHere_98 : decode cX6_nameHere 98 = .ok (.iconst 0, 1) := by decide +kernel
theorem dX6_nameHere_99 : decode cX6_nameHere 99 = .ok (.istore_n 2, 1) := by decide +kernel
theorem dX6_nameHere_100 : decode cX6_nameHere 100 = .ok (.iinc 3 1, 3) := by decide +kernel
theorem dX6_nameHere_103 : decode cX6_nameHere 103 = .ok (.goto (-52), 3) := by decide +kernel
theorem dX6_nameHere_106 : decode cX6_nameHere 106 = .ok (.iload_n 2, 1) := by decide +kernel
theorem dX6_nameHere_107 : decode cX6_nameHere 107 = .ok (.ifCond .eq 5, 3) := by decide +kernel
theorem dX6_nameHere_110 : decode cX6_nameHere 110 = .ok (.iload_n 1, 1) := by decide +kernel
theorem dX6_nameHere_111 : decode cX6_nameHere 111 = .ok (.ireturn, 1) := by decide +kernel
theorem dX6_nameHere_112 : decode cX6_nameHere 112 = .ok (.iinc 1 1, 3) := by decide +kernel
theorem dX6_nameHere_115 : decode cX6_nameHere 115 = .ok (.goto (-113), 3) := by decide +kernel
theorem dX6_nameHere_118 : decode cX6_nameHere 118 = .ok (.bipush (-4), 2) := by decide +kernel
theorem dX6_nameHere_120 : decode cX6_nameHere 120 = .ok (.ireturn, 1) := by decide +kernel
theorem dX6_step_0 : decode cX6_step 0 = .ok (.aload_n 0, 1) := by decide +kernel
theorem dX6_step_1 : decode cX6_step 1 = .ok (.getfield 57, 3) := by decide +kernel
theorem dX6_step_4 : decode cX6_step 4 = .ok (.ifCond .le 4, 3) := by decide +kernel
theorem dX6_step_7 : decode cX6_step 7 = .ok (.return_, 1) := by decide +kernel
theorem dX6_step_8 : decode cX6_step 8 = .ok (.aload_n 0, 1) := by decide +kernel
theorem dX6_step_9 : decode cX6_step 9 = .ok (.aload_n 0, 1) := by decide +kernel
theorem dX6_step_10 : decode cX6_step 10 = .ok (.getfield 69, 3) := by decide +kernel
theorem dX6_step_13 : decode cX6_step 13 = .ok (.invokevirtual 72, 3) := by decide +kernel
theorem dX6_step_16 : decode cX6_step 16 = .ok (.bipush 32, 2) := by decide +kernel
theorem dX6_step_18 : decode cX6_step 18 = .ok (.if_icmp .ne 16, 3) := by decide +kernel
theorem dX6_step_21 : decode cX6_step 21 = .ok (.aload_n 0, 1) := by decide +kernel
theorem dX6_step_22 : decode cX6_step 22 = .ok (.dup, 1) := by decide +kernel
theorem dX6_step_23 : decode cX6_step 23 = .ok (.getfield 69, 3) := by decide +kernel
theorem dX6_step_26 : decode cX6_step 26 = .ok (.iconst 1, 1) := by decide +kernel
theorem dX6_step_27 : decode cX6_step 27 = .ok (.iadd, 1) := by decide +kernel
theorem dX6_step_28 : decode cX6_step 28 = .ok (.putfield 69, 3) := by decide +kernel
theorem dX6_step_31 : decode cX6_step 31 = .ok (.goto (-23), 3) := by decide +kernel
theorem dX6_step_34 : decode cX6_step 34 = .ok (.aload_n 0, 1) := by decide +kernel
theorem dX6_step_35 : decode cX6_step 35 = .ok (.aload_n 0, 1) := by decide +kernel
theorem dX6_step_36 : decode cX6_step 36 = .ok (.getfield 69, 3) := by decide +kernel
theorem dX6_step_39 : decode cX6_step 39 = .ok (.putfield 60, 3) := by decide +kernel
theorem dX6_step_42 : decode cX6_step 42 = .ok (.aload_n 0, 1) := by decide +kernel
theorem dX6_step_43 : decode cX6_step 43 = .ok (.aload_n 0, 1) := by decide +kernel
theorem dX6_step_44 : decode cX6_step 44 = .ok (.getfield 69, 3) := by decide +kernel
theorem dX6_step_47 : decode cX6_step 47 = .ok (.invokevirtual 72, 3) := by decide +kernel
theorem dX6_step_50 : decode cX6_step 50 = .ok (.istore_n 1, 1) := by decide +kernel
theorem dX6_step_51 : decode cX6_step 51 = .ok (.aload_n 0, 1) := by decide +kernel
theorem dX6_step_52 : decode cX6_step 52 = .ok (.iconst 0, 1) := by decide +kernel
theorem dX6_step_53 : decode cX6_step 53 = .ok (.putfield 76, 3) := by decide +kernel
theorem dX6_step_56 : decode cX6_step 56 = .ok (.iload_n 1, 1) := by decide +kernel
theorem dX6_step_57 : decode cX6_step 57 = .ok (.bipush (-4), 2) := by decide +kernel
theorem dX6_step_59 : decode cX6_step 59 = .ok (.if_icmp .ne 11, 3) := by decide +kernel
theorem dX6_step_62 : decode cX6_step 62 = .ok (.aload_n 0, 1) := by decide +kernel
theorem dX6_step_63 : decode cX6_step 63 = .ok (.iconst 0, 1) := by decide +kernel
theorem dX6_step_64 : decode cX6_step 64 = .ok (.putfield 66, 3) := by decide +kernel
theorem dX6_step_67 : decode cX6_step 67 = .ok (.goto 202, 3) := by decide +kernel
theorem dX6_step_70 : decode cX6_step 70 = .ok (.iload_n 1, 1) := by decide +kernel
theorem dX6_step_71 : decode cX6_step 71 = .ok (.i2l, 1) := by decide +kernel
theorem dX6_step_72 : decode cX6_step 72 = .ok (.ldc2_w 79, 3) := by decide +kernel
theorem dX6_step_75 : decode cX6_step 75 = .ok (.ldc2_w 81, 3) := by decide +kernel
theorem dX6_step_78 : decode cX6_step 78 = .ok (.invokestatic 49, 3) := by decide +kernel
theorem dX6_step_81 : decode cX6_step 81 = .ok (.ifCond .eq 45, 3) := by decide +kernel
theorem dX6_step_84 : decode cX6_step 84 = .ok (.aload_n 0, 1) := by decide +kernel
theorem dX6_step_85 : decode cX6_step 85 = .ok (.aload_n 0, 1) := by decide +kernel
theorem dX6_step_86 : decode cX6_step 86 = .ok (.getfield 69, 3) := by decide +kernel
theorem dX6_step_89 : decode cX6_step 89 = .ok (.invokevirtual 72, 3) := by decide +kernel
theorem dX6_step_92 : decode cX6_step 92 = .ok (.i2l, 1) := by decide +kernel
theorem dX6_step_93 : decode cX6_step 93 = .ok (.ldc2_w 79, 3) := by decide +kernel
theorem dX6_step_96 : decode cX6_step 96 = .ok (.ldc2_w 81, 3) := by decide +kernel
theorem dX6_step_99 : decode cX6_step 99 = .ok (.invokestatic 49, 3) := by decide +kernel
theorem dX6_step_102 : decode cX6_step 102 = .ok (.ifCond .eq 16, 3) := by decide +kernel
theorem dX6_step_105 : decode cX6_step 105 = .ok (.aload_n 0, 1) := by decide +kernel
theorem dX6_step_106 : decode cX6_step 106 = .ok (.dup, 1) := by decide +kernel
theorem dX6_step_107 : decode cX6_step 107 = .ok (.getfield 69, 3) := by decide +kernel
theorem dX6_step_110 : decode cX6_step 110 = .ok (.iconst 1, 1) := by decide +kernel
theorem dX6_step_111 : decode cX6_step 111 = .ok (.iadd, 1) := by decide +kernel
theorem dX6_step_112 : decode cX6_step 112 = .ok (.putfield 69, 3) := by decide +kernel
theorem dX6_step_115 : decode cX6_step 115 = .ok (.goto (-31), 3) := by decide +kernel
theorem dX6_step_118 : decode cX6_step 118 = .ok (.aload_n 0, 1) := by decide +kernel
theorem dX6_step_119 : decode cX6_step 119 = .ok (.iconst 1, 1) := by decide +kernel
theorem dX6_step_120 : decode cX6_step 120 = .ok (.putfield 66, 3) := by decide +kernel
theorem dX6_step_123 : decode cX6_step 123 = .ok (.goto 146, 3) := by decide +kernel
theorem dX6_step_126 : decode cX6_step 126 = .ok (.iload_n 1, 1) := by decide +kernel
theorem dX6_step_127 : decode cX6_step 127 = .ok (.i2l, 1) := by decide +kernel
theorem dX6_step_128 : decode cX6_step 128 = .ok (.ldc2_w 83, 3) := by decide +kernel
theorem dX6_step_131 : decode cX6_step 131 = .ok (.ldc2_w 85, 3) := by decide +kernel
theorem dX6_step_134 : decode cX6_step 134 = .ok (.invokestatic 49, 3) := by decide +kernel
theorem dX6_step_137 : decode cX6_step 137 = .ok (.ifCond .eq 106, 3) := by decide +kernel
theorem dX6_step_140 : decode cX6_step 140 = .ok (.aload_n 0, 1) := by decide +kernel
theorem dX6_step_141 : decode cX6_step 141 = .ok (.aload_n 0, 1) := by decide +kernel
theorem dX6_step_142 : decode cX6_step 142 = .ok (.getfield 69, 3) := by decide +kernel
theorem dX6_step_145 : decode cX6_step 145 = .ok (.invokevirtual 72, 3) := by decide +kernel
theorem dX6_step_148 : decode cX6_step 148 = .ok (.i2l, 1) := by decide +kernel
theorem dX6_step_149 : decode cX6_step 149 = .ok (.ldc2_w 83, 3) := by decide +kernel
theorem dX6_step_152 : decode cX6_step 152 = .ok (.ldc2_w 85, 3) := by decide +kernel
theorem dX6_step_155 : decode cX6_step 155 = .ok (.invokestatic 49, 3) := by decide +kernel
theorem dX6_step_158 : decode cX6_step 158 = .ok (.ifCond .eq 59, 3) := by decide +kernel
theorem dX6_step_161 : decode cX6_step 161 = .ok (.aload_n 0, 1) := by decide +kernel
theorem dX6_step_162 : decode cX6_step 162 = .ok (.aload_n 0, 1) := by decide +kernel
theorem dX6_step_163 : decode cX6_step 163 = .ok (.getfield 69, 3) := by decide +kernel
theorem dX6_step_166 : decode cX6_step 166 = .ok (.aload_n 0, 1) := by decide +kernel
theorem dX6_step_167 : decode cX6_step 167 = .ok (.getfield 60, 3) := by decide +kernel
theorem dX6_step_170 : decode cX6_step 170 = .ok (.isub, 1) := by decide +kernel
theorem dX6_step_171 : decode cX6_step 171 = .ok (.iconst 2, 1) := by decide +kernel
theorem dX6_step_172 : decode cX6_step 172 = .ok (.if_icmp .ge 25, 3) := by decide +kernel
theorem dX6_step_175 : decode cX6_step 175 = .ok (.bipush 10, 2) := by decide +kernel
theorem dX6_step_177 : decode cX6_step 177 = .ok (.aload_n 0, 1) := by decide +kernel
theorem dX6_step_178 : decode cX6_step 178 = .ok (.getfield 76, 3) := by decide +kernel
theorem dX6_step_181 : decode cX6_step 181 = .ok (.imul, 1) := by decide +kernel
theorem dX6_step_182 : decode cX6_step 182 = .ok (.aload_n 0, 1) := by decide +kernel
theorem dX6_step_183 : decode cX6_step 183 = .ok (.aload_n 0, 1) := by decide +kernel
theorem dX6_step_184 : decode cX6_step 184 = .ok (.getfield 69, 3) := by decide +kernel
theorem dX6_step_187 : decode cX6_step 187 = .ok (.invokevirtual 72, 3) := by decide +kernel
theorem dX6_step_190 : decode cX6_step 190 = .ok (.iadd, 1) := by decide +kernel
theorem dX6_step_191 : decode cX6_step 191 = .ok (.bipush 48, 2) := by decide +kernel
theorem dX6_step_193 : decode cX6_step 193 = .ok (.isub, 1) := by decide +kernel
theorem dX6_step_194 : decode cX6_step 194 = .ok (.goto 7, 3) := by decide +kernel
theorem dX6_step_197 : decode cX6_step 197 = .ok (.aload_n 0, 1) := by decide +kernel
theorem dX6_step_198 : decode cX6_step 198 = .ok (.getfield 76, 3) := by decide +kernel
theorem dX6_step_201 : decode cX6_step 201 = .ok (.putfield 76, 3) := by decide +kernel
theorem dX6_step_204 : decode cX6_step 204 = .ok (.aload_n 0, 1) := by decide +kernel
theorem dX6_step_205 : decode cX6_step 205 = .ok (.dup, 1) := by decide +kernel
theorem dX6_step_206 : decode cX6_step 206 = .ok (.getfield 69, 3) := by decide +kernel
theorem dX6_step_209 : decode cX6_step 209 = .ok (.iconst 1, 1) := by decide +kernel
theorem dX6_step_210 : decode cX6_step 210 = .ok (.iadd, 1) := by decide +kernel
theorem dX6_step_211 : decode cX6_step 211 = .ok (.putfield 69, 3) := by decide +kernel
theorem dX6_step_214 : decode cX6_step 214 = .ok (.goto (-74), 3) := by decide +kernel
theorem dX6_step_217 : decode cX6_step 217 = .ok (.aload_n 0, 1) := by decide +kernel
theorem dX6_step_218 : decode cX6_step 218 = .ok (.iconst 2, 1) := by decide +kernel
theorem dX6_step_219 : decode cX6_step 219 = .ok (.putfield 66, 3) := by decide +kernel
theorem dX6_step_222 : decode cX6_step 222 = .ok (.aload_n 0, 1) := by decide +kernel
theorem dX6_step_223 : decode cX6_step 223 = .ok (.getfield 69, 3) := by decide +kernel
theorem dX6_step_226 : decode cX6_step 226 = .ok (.aload_n 0, 1) := by decide +kernel
theorem dX6_step_227 : decode cX6_step 227 = .ok (.getfield 60, 3) := by decide +kernel
theorem dX6_step_230 : decode cX6_step 230 = .ok (.isub, 1) := by decide +kernel
theorem dX6_step_231 : decode cX6_step 231 = .ok (.iconst 2, 1) := by decide +kernel
theorem dX6_step_232 : decode cX6_step 232 = .ok (.if_icmp .le 37, 3) := by decide +kernel
theorem dX6_step_235 : decode cX6_step 235 = .ok (.aload_n 0, 1) := by decide +kernel
theorem dX6_step_236 : decode cX6_step 236 = .ok (.iconst 1, 1) := by decide +kernel
theorem dX6_step_237 : decode cX6_step 237 = .ok (.invokevirtual 87, 3) := by decide +kernel
theorem dX6_step_240 : decode cX6_step 240 = .ok (.goto 29, 3) := by decide +kernel
theorem dX6_step_243 : decode cX6_step 243 = .ok (.aload_n 0, 1) := by decide +kernel
theorem dX6_step_244 : decode cX6_step 244 = .ok (.iconst 3, 1) := by decide +kernel
theorem dX6_step_245 : decode cX6_step 245 = .ok (.putfield 66, 3) := by decide +kernel
theorem dX6_step_248 : decode cX6_step 248 = .ok (.aload_n 0, 1) := by decide +kernel
theorem dX6_step_249 : decode cX6_step 249 = .ok (.dup, 1) := by decide +kernel
theorem dX6_step_250 : decode cX6_step 250 = .ok (.getfield 69, 3) := by decide +kernel
theorem dX6_step_253 : decode cX6_step 253 = .ok (.iconst 1, 1) := by decide +kernel
theorem dX6_step_254 : decode cX6_step 254 = .ok (.iadd, 1) := by decide +kernel
theorem dX6_step_255 : decode cX6_step 255 = .ok (.putfield 69, 3) := by decide +kernel
theorem dX6_step_258 : decode cX6_step 258 = .ok (.iload_n 1, 1) := by decide +kernel
theorem dX6_step_259 : decode cX6_step 259 = .ok (.bipush 59, 2) := by decide +kernel
theorem dX6_step_261 : decode cX6_step 261 = .ok (.if_icmp .eq 8, 3) := by decide +kernel
theorem dX6_step_264 : decode cX6_step 264 = .ok (.aload_n 0, 1) := by decide +kernel
theorem dX6_step_265 : decode cX6_step 265 = .ok (.iconst 1, 1) := by decide +kernel
theorem dX6_step_266 : decode cX6_step 266 = .ok (.invokevirtual 87, 3) := by decide +kernel
theorem dX6_step_269 : decode cX6_step 269 = .ok (.return_, 1) := by decide +kernel
theorem dX6_other_0 : decode cX6_other 0 = .ok (.aload_n 0, 1) := by decide +kernel
theorem dX6_other_1 : decode cX6_other 1 = .ok (.getfield 57, 3) := by decide +kernel
theorem dX6_other_4 : decode cX6_other 4 = .ok (.ifCond .ne 16, 3) := by decide +kernel
theorem dX6_other_7 : decode cX6_other 7 = .ok (.aload_n 0, 1) := by decide +kernel
theorem dX6_other_8 : decode cX6_other 8 = .ok (.getfield 66, 3) := by decide +kernel
theorem dX6_other_11 : decode cX6_other 11 = .ok (.iconst 2, 1) := by decide +kernel
theorem dX6_other_12 : decode cX6_other 12 = .ok (.if_icmp .eq 8, 3) := by decide +kernel
theorem dX6_other_15 : decode cX6_other 15 = .ok (.aload_n 0, 1) := by decide +kernel
theorem dX6_other_16 : decode cX6_other 16 = .ok (.iconst 2, 1) := by decide +kernel
theorem dX6_other_17 : decode cX6_other 17 = .ok (.invokevirtual 87, 3) := by decide +kernel
theorem dX6_other_20 : decode cX6_other 20 = .ok (.aload_n 0, 1) := by decide +kernel
theorem dX6_other_21 : decode cX6_other 21 = .ok (.getfield 57, 3) := by decide +kernel
theorem dX6_other_24 : decode cX6_other 24 = .ok (.ifCond .ne 23, 3) := by decide +kernel
theorem dX6_other_27 : decode cX6_other 27 = .ok (.aload_n 0, 1) := by decide +kernel
theorem dX6_other_28 : decode cX6_other 28 = .ok (.getfield 76, 3) := by decide +kernel
theorem dX6_other_31 : decode cX6_other 31 = .ok (.i2l, 1) := by decide +kernel
theorem dX6_other_32 : decode cX6_other 32 = .ok (.iload_n 1, 1) := by decide +kernel
theorem dX6_other_33 : decode cX6_other 33 = .ok (.i2l, 1) := by decide +kernel
theorem dX6_other_34 : decode cX6_other 34 = .ok (.iload_n 2, 1) := by decide +kernel
theorem dX6_other_35 : decode cX6_other 35 = .ok (.i2l, 1) := by decide +kernel
theorem dX6_other_36 : decode cX6_other 36 = .ok (.invokestatic 49, 3) := by decide +kernel
theorem dX6_other_39 : decode cX6_other 39 = .ok (.ifCond .ne 8, 3) := by decide +kernel
theorem dX6_other_42 : decode cX6_other 42 = .ok (.aload_n 0, 1) := by decide +kernel
theorem dX6_other_43 : decode cX6_other 43 = .ok (.iconst 3, 1) := by decide +kernel
theorem dX6_other_44 : decode cX6_other 44 = .ok (.invokevirtual 87, 3) := by decide +kernel
theorem dX6_other_47 : decode cX6_other 47 = .ok (.aload_n 0, 1) := by decide +kernel
theorem dX6_other_48 : decode cX6_other 48 = .ok (.getfield 57, 3) := by decide +kernel
theorem dX6_other_51 : decode cX6_other 51 = .ok (.ifCond .ne 24, 3) := by decide +kernel
theorem dX6_other_54 : decode cX6_other 54 = .ok (.iload_n 3, 1) := by decide +kernel
theorem dX6_other_55 : decode cX6_other 55 = .ok (.ifCond .eq 20, 3) := by decide +kernel
theorem dX6_other_58 : decode cX6_other 58 = .ok (.iload_n 3, 1) := by decide +kernel
theorem dX6_other_59 : decode cX6_other 59 = .ok (.aload_n 0, 1) := by decide +kernel
theorem dX6_other_60 : decode cX6_other 60 = .ok (.getfield 76, 3) := by decide +kernel
theorem dX6_other_63 : decode cX6_other 63 = .ok (.ishr, 1) := by decide +kernel
theorem dX6_other_64 : decode cX6_other 64 = .ok (.iconst 1, 1) := by decide +kernel
theorem dX6_other_65 : decode cX6_other 65 = .ok (.iand, 1) := by decide +kernel
theorem dX6_other_66 : decode cX6_other 66 = .ok (.iconst 1, 1) := by decide +kernel
theorem dX6_other_67 : decode cX6_other 67 = .ok (.if_icmp .ne 8, 3) := by decide +kernel
theorem dX6_other_70 : decode cX6_other 70 = .ok (.aload_n 0, 1) := by decide +kernel
theorem dX6_other_71 : decode cX6_other 71 = .ok (.iconst 4, 1) := by decide +kernel
theorem dX6_other_72 : decode cX6_other 72 = .ok (.invokevirtual 87, 3) := by decide +kernel
theorem dX6_other_75 : decode cX6_other 75 = .ok (.aload_n 0, 1) := by decide +kernel
theorem dX6_other_76 : decode cX6_other 76 = .ok (.getfield 57, 3) := by decide +kernel
theorem dX6_other_79 : decode cX6_other 79 = .ok (.ifCond .ne 10, 3) := by decide +kernel
theorem dX6_other_82 : decode cX6_other 82 = .ok (.aload_n 0, 1) := by decide +kernel
theorem dX6_other_83 : decode cX6_other 83 = .ok (.getfield 76, 3) := by decide +kernel
theorem dX6_other_86 : decode cX6_other 86 = .ok (.goto 4, 3) := by decide +kernel
theorem dX6_other_89 : decode cX6_other 89 = .ok (.iload_n 1, 1) := by decide +kernel
theorem dX6_other_90 : decode cX6_other 90 = .ok (.istore 4, 2) := by decide +kernel
theorem dX6_other_92 : decode cX6_other 92 = .ok (.aload_n 0, 1) := by decide +kernel
theorem dX6_other_93 : decode cX6_other 93 = .ok (.invokevirtual 91, 3) := by decide +kernel
theorem dX6_other_96 : decode cX6_other 96 = .ok (.iload 4, 2) := by decide +kernel
theorem dX6_other_98 : decode cX6_other 98 = .ok (.ireturn, 1) := by decide +kernel
theorem dX6_wallHere_0 : decode cX6_wallHere 0 = .ok (.aload_n 0, 1) := by decide +kernel
theorem dX6_wallHere_1 : decode cX6_wallHere 1 = .ok (.iconst 0, 1) := by decide +kernel
theorem dX6_wallHere_2 : decode cX6_wallHere 2 = .ok (.bipush 8, 2) := by decide +kernel
theorem dX6_wallHere_4 : decode cX6_wallHere 4 = .ok (.iload_n 1, 1) := by decide +kernel
theorem dX6_wallHere_5 : decode cX6_wallHere 5 = .ok (.invokevirtual 94, 3) := by decide +kernel
theorem dX6_wallHere_8 : decode cX6_wallHere 8 = .ok (.istore_n 2, 1) := by decide +kernel
theorem dX6_wallHere_9 : decode cX6_wallHere 9 = .ok (.aload_n 0, 1) := by decide +kernel
theorem dX6_wallHere_10 : decode cX6_wallHere 10 = .ok (.iload_n 2, 1) := by decide +kernel
theorem dX6_wallHere_11 : decode cX6_wallHere 11 = .ok (.aload_n 0, 1) := by decide +kernel
theorem dX6_wallHere_12 : decode cX6_wallHere 12 = .ok (.getfield 98, 3) := by decide +kernel
theorem dX6_wallHere_15 : decode cX6_wallHere 15 = .ok (.if_icmp .le 7, 3) := by decide +kernel
theorem dX6_wallHere_18 : decode cX6_wallHere 18 = .ok (.iload_n 2, 1) := by decide +kernel
theorem dX6_wallHere_19 : decode cX6_wallHere 19 = .ok (.goto 7, 3) := by decide +kernel
theorem dX6_wallHere_22 : decode cX6_wallHere 22 = .ok (.aload_n 0, 1) := by decide +kernel
theorem dX6_wallHere_23 : decode cX6_wallHere 23 = .ok (.getfield 98, 3) := by decide +kernel
theorem dX6_wallHere_26 : decode cX6_wallHere 26 = .ok (.putfield 98, 3) := by decide +kernel
theorem dX6_wallHere_29 : decode cX6_wallHere 29 = .ok (.iload_n 2, 1) := by decide +kernel
theorem dX6_wallHere_30 : decode cX6_wallHere 30 = .ok (.ireturn, 1) := by decide +kernel
theorem dX6_readOne_0 : decode cX6_readOne 0 = .ok (.aload_n 0, 1) := by decide +kernel
theorem dX6_readOne_1 : decode cX6_readOne 1 = .ok (.getfield 13, 3) := by decide +kernel
theorem dX6_readOne_4 : decode cX6_readOne 4 = .ok (.aload_n 0, 1) := by decide +kernel
theorem dX6_readOne_5 : decode cX6_readOne 5 = .ok (.getfield 101, 3) := by decide +kernel
theorem dX6_readOne_8 : decode cX6_readOne 8 = .ok (.iload_n 1, 1) := by decide +kernel
theorem dX6_readOne_9 : decode cX6_readOne 9 = .ok (.iastore, 1) := by decide +kernel
theorem dX6_readOne_10 : decode cX6_readOne 10 = .ok (.aload_n 0, 1) := by decide +kernel
theorem dX6_readOne_11 : decode cX6_readOne 11 = .ok (.getfield 13, 3) := by decide +kernel
theorem dX6_readOne_14 : decode cX6_readOne 14 = .ok (.iconst 5, 1) := by decide +kernel
theorem dX6_readOne_15 : decode cX6_readOne 15 = .ok (.aload_n 0, 1) := by decide +kernel
theorem dX6_readOne_16 : decode cX6_readOne 16 = .ok (.getfield 101, 3) := by decide +kernel
theorem dX6_readOne_19 : decode cX6_readOne 19 = .ok (.iadd, 1) := by decide +kernel
theorem dX6_readOne_20 : decode cX6_readOne 20 = .ok (.aload_n 0, 1) := by decide +kernel
theorem dX6_readOne_21 : decode cX6_readOne 21 = .ok (.iconst 0, 1) := by decide +kernel
theorem dX6_readOne_22 : decode cX6_readOne 22 = .ok (.iconst 3, 1) := by decide +kernel
theorem dX6_readOne_23 : decode cX6_readOne 23 = .ok (.iconst 0, 1) := by decide +kernel
theorem dX6_readOne_24 : decode cX6_readOne 24 = .ok (.invokevirtual 94, 3) := by decide +kernel
theorem dX6_readOne_27 : decode cX6_readOne 27 = .ok (.iastore, 1) := by decide +kernel
theorem dX6_readOne_28 : decode cX6_readOne 28 = .ok (.aload_n 0, 1) := by decide +kernel
theorem dX6_readOne_29 : decode cX6_readOne 29 = .ok (.getfield 13, 3) := by decide +kernel
theorem dX6_readOne_32 : decode cX6_readOne 32 = .ok (.bipush 10, 2) := by decide +kernel
theorem dX6_readOne_34 : decode cX6_readOne 34 = .ok (.aload_n 0, 1) := by decide +kernel
theorem dX6_readOne_35 : decode cX6_readOne 35 = .ok (.getfield 101, 3) := by decide +kernel
theorem dX6_readOne_38 : decode cX6_readOne 38 = .ok (.iadd, 1) := by decide +kernel
theorem dX6_readOne_39 : decode cX6_readOne 39 = .ok (.aload_n 0, 1) := by decide +kernel
theorem dX6_readOne_40 : decode cX6_readOne 40 = .ok (.iconst 0, 1) := by decide +kernel
theorem dX6_readOne_41 : decode cX6_readOne 41 = .ok (.bipush 7, 2) := by decide +kernel
theorem dX6_readOne_43 : decode cX6_readOne 43 = .ok (.iconst 0, 1) := by decide +kernel
theorem dX6_readOne_44 : decode cX6_readOne 44 = .ok (.invokevirtual 94, 3) := by decide +kernel
theorem dX6_readOne_47 : decode cX6_readOne 47 = .ok (.iastore, 1) := by decide +kernel
theorem dX6_readOne_48 : decode cX6_readOne 48 = .ok (.aload_n 0, 1) := by decide +kernel
theorem dX6_readOne_49 : decode cX6_readOne 49 = .ok (.getfield 57, 3) := by decide +kernel
theorem dX6_readOne_52 : decode cX6_readOne 52 = .ok (.ifCond .ne 47, 3) := by decide +kernel
theorem dX6_readOne_55 : decode cX6_readOne 55 = .ok (.aload_n 0, 1) := by decide +kernel
theorem dX6_readOne_56 : decode cX6_readOne 56 = .ok (.getfield 66, 3) := by decide +kernel
theorem dX6_readOne_59 : decode cX6_readOne 59 = .ok (.iconst 2, 1) := by decide +kernel
theorem dX6_readOne_60 : decode cX6_readOne 60 = .ok (.if_icmp .ne 39, 3) := by decide +kernel
theorem dX6_readOne_63 : decode cX6_readOne 63 = .ok (.aload_n 0, 1) := by decide +kernel
theorem dX6_readOne_64 : decode cX6_readOne 64 = .ok (.aload_n 0, 1) := by decide +kernel
theorem dX6_readOne_65 : decode cX6_readOne 65 = .ok (.getfield 104, 3) := by decide +kernel
theorem dX6_readOne_68 : decode cX6_readOne 68 = .ok (.invokevirtual 107, 3) := by decide +kernel
theorem dX6_readOne_71 : decode cX6_readOne 71 = .ok (.istore_n 2, 1) := by decide +kernel
theorem dX6_readOne_72 : decode cX6_readOne 72 = .ok (.aload_n 0, 1) := by decide +kernel
theorem dX6_readOne_73 : decode cX6_readOne 73 = .ok (.dup, 1) := by decide +kernel
theorem dX6_readOne_74 : decode cX6_readOne 74 = .ok (.getfield 104, 3) := by decide +kernel
theorem dX6_readOne_77 : decode cX6_readOne 77 = .ok (.iconst 1, 1) := by decide +kernel
theorem dX6_readOne_78 : decode cX6_readOne 78 = .ok (.iload_n 2, 1) := by decide +kernel
theorem dX6_readOne_79 : decode cX6_readOne 79 = .ok (.ishl, 1) := by decide +kernel
theorem dX6_readOne_80 : decode cX6_readOne 80 = .ok (.ior, 1) := by decide +kernel
theorem dX6_readOne_81 : decode cX6_readOne 81 = .ok (.putfield 104, 3) := by decide +kernel
theorem dX6_readOne_84 : decode cX6_readOne 84 = .ok (.aload_n 0, 1) := by decide +kernel
theorem dX6_readOne_85 : decode cX6_readOne 85 = .ok (.getfield 13, 3) := by decide +kernel
theorem dX6_readOne_88 : decode cX6_readOne 88 = .ok (.bipush 15, 2) := by decide +kernel
theorem dX6_readOne_90 : decode cX6_readOne 90 = .ok (.aload_n 0, 1) := by decide +kernel
theorem dX6_readOne_91 : decode cX6_readOne 91 = .ok (.getfield 101, 3) := by decide +kernel
theorem dX6_readOne_94 : decode cX6_readOne 94 = .ok (.iadd, 1) := by decide +kernel
theorem dX6_readOne_95 : decode cX6_readOne 95 = .ok (.iload_n 2, 1) := by decide +kernel
theorem dX6_readOne_96 : decode cX6_readOne 96 = .ok (.iconst 1, 1) := by decide +kernel
theorem dX6_readOne_97 : decode cX6_readOne 97 = .ok (.iadd, 1) := by decide +kernel
theorem dX6_readOne_98 : decode cX6_readOne 98 = .ok (.iastore, 1) := by decide +kernel
theorem dX6_readOne_99 : decode cX6_readOne 99 = .ok (.aload_n 0, 1) := by decide +kernel
theorem dX6_readOne_100 : decode cX6_readOne 100 = .ok (.dup, 1) := by decide +kernel
theorem dX6_readOne_101 : decode cX6_readOne 101 = .ok (.getfield 101, 3) := by decide +kernel
theorem dX6_readOne_104 : decode cX6_readOne 104 = .ok (.iconst 1, 1) := by decide +kernel
theorem dX6_readOne_105 : decode cX6_readOne 105 = .ok (.iadd, 1) := by decide +kernel
theorem dX6_readOne_106 : decode cX6_readOne 106 = .ok (.putfield 101, 3) := by decide +kernel
theorem dX6_readOne_109 : decode cX6_readOne 109 = .ok (.return_, 1) := by decide +kernel
theorem dX6_readWall_0 : decode cX6_readWall 0 = .ok (.aload_n 0, 1) := by decide +kernel
theorem dX6_readWall_1 : decode cX6_readWall 1 = .ok (.getfield 13, 3) := by decide +kernel
theorem dX6_readWall_4 : decode cX6_readWall 4 = .ok (.bipush 25, 2) := by decide +kernel
theorem dX6_readWall_6 : decode cX6_readWall 6 = .ok (.iaload, 1) := by decide +kernel
theorem dX6_readWall_7 : decode cX6_readWall 7 = .ok (.istore_n 1, 1) := by decide +kernel
theorem dX6_readWall_8 : decode cX6_readWall 8 = .ok (.aload_n 0, 1) := by decide +kernel
theorem dX6_readWall_9 : decode cX6_readWall 9 = .ok (.getfield 13, 3) := by decide +kernel
theorem dX6_readWall_12 : decode cX6_readWall 12 = .ok (.bipush 26, 2) := by decide +kernel
theorem dX6_readWall_14 : decode cX6_readWall 14 = .ok (.iload_n 1, 1) := by decide +kernel
theorem dX6_readWall_15 : decode cX6_readWall 15 = .ok (.iadd, 1) := by decide +kernel
theorem dX6_readWall_16 : decode cX6_readWall 16 = .ok (.aload_n 0, 1) := by decide +kernel
theorem dX6_readWall_17 : decode cX6_readWall 17 = .ok (.iconst 0, 1) := by decide +kernel
theorem dX6_readWall_18 : decode cX6_readWall 18 = .ok (.bipush 7, 2) := by decide +kernel
theorem dX6_readWall_20 : decode cX6_readWall 20 = .ok (.iconst 0, 1) := by decide +kernel
theorem dX6_readWall_21 : decode cX6_readWall 21 = .ok (.invokevirtual 94, 3) := by decide +kernel
theorem dX6_readWall_24 : decode cX6_readWall 24 = .ok (.iastore, 1) := by decide +kernel
theorem dX6_readWall_25 : decode cX6_readWall 25 = .ok (.aload_n 0, 1) := by decide +kernel
theorem dX6_readWall_26 : decode cX6_readWall 26 = .ok (.getfield 57, 3) := by decide +kernel
theorem dX6_readWall_29 : decode cX6_readWall 29 = .ok (.ifCond .ne 32, 3) := by decide +kernel
theorem dX6_readWall_32 : decode cX6_readWall 32 = .ok (.aload_n 0, 1) := by decide +kernel
theorem dX6_readWall_33 : decode cX6_readWall 33 = .ok (.getfield 66, 3) := by decide +kernel
theorem dX6_readWall_36 : decode cX6_readWall 36 = .ok (.iconst 2, 1) := by decide +kernel
theorem dX6_readWall_37 : decode cX6_readWall 37 = .ok (.if_icmp .ne 24, 3) := by decide +kernel
theorem dX6_readWall_40 : decode cX6_readWall 40 = .ok (.aload_n 0, 1) := by decide +kernel
theorem dX6_readWall_41 : decode cX6_readWall 41 = .ok (.getfield 76, 3) := by decide +kernel
theorem dX6_readWall_44 : decode cX6_readWall 44 = .ok (.aload_n 0, 1) := by decide +kernel
theorem dX6_readWall_45 : decode cX6_readWall 45 = .ok (.getfield 13, 3) := by decide +kernel
theorem dX6_readWall_48 : decode cX6_readWall 48 = .ok (.bipush 26, 2) := by decide +kernel
theorem dX6_readWall_50 : decode cX6_readWall 50 = .ok (.iload_n 1, 1) := by decide +kernel
theorem dX6_readWall_51 : decode cX6_readWall 51 = .ok (.iadd, 1) := by decide +kernel
theorem dX6_readWall_52 : decode cX6_readWall 52 = .ok (.iaload, 1) := by decide +kernel
theorem dX6_readWall_53 : decode cX6_readWall 53 = .ok (.if_icmp .ne 8, 3) := by decide +kernel
theorem dX6_readWall_56 : decode cX6_readWall 56 = .ok (.aload_n 0, 1) := by decide +kernel
theorem dX6_readWall_57 : decode cX6_readWall 57 = .ok (.iconst 3, 1) := by decide +kernel
theorem dX6_readWall_58 : decode cX6_readWall 58 = .ok (.invokevirtual 87, 3) := by decide +kernel
theorem dX6_readWall_61 : decode cX6_readWall 61 = .ok (.aload_n 0, 1) := by decide +kernel
theorem dX6_readWall_62 : decode cX6_readWall 62 = .ok (.getfield 13, 3) := by decide +kernel
theorem dX6_readWall_65 : decode cX6_readWall 65 = .ok (.bipush 35, 2) := by decide +kernel
theorem dX6_readWall_67 : decode cX6_readWall 67 = .ok (.iload_n 1, 1) := by decide +kernel
theorem dX6_readWall_68 : decode cX6_readWall 68 = .ok (.iadd, 1) := by decide +kernel
theorem dX6_readWall_69 : decode cX6_readWall 69 = .ok (.aload_n 0, 1) := by decide +kernel
theorem dX6_readWall_70 : decode cX6_readWall 70 = .ok (.iconst 0, 1) := by decide +kernel
theorem dX6_readWall_71 : decode cX6_readWall 71 = .ok (.bipush 7, 2) := by decide +kernel
theorem dX6_readWall_73 : decode cX6_readWall 73 = .ok (.iconst 0, 1) := by decide +kernel
theorem dX6_readWall_74 : decode cX6_readWall 74 = .ok (.invokevirtual 94, 3) := by decide +kernel
theorem dX6_readWall_77 : decode cX6_readWall 77 = .ok (.iastore, 1) := by decide +kernel
theorem dX6_readWall_78 : decode cX6_readWall 78 = .ok (.aload_n 0, 1) := by decide +kernel
theorem dX6_readWall_79 : decode cX6_readWall 79 = .ok (.getfield 13, 3) := by decide +kernel
theorem dX6_readWall_82 : decode cX6_readWall 82 = .ok (.bipush 25, 2) := by decide +kernel
theorem dX6_readWall_84 : decode cX6_readWall 84 = .ok (.dup2, 1) := by decide +kernel
theorem dX6_readWall_85 : decode cX6_readWall 85 = .ok (.iaload, 1) := by decide +kernel
theorem dX6_readWall_86 : decode cX6_readWall 86 = .ok (.iconst 1, 1) := by decide +kernel
theorem dX6_readWall_87 : decode cX6_readWall 87 = .ok (.iadd, 1) := by decide +kernel
theorem dX6_readWall_88 : decode cX6_readWall 88 = .ok (.iastore, 1) := by decide +kernel
theorem dX6_readWall_89 : decode cX6_readWall 89 = .ok (.return_, 1) := by decide +kernel
theorem dX6_readPlan_0 : decode cX6_readPlan 0 = .ok (.aload_n 0, 1) := by decide +kernel
theorem dX6_readPlan_1 : decode cX6_readPlan 1 = .ok (.getfield 57, 3) := by decide +kernel
theorem dX6_readPlan_4 : decode cX6_readPlan 4 = .ok (.ifCond .ne 109, 3) := by decide +kernel
theorem dX6_readPlan_7 : decode cX6_readPlan 7 = .ok (.aload_n 0, 1) := by decide +kernel
theorem dX6_readPlan_8 : decode cX6_readPlan 8 = .ok (.getfield 66, 3) := by decide +kernel
theorem dX6_readPlan_11 : decode cX6_readPlan 11 = .ok (.iconst 2, 1) := by decide +kernel
theorem dX6_readPlan_12 : decode cX6_readPlan 12 = .ok (.if_icmp .ne 101, 3) := by decide +kernel
theorem dX6_readPlan_15 : decode cX6_readPlan 15 = .ok (.aload_n 0, 1) := by decide +kernel
theorem dX6_readPlan_16 : decode cX6_readPlan 16 = .ok (.getfield 13, 3) := by decide +kernel
theorem dX6_readPlan_19 : decode cX6_readPlan 19 = .ok (.bipush 52, 2) := by decide +kernel
theorem dX6_readPlan_21 : decode cX6_readPlan 21 = .ok (.iaload, 1) := by decide +kernel
theorem dX6_readPlan_22 : decode cX6_readPlan 22 = .ok (.bipush 6, 2) := by decide +kernel
theorem dX6_readPlan_24 : decode cX6_readPlan 24 = .ok (.if_icmp .ne 11, 3) := by decide +kernel
theorem dX6_readPlan_27 : decode cX6_readPlan 27 = .ok (.aload_n 0, 1) := by decide +kernel
theorem dX6_readPlan_28 : decode cX6_readPlan 28 = .ok (.iconst 5, 1) := by decide +kernel
theorem dX6_readPlan_29 : decode cX6_readPlan 29 = .ok (.invokevirtual 87, 3) := by decide +kernel
theorem dX6_readPlan_32 : decode cX6_readPlan 32 = .ok (.goto (-32), 3) := by decide +kernel
theorem dX6_readPlan_35 : decode cX6_readPlan 35 = .ok (.aload_n 0, 1) := by decide +kernel
theorem dX6_readPlan_36 : decode cX6_readPlan 36 = .ok (.iconst 0, 1) := by decide +kernel
theorem dX6_readPlan_37 : decode cX6_readPlan 37 = .ok (.iconst 4, 1) := by decide +kernel
theorem dX6_readPlan_38 : decode cX6_readPlan 38 = .ok (.iconst 0, 1) := by decide +kernel
theorem dX6_readPlan_39 : decode cX6_readPlan 39 = .ok (.invokevirtual 94, 3) := by decide +kernel
theorem dX6_readPlan_42 : decode cX6_readPlan 42 = .ok (.istore_n 1, 1) := by decide +kernel
theorem dX6_readPlan_43 : decode cX6_readPlan 43 = .ok (.aload_n 0, 1) := by decide +kernel
theorem dX6_readPlan_44 : decode cX6_readPlan 44 = .ok (.iload_n 1, 1) := by decide +kernel
theorem dX6_readPlan_45 : decode cX6_readPlan 45 = .ok (.aload_n 0, 1) := by decide +kernel
theorem dX6_readPlan_46 : decode cX6_readPlan 46 = .ok (.getfield 110, 3) := by decide +kernel
theorem dX6_readPlan_49 : decode cX6_readPlan 49 = .ok (.if_icmp .le 7, 3) := by decide +kernel
theorem dX6_readPlan_52 : decode cX6_readPlan 52 = .ok (.iload_n 1, 1) := by decide +kernel
theorem dX6_readPlan_53 : decode cX6_readPlan 53 = .ok (.goto 7, 3) := by decide +kernel
theorem dX6_readPlan_56 : decode cX6_readPlan 56 = .ok (.aload_n 0, 1) := by decide +kernel
theorem dX6_readPlan_57 : decode cX6_readPlan 57 = .ok (.getfield 110, 3) := by decide +kernel
theorem dX6_readPlan_60 : decode cX6_readPlan 60 = .ok (.putfield 110, 3) := by decide +kernel
theorem dX6_readPlan_63 : decode cX6_readPlan 63 = .ok (.aload_n 0, 1) := by decide +kernel
theorem dX6_readPlan_64 : decode cX6_readPlan 64 = .ok (.getfield 13, 3) := by decide +kernel
theorem dX6_readPlan_67 : decode cX6_readPlan 67 = .ok (.bipush 53, 2) := by decide +kernel
theorem dX6_readPlan_69 : decode cX6_readPlan 69 = .ok (.aload_n 0, 1) := by decide +kernel
theorem dX6_readPlan_70 : decode cX6_readPlan 70 = .ok (.getfield 13, 3) := by decide +kernel
theorem dX6_readPlan_73 : decode cX6_readPlan 73 = .ok (.bipush 52, 2) := by decide +kernel
theorem dX6_readPlan_75 : decode cX6_readPlan 75 = .ok (.iaload, 1) := by decide +kernel
theorem dX6_readPlan_76 : decode cX6_readPlan 76 = .ok (.iadd, 1) := by decide +kernel
theorem dX6_readPlan_77 : decode cX6_readPlan 77 = .ok (.iload_n 1, 1) := by decide +kernel
theorem dX6_readPlan_78 : decode cX6_readPlan 78 = .ok (.iastore, 1) := by decide +kernel
theorem dX6_readPlan_79 : decode cX6_readPlan 79 = .ok (.aload_n 0, 1) := by decide +kernel
theorem dX6_readPlan_80 : decode cX6_readPlan 80 = .ok (.getfield 13, 3) := by decide +kernel
theorem dX6_readPlan_83 : decode cX6_readPlan 83 = .ok (.bipush 59, 2) := by decide +kernel
theorem dX6_readPlan_85 : decode cX6_readPlan 85 = .ok (.aload_n 0, 1) := by decide +kernel
theorem dX6_readPlan_86 : decode cX6_readPlan 86 = .ok (.getfield 13, 3) := by decide +kernel
theorem dX6_readPlan_89 : decode cX6_readPlan 89 = .ok (.bipush 52, 2) := by decide +kernel
theorem dX6_readPlan_91 : decode cX6_readPlan 91 = .ok (.iaload, 1) := by decide +kernel
theorem dX6_readPlan_92 : decode cX6_readPlan 92 = .ok (.iadd, 1) := by decide +kernel
theorem dX6_readPlan_93 : decode cX6_readPlan 93 = .ok (.aload_n 0, 1) := by decide +kernel
theorem dX6_readPlan_94 : decode cX6_readPlan 94 = .ok (.iconst 0, 1) := by decide +kernel
theorem dX6_readPlan_95 : decode cX6_readPlan 95 = .ok (.invokevirtual 107, 3) := by decide +kernel
theorem dX6_readPlan_98 : decode cX6_readPlan 98 = .ok (.iastore, 1) := by decide +kernel
theorem dX6_readPlan_99 : decode cX6_readPlan 99 = .ok (.aload_n 0, 1) := by decide +kernel
theorem dX6_readPlan_100 : decode cX6_readPlan 100 = .ok (.getfield 13, 3) := by decide +kernel
theorem dX6_readPlan_103 : decode cX6_readPlan 103 = .ok (.bipush 52, 2) := by decide +kernel
theorem dX6_readPlan_105 : decode cX6_readPlan 105 = .ok (.dup2, 1) := by decide +kernel
theorem dX6_readPlan_106 : decode cX6_readPlan 106 = .ok (.iaload, 1) := by decide +kernel
theorem dX6_readPlan_107 : decode cX6_readPlan 107 = .ok (.iconst 1, 1) := by decide +kernel
theorem dX6_readPlan_108 : decode cX6_readPlan 108 = .ok (.iadd, 1) := by decide +kernel
theorem dX6_readPlan_109 : decode cX6_readPlan 109 = .ok (.iastore, 1) := by decide +kernel
theorem dX6_readPlan_110 : decode cX6_readPlan 110 = .ok (.goto (-110), 3) := by decide +kernel
theorem dX6_readPlan_113 : decode cX6_readPlan 113 = .ok (.return_, 1) := by decide +kernel
theorem dX6_readMore_0 : decode cX6_readMore 0 = .ok (.iload_n 1, 1) := by decide +kernel
theorem dX6_readMore_1 : decode cX6_readMore 1 = .ok (.iconst 3, 1) := by decide +kernel
theorem dX6_readMore_2 : decode cX6_readMore 2 = .ok (.if_icmp .gt 11, 3) := by decide +kernel
theorem dX6_readMore_5 : decode cX6_readMore 5 = .ok (.aload_n 0, 1) := by decide +kernel
theorem dX6_readMore_6 : decode cX6_readMore 6 = .ok (.iload_n 1, 1) := by decide +kernel
theorem dX6_readMore_7 : decode cX6_readMore 7 = .ok (.invokevirtual 113, 3) := by decide +kernel
theorem dX6_readMore_10 : decode cX6_readMore 10 = .ok (.goto 68, 3) := by decide +kernel
theorem dX6_readMore_13 : decode cX6_readMore 13 = .ok (.iload_n 1, 1) := by decide +kernel
theorem dX6_readMore_14 : decode cX6_readMore 14 = .ok (.iconst 4, 1) := by decide +kernel
theorem dX6_readMore_15 : decode cX6_readMore 15 = .ok (.if_icmp .ne 10, 3) := by decide +kernel
theorem dX6_readMore_18 : decode cX6_readMore 18 = .ok (.aload_n 0, 1) := by decide +kernel
theorem dX6_readMore_19 : decode cX6_readMore 19 = .ok (.invokevirtual 116, 3) := by decide +kernel
theorem dX6_readMore_22 : decode cX6_readMore 22 = .ok (.goto 56, 3) := by decide +kernel
theorem dX6_readMore_25 : decode cX6_readMore 25 = .ok (.iload_n 1, 1) := by decide +kernel
theorem dX6_readMore_26 : decode cX6_readMore 26 = .ok (.iconst 5, 1) := by decide +kernel
theorem dX6_readMore_27 : decode cX6_readMore 27 = .ok (.if_icmp .ne 47, 3) := by decide +kernel
theorem dX6_readMore_30 : decode cX6_readMore 30 = .ok (.aload_n 0, 1) := by decide +kernel
theorem dX6_readMore_31 : decode cX6_readMore 31 = .ok (.iconst 0, 1) := by decide +kernel
theorem dX6_readMore_32 : decode cX6_readMore 32 = .ok (.bipush 7, 2) := by decide +kernel
theorem dX6_readMore_34 : decode cX6_readMore 34 = .ok (.aload_n 0, 1) := by decide +kernel
theorem dX6_readMore_35 : decode cX6_readMore 35 = .ok (.getfield 119, 3) := by decide +kernel
theorem dX6_readMore_38 : decode cX6_readMore 38 = .ok (.invokevirtual 94, 3) := by decide +kernel
theorem dX6_readMore_41 : decode cX6_readMore 41 = .ok (.istore_n 2, 1) := by decide +kernel
theorem dX6_readMore_42 : decode cX6_readMore 42 = .ok (.aload_n 0, 1) := by decide +kernel
theorem dX6_readMore_43 : decode cX6_readMore 43 = .ok (.dup, 1) := by decide +kernel
theorem dX6_readMore_44 : decode cX6_readMore 44 = .ok (.getfield 119, 3) := by decide +kernel
theorem dX6_readMore_47 : decode cX6_readMore 47 = .ok (.iconst 1, 1) := by decide +kernel
theorem dX6_readMore_48 : decode cX6_readMore 48 = .ok (.iload_n 2, 1) := by decide +kernel
theorem dX6_readMore_49 : decode cX6_readMore 49 = .ok (.ishl, 1) := by decide +kernel
theorem dX6_readMore_50 : decode cX6_readMore 50 = .ok (.ior, 1) := by decide +kernel
theorem dX6_readMore_51 : decode cX6_readMore 51 = .ok (.putfield 119, 3) := by decide +kernel
theorem dX6_readMore_54 : decode cX6_readMore 54 = .ok (.aload_n 0, 1) := by decide +kernel
theorem dX6_readMore_55 : decode cX6_readMore 55 = .ok (.getfield 13, 3) := by decide +kernel
theorem dX6_readMore_58 : decode cX6_readMore 58 = .ok (.bipush 44, 2) := by decide +kernel
theorem dX6_readMore_60 : decode cX6_readMore 60 = .ok (.iload_n 2, 1) := by decide +kernel
theorem dX6_readMore_61 : decode cX6_readMore 61 = .ok (.iadd, 1) := by decide +kernel
theorem dX6_readMore_62 : decode cX6_readMore 62 = .ok (.aload_n 0, 1) := by decide +kernel
theorem dX6_readMore_63 : decode cX6_readMore 63 = .ok (.iconst 0, 1) := by decide +kernel
theorem dX6_readMore_64 : decode cX6_readMore 64 = .ok (.bipush 99, 2) := by decide +kernel
theorem dX6_readMore_66 : decode cX6_readMore 66 = .ok (.iconst 0, 1) := by decide +kernel
theorem dX6_readMore_67 : decode cX6_readMore 67 = .ok (.invokevirtual 94, 3) := by decide +kernel
theorem dX6_readMore_70 : decode cX6_readMore 70 = .ok (.iastore, 1) := by decide +kernel
theorem dX6_readMore_71 : decode cX6_readMore 71 = .ok (.goto 7, 3) := by decide +kernel
theorem dX6_readMore_74 : decode cX6_readMore 74 = .ok (.aload_n 0, 1) := by decide +kernel
theorem dX6_readMore_75 : decode cX6_readMore 75 = .ok (.invokevirtual 122, 3) := by decide +kernel
theorem dX6_readMore_78 : decode cX6_readMore 78 = .ok (.return_, 1) := by decide +kernel
theorem dX6_readLine_0 : decode cX6_readLine 0 = .ok (.aload_n 0, 1) := by decide +kernel
theorem dX6_readLine_1 : decode cX6_readLine 1 = .ok (.invokevirtual 125, 3) := by decide +kernel
theorem dX6_readLine_4 : decode cX6_readLine 4 = .ok (.istore_n 1, 1) := by decide +kernel
theorem dX6_readLine_5 : decode cX6_readLine 5 = .ok (.iload_n 1, 1) := by decide +kernel
theorem dX6_readLine_6 : decode cX6_readLine 6 = .ok (.i2l, 1) := by decide +kernel
theorem dX6_readLine_7 : decode cX6_readLine 7 = .ok (.lconst 0, 1) := by decide +kernel
theorem dX6_readLine_8 : decode cX6_readLine 8 = .ok (.ldc2_w 129, 3) := by decide +kernel
theorem dX6_readLine_11 : decode cX6_readLine 11 = .ok (.invokestatic 49, 3) := by decide +kernel
theorem dX6_readLine_14 : decode cX6_readLine 14 = .ok (.ifCond .ne 9, 3) := by decide +kernel
theorem dX6_readLine_17 : decode cX6_readLine 17 = .ok (.aload_n 0, 1) := by decide +kernel
theorem dX6_readLine_18 : decode cX6_readLine 18 = .ok (.iconst 2, 1) := by decide +kernel
theorem dX6_readLine_19 : decode cX6_readLine 19 = .ok (.invokevirtual 87, 3) := by decide +kernel
theorem dX6_readLine_22 : decode cX6_readLine 22 = .ok (.return_, 1) := by decide +kernel
theorem dX6_readLine_23 : decode cX6_readLine 23 = .ok (.iload_n 1, 1) := by decide +kernel
theorem dX6_readLine_24 : decode cX6_readLine 24 = .ok (.iconst 3, 1) := by decide +kernel
theorem dX6_readLine_25 : decode cX6_readLine 25 = .ok (.if_icmp .gt 11, 3) := by decide +kernel
theorem dX6_readLine_28 : decode cX6_readLine 28 = .ok (.aload_n 0, 1) := by decide +kernel
theorem dX6_readLine_29 : decode cX6_readLine 29 = .ok (.getfield 101, 3) := by decide +kernel
theorem dX6_readLine_32 : decode cX6_readLine 32 = .ok (.iconst 5, 1) := by decide +kernel
theorem dX6_readLine_33 : decode cX6_readLine 33 = .ok (.if_icmp .eq 20, 3) := by decide +kernel
theorem dX6_readLine_36 : decode cX6_readLine 36 = .ok (.iload_n 1, 1) := by decide +kernel
theorem dX6_readLine_37 : decode cX6_readLine 37 = .ok (.iconst 4, 1) := by decide +kernel
theorem dX6_readLine_38 : decode cX6_readLine 38 = .ok (.if_icmp .ne 20, 3) := by decide +kernel
theorem dX6_readLine_41 : decode cX6_readLine 41 = .ok (.aload_n 0, 1) := by decide +kernel
theorem dX6_readLine_42 : decode cX6_readLine 42 = .ok (.getfield 13, 3) := by decide +kernel
theorem dX6_readLine_45 : decode cX6_readLine 45 = .ok (.bipush 25, 2) := by decide +kernel
theorem dX6_readLine_47 : decode cX6_readLine 47 = .ok (.iaload, 1) := by decide +kernel
theorem dX6_readLine_48 : decode cX6_readLine 48 = .ok (.bipush 9, 2) := by decide +kernel
theorem dX6_readLine_50 : decode cX6_readLine 50 = .ok (.if_icmp .ne 8, 3) := by decide +kernel
theorem dX6_readLine_53 : decode cX6_readLine 53 = .ok (.aload_n 0, 1) := by decide +kernel
theorem dX6_readLine_54 : decode cX6_readLine 54 = .ok (.iconst 5, 1) := by decide +kernel
theorem dX6_readLine_55 : decode cX6_readLine 55 = .ok (.invokevirtual 87, 3) := by decide +kernel
theorem dX6_readLine_58 : decode cX6_readLine 58 = .ok (.iload_n 1, 1) := by decide +kernel
theorem dX6_readLine_59 : decode cX6_readLine 59 = .ok (.bipush 6, 2) := by decide +kernel
theorem dX6_readLine_61 : decode cX6_readLine 61 = .ok (.if_icmp .ne 15, 3) := by decide +kernel
theorem dX6_readLine_64 : decode cX6_readLine 64 = .ok (.aload_n 0, 1) := by decide +kernel
theorem dX6_readLine_65 : decode cX6_readLine 65 = .ok (.getfield 131, 3) := by decide +kernel
theorem dX6_readLine_68 : decode cX6_readLine 68 = .ok (.ifCond .eq 8, 3) := by decide +kernel
theorem dX6_readLine_71 : decode cX6_readLine 71 = .ok (.aload_n 0, 1) := by decide +kernel
theorem dX6_readLine_72 : decode cX6_readLine 72 = .ok (.iconst 4, 1) := by decide +kernel
theorem dX6_readLine_73 : decode cX6_readLine 73 = .ok (.invokevirtual 87, 3) := by decide +kernel
theorem dX6_readLine_76 : decode cX6_readLine 76 = .ok (.aload_n 0, 1) := by decide +kernel
theorem dX6_readLine_77 : decode cX6_readLine 77 = .ok (.aload_n 0, 1) := by decide +kernel
theorem dX6_readLine_78 : decode cX6_readLine 78 = .ok (.getfield 131, 3) := by decide +kernel
theorem dX6_readLine_81 : decode cX6_readLine 81 = .ok (.ifCond .ne 9, 3) := by decide +kernel
theorem dX6_readLine_84 : decode cX6_readLine 84 = .ok (.iload_n 1, 1) := by decide +kernel
theorem dX6_readLine_85 : decode cX6_readLine 85 = .ok (.bipush 6, 2) := by decide +kernel
theorem dX6_readLine_87 : decode cX6_readLine 87 = .ok (.if_icmp .ne 7, 3) := by decide +kernel
theorem dX6_readLine_90 : decode cX6_readLine 90 = .ok (.iconst 1, 1) := by decide +kernel
theorem dX6_readLine_91 : decode cX6_readLine 91 = .ok (.goto 4, 3) := by decide +kernel
theorem dX6_readLine_94 : decode cX6_readLine 94 = .ok (.iconst 0, 1) := by decide +kernel
theorem dX6_readLine_95 : decode cX6_readLine 95 = .ok (.putfield 131, 3) := by decide +kernel
theorem dX6_readLine_98 : decode cX6_readLine 98 = .ok (.aload_n 0, 1) := by decide +kernel
theorem dX6_readLine_99 : decode cX6_readLine 99 = .ok (.invokevirtual 91, 3) := by decide +kernel
theorem dX6_readLine_102 : decode cX6_readLine 102 = .ok (.aload_n 0, 1) := by decide +kernel
theorem dX6_readLine_103 : decode cX6_readLine 103 = .ok (.getfield 57, 3) := by decide +kernel
theorem dX6_readLine_106 : decode cX6_readLine 106 = .ok (.ifCond .le 4, 3) := by decide +kernel
theorem dX6_readLine_109 : decode cX6_readLine 109 = .ok (.return_, 1) := by decide +kernel
theorem dX6_readLine_110 : decode cX6_readLine 110 = .ok (.aload_n 0, 1) := by decide +kernel
theorem dX6_readLine_111 : decode cX6_readLine 111 = .ok (.iload_n 1, 1) := by decide +kernel
theorem dX6_readLine_112 : decode cX6_readLine 112 = .ok (.invokevirtual 135, 3) := by decide +kernel
theorem dX6_readLine_115 : decode cX6_readLine 115 = .ok (.aload_n 0, 1) := by decide +kernel
theorem dX6_readLine_116 : decode cX6_readLine 116 = .ok (.getfield 57, 3) := by decide +kernel
theorem dX6_readLine_119 : decode cX6_readLine 119 = .ok (.ifCond .ne 16, 3) := by decide +kernel
theorem dX6_readLine_122 : decode cX6_readLine 122 = .ok (.aload_n 0, 1) := by decide +kernel
theorem dX6_readLine_123 : decode cX6_readLine 123 = .ok (.getfield 66, 3) := by decide +kernel
theorem dX6_readLine_126 : decode cX6_readLine 126 = .ok (.iconst 3, 1) := by decide +kernel
theorem dX6_readLine_127 : decode cX6_readLine 127 = .ok (.if_icmp .eq 8, 3) := by decide +kernel
theorem dX6_readLine_130 : decode cX6_readLine 130 = .ok (.aload_n 0, 1) := by decide +kernel
theorem dX6_readLine_131 : decode cX6_readLine 131 = .ok (.iconst 2, 1) := by decide +kernel
theorem dX6_readLine_132 : decode cX6_readLine 132 = .ok (.invokevirtual 87, 3) := by decide +kernel
theorem dX6_readLine_135 : decode cX6_readLine 135 = .ok (.aload_n 0, 1) := by decide +kernel
theorem dX6_readLine_136 : decode cX6_readLine 136 = .ok (.invokevirtual 91, 3) := by decide +kernel
theorem dX6_readLine_139 : decode cX6_readLine 139 = .ok (.return_, 1) := by decide +kernel
theorem dX6_text_0 : decode cX6_text 0 = .ok (.aload_n 0, 1) := by decide +kernel
theorem dX6_text_1 : decode cX6_text 1 = .ok (.iconst 0, 1) := by decide +kernel
theorem dX6_text_2 : decode cX6_text 2 = .ok (.putfield 57, 3) := by decide +kernel
theorem dX6_text_5 : decode cX6_text 5 = .ok (.aload_n 0, 1) := by decide +kernel
theorem dX6_text_6 : decode cX6_text 6 = .ok (.iconst 0, 1) := by decide +kernel
theorem dX6_text_7 : decode cX6_text 7 = .ok (.putfield 69, 3) := by decide +kernel
theorem dX6_text_10 : decode cX6_text 10 = .ok (.aload_n 0, 1) := by decide +kernel
theorem dX6_text_11 : decode cX6_text 11 = .ok (.iconst 0, 1) := by decide +kernel
theorem dX6_text_12 : decode cX6_text 12 = .ok (.putfield 101, 3) := by decide +kernel
theorem dX6_text_15 : decode cX6_text 15 = .ok (.aload_n 0, 1) := by decide +kernel
theorem dX6_text_16 : decode cX6_text 16 = .ok (.iconst 0, 1) := by decide +kernel
theorem dX6_text_17 : decode cX6_text 17 = .ok (.putfield 104, 3) := by decide +kernel
theorem dX6_text_20 : decode cX6_text 20 = .ok (.aload_n 0, 1) := by decide +kernel
theorem dX6_text_21 : decode cX6_text 21 = .ok (.iconst 0, 1) := by decide +kernel
theorem dX6_text_22 : decode cX6_text 22 = .ok (.putfield 119, 3) := by decide +kernel
theorem dX6_text_25 : decode cX6_text 25 = .ok (.aload_n 0, 1) := by decide +kernel
theorem dX6_text_26 : decode cX6_text 26 = .ok (.iconst 0, 1) := by decide +kernel
theorem dX6_text_27 : decode cX6_text 27 = .ok (.putfield 131, 3) := by decide +kernel
theorem dX6_text_30 : decode cX6_text 30 = .ok (.aload_n 0, 1) := by decide +kernel
theorem dX6_text_31 : decode cX6_text 31 = .ok (.iconst (-1), 1) := by decide +kernel
theorem dX6_text_32 : decode cX6_text 32 = .ok (.putfield 110, 3) := by decide +kernel
theorem dX6_text_35 : decode cX6_text 35 = .ok (.aload_n 0, 1) := by decide +kernel
theorem dX6_text_36 : decode cX6_text 36 = .ok (.iconst (-1), 1) := by decide +kernel
theorem dX6_text_37 : decode cX6_text 37 = .ok (.putfield 98, 3) := by decide +kernel
theorem dX6_text_40 : decode cX6_text 40 = .ok (.iconst 0, 1) := by decide +kernel
theorem dX6_text_41 : decode cX6_text 41 = .ok (.istore_n 1, 1) := by decide +kernel
theorem dX6_text_42 : decode cX6_text 42 = .ok (.iconst 0, 1) := by decide +kernel
theorem dX6_text_43 : decode cX6_text 43 = .ok (.istore_n 2, 1) := by decide +kernel
theorem dX6_text_44 : decode cX6_text 44 = .ok (.iload_n 2, 1) := by decide +kernel
theorem dX6_text_45 : decode cX6_text 45 = .ok (.bipush 65, 2) := by decide +kernel
theorem dX6_text_47 : decode cX6_text 47 = .ok (.if_icmp .ge 16, 3) := by decide +kernel
theorem dX6_text_50 : decode cX6_text 50 = .ok (.aload_n 0, 1) := by decide +kernel
theorem dX6_text_51 : decode cX6_text 51 = .ok (.getfield 13, 3) := by decide +kernel
theorem dX6_text_54 : decode cX6_text 54 = .ok (.iload_n 2, 1) := by decide +kernel
theorem dX6_text_55 : decode cX6_text 55 = .ok (.iconst 0, 1) := by decide +kernel
theorem dX6_text_56 : decode cX6_text 56 = .ok (.iastore, 1) := by decide +kernel
theorem dX6_text_57 : decode cX6_text 57 = .ok (.iinc 2 1, 3) := by decide +kernel
theorem dX6_text_60 : decode cX6_text 60 = .ok (.goto (-16), 3) := by decide +kernel
theorem dX6_text_63 : decode cX6_text 63 = .ok (.aload_n 0, 1) := by decide +kernel
theorem dX6_text_64 : decode cX6_text 64 = .ok (.invokevirtual 91, 3) := by decide +kernel
theorem dX6_text_67 : decode cX6_text 67 = .ok (.aload_n 0, 1) := by decide +kernel
theorem dX6_text_68 : decode cX6_text 68 = .ok (.getfield 57, 3) := by decide +kernel
theorem dX6_text_71 : decode cX6_text 71 = .ok (.ifCond .ne 20, 3) := by decide +kernel
theorem dX6_text_74 : decode cX6_text 74 = .ok (.aload_n 0, 1) := by decide +kernel
theorem dX6_text_75 : decode cX6_text 75 = .ok (.getfield 66, 3) := by decide +kernel
theorem dX6_text_78 : decode cX6_text 78 = .ok (.ifCond .eq 13, 3) := by decide +kernel
theorem dX6_text_81 : decode cX6_text 81 = .ok (.aload_n 0, 1) := by decide +kernel
theorem dX6_text_82 : decode cX6_text 82 = .ok (.invokevirtual 138, 3) := by decide +kernel
theorem dX6_text_85 : decode cX6_text 85 = .ok (.iinc 1 1, 3) := by decide +kernel
theorem dX6_text_88 : decode cX6_text 88 = .ok (.goto (-21), 3) := by decide +kernel
theorem dX6_text_91 : decode cX6_text 91 = .ok (.aload_n 0, 1) := by decide +kernel
theorem dX6_text_92 : decode cX6_text 92 = .ok (.getfield 57, 3) := by decide +kernel
theorem dX6_text_95 : decode cX6_text 95 = .ok (.ifCond .ne 34, 3) := by decide +kernel
theorem dX6_text_98 : decode cX6_text 98 = .ok (.aload_n 0, 1) := by decide +kernel
theorem dX6_text_99 : decode cX6_text 99 = .ok (.getfield 110, 3) := by decide +kernel
theorem dX6_text_102 : decode cX6_text 102 = .ok (.aload_n 0, 1) := by decide +kernel
theorem dX6_text_103 : decode cX6_text 103 = .ok (.getfield 101, 3) := by decide +kernel
theorem dX6_text_106 : decode cX6_text 106 = .ok (.if_icmp .ge 17, 3) := by decide +kernel
theorem dX6_text_109 : decode cX6_text 109 = .ok (.aload_n 0, 1) := by decide +kernel
theorem dX6_text_110 : decode cX6_text 110 = .ok (.getfield 98, 3) := by decide +kernel
theorem dX6_text_113 : decode cX6_text 113 = .ok (.aload_n 0, 1) := by decide +kernel
theorem dX6_text_114 : decode cX6_text 114 = .ok (.getfield 13, 3) := by decide +kernel
theorem dX6_text_117 : decode cX6_text 117 = .ok (.bipush 25, 2) := by decide +kernel
theorem dX6_text_119 : decode cX6_text 119 = .ok (.iaload, 1) := by decide +kernel
theorem dX6_text_120 : decode cX6_text 120 = .ok (.if_icmp .lt 9, 3) := by decide +kernel
theorem dX6_text_123 : decode cX6_text 123 = .ok (.aload_n 0, 1) := by decide +kernel
theorem dX6_text_124 : decode cX6_text 124 = .ok (.bipush 6, 2) := by decide +kernel
theorem dX6_text_126 : decode cX6_text 126 = .ok (.invokevirtual 87, 3) := by decide +kernel
theorem dX6_text_129 : decode cX6_text 129 = .ok (.aload_n 0, 1) := by decide +kernel
theorem dX6_text_130 : decode cX6_text 130 = .ok (.iconst 0, 1) := by decide +kernel
theorem dX6_text_131 : decode cX6_text 131 = .ok (.putfield 53, 3) := by decide +kernel
theorem dX6_text_134 : decode cX6_text 134 = .ok (.aload_n 0, 1) := by decide +kernel
theorem dX6_text_135 : decode cX6_text 135 = .ok (.aload_n 0, 1) := by decide +kernel
theorem dX6_text_136 : decode cX6_text 136 = .ok (.getfield 57, 3) := by decide +kernel
theorem dX6_text_139 : decode cX6_text 139 = .ok (.putfield 141, 3) := by decide +kernel
theorem dX6_text_142 : decode cX6_text 142 = .ok (.aload_n 0, 1) := by decide +kernel
theorem dX6_text_143 : decode cX6_text 143 = .ok (.getfield 57, 3) := by decide +kernel
theorem dX6_text_146 : decode cX6_text 146 = .ok (.ifCond .le 11, 3) := by decide +kernel
theorem dX6_text_149 : decode cX6_text 149 = .ok (.bipush (-10), 2) := by decide +kernel
theorem dX6_text_151 : decode cX6_text 151 = .ok (.aload_n 0, 1) := by decide +kernel
theorem dX6_text_152 : decode cX6_text 152 = .ok (.getfield 63, 3) := by decide +kernel
theorem dX6_text_155 : decode cX6_text 155 = .ok (.isub, 1) := by decide +kernel
theorem dX6_text_156 : decode cX6_text 156 = .ok (.ireturn, 1) := by decide +kernel
theorem dX6_text_157 : decode cX6_text 157 = .ok (.iconst 0, 1) := by decide +kernel
theorem dX6_text_158 : decode cX6_text 158 = .ok (.istore_n 2, 1) := by decide +kernel
theorem dX6_text_159 : decode cX6_text 159 = .ok (.iload_n 2, 1) := by decide +kernel
theorem dX6_text_160 : decode cX6_text 160 = .ok (.bipush 65, 2) := by decide +kernel
theorem dX6_text_162 : decode cX6_text 162 = .ok (.if_icmp .ge 21, 3) := by decide +kernel
theorem dX6_text_165 : decode cX6_text 165 = .ok (.aload_n 0, 1) := by decide +kernel
theorem dX6_text_166 : decode cX6_text 166 = .ok (.getfield 7, 3) := by decide +kernel
theorem dX6_text_169 : decode cX6_text 169 = .ok (.iload_n 2, 1) := by decide +kernel
theorem dX6_text_170 : decode cX6_text 170 = .ok (.aload_n 0, 1) := by decide +kernel
theorem dX6_text_171 : decode cX6_text 171 = .ok (.getfield 13, 3) := by decide +kernel
theorem dX6_text_174 : decode cX6_text 174 = .ok (.iload_n 2, 1) := by decide +kernel
theorem dX6_text_175 : decode cX6_text 175 = .ok (.iaload, 1) := by decide +kernel
theorem dX6_text_176 : decode cX6_text 176 = .ok (.iastore, 1) := by decide +kernel
theorem dX6_text_177 : decode cX6_text 177 = .ok (.iinc 2 1, 3) := by decide +kernel
theorem dX6_text_180 : decode cX6_text 180 = .ok (.goto (-21), 3) := by decide +kernel
theorem dX6_text_183 : decode cX6_text 183 = .ok (.aload_n 0, 1) := by decide +kernel
theorem dX6_text_184 : decode cX6_text 184 = .ok (.aload_n 0, 1) := by decide +kernel
theorem dX6_text_185 : decode cX6_text 185 = .ok (.getfield 101, 3) := by decide +kernel
theorem dX6_text_188 : decode cX6_text 188 = .ok (.putfield 144, 3) := by decide +kernel
theorem dX6_text_191 : decode cX6_text 191 = .ok (.aload_n 0, 1) := by decide +kernel
theorem dX6_text_192 : decode cX6_text 192 = .ok (.iconst 0, 1) := by decide +kernel
theorem dX6_text_193 : decode cX6_text 193 = .ok (.putfield 147, 3) := by decide +kernel
theorem dX6_text_196 : decode cX6_text 196 = .ok (.aload_n 0, 1) := by decide +kernel
theorem dX6_text_197 : decode cX6_text 197 = .ok (.getfield 34, 3) := by decide +kernel
theorem dX6_text_200 : decode cX6_text 200 = .ok (.iconst 0, 1) := by decide +kernel
theorem dX6_text_201 : decode cX6_text 201 = .ok (.iconst 0, 1) := by decide +kernel
theorem dX6_text_202 : decode cX6_text 202 = .ok (.bastore, 1) := by decide +kernel
theorem dX6_text_203 : decode cX6_text 203 = .ok (.aload_n 0, 1) := by decide +kernel
theorem dX6_text_204 : decode cX6_text 204 = .ok (.getfield 34, 3) := by decide +kernel
theorem dX6_text_207 : decode cX6_text 207 = .ok (.iconst 1, 1) := by decide +kernel
theorem dX6_text_208 : decode cX6_text 208 = .ok (.iconst 0, 1) := by decide +kernel
theorem dX6_text_209 : decode cX6_text 209 = .ok (.bastore, 1) := by decide +kernel
theorem dX6_text_210 : decode cX6_text 210 = .ok (.iload_n 1, 1) := by decide +kernel
theorem dX6_text_211 : decode cX6_text 211 = .ok (.ireturn, 1) := by decide +kernel
theorem dX6_fault_0 : decode cX6_fault 0 = .ok (.aload_n 0, 1) := by decide +kernel
theorem dX6_fault_1 : decode cX6_fault 1 = .ok (.getfield 141, 3) := by decide +kernel
theorem dX6_fault_4 : decode cX6_fault 4 = .ok (.ireturn, 1) := by decide +kernel
theorem dX6_isOne_0 : decode cX6_isOne 0 = .ok (.iload_n 1, 1) := by decide +kernel
theorem dX6_isOne_1 : decode cX6_isOne 1 = .ok (.i2l, 1) := by decide +kernel
theorem dX6_isOne_2 : decode cX6_isOne 2 = .ok (.lconst 0, 1) := by decide +kernel
theorem dX6_isOne_3 : decode cX6_isOne 3 = .ok (.aload_n 0, 1) := by decide +kernel
theorem dX6_isOne_4 : decode cX6_isOne 4 = .ok (.getfield 144, 3) := by decide +kernel
theorem dX6_isOne_7 : decode cX6_isOne 7 = .ok (.iconst 1, 1) := by decide +kernel
theorem dX6_isOne_8 : decode cX6_isOne 8 = .ok (.isub, 1) := by decide +kernel
theorem dX6_isOne_9 : decode cX6_isOne 9 = .ok (.i2l, 1) := by decide +kernel
theorem dX6_isOne_10 : decode cX6_isOne 10 = .ok (.invokestatic 49, 3) := by decide +kernel
theorem dX6_isOne_13 : decode cX6_isOne 13 = .ok (.ireturn, 1) := by decide +kernel
theorem dX6_isWall_0 : decode cX6_isWall 0 = .ok (.iload_n 1, 1) := by decide +kernel
theorem dX6_isWall_1 : decode cX6_isWall 1 = .ok (.i2l, 1) := by decide +kernel
theorem dX6_isWall_2 : decode cX6_isWall 2 = .ok (.lconst 0, 1) := by decide +kernel
theorem dX6_isWall_3 : decode cX6_isWall 3 = .ok (.aload_n 0, 1) := by decide +kernel
theorem dX6_isWall_4 : decode cX6_isWall 4 = .ok (.getfield 7, 3) := by decide +kernel
theorem dX6_isWall_7 : decode cX6_isWall 7 = .ok (.bipush 25, 2) := by decide +kernel
theorem dX6_isWall_9 : decode cX6_isWall 9 = .ok (.iaload, 1) := by decide +kernel
theorem dX6_isWall_10 : decode cX6_isWall 10 = .ok (.iconst 1, 1) := by decide +kernel
theorem dX6_isWall_11 : decode cX6_isWall 11 = .ok (.isub, 1) := by decide +kernel
theorem dX6_isWall_12 : decode cX6_isWall 12 = .ok (.i2l, 1) := by decide +kernel
theorem dX6_isWall_13 : decode cX6_isWall 13 = .ok (.invokestatic 49, 3) := by decide +kernel
theorem dX6_isWall_16 : decode cX6_isWall 16 = .ok (.ireturn, 1) := by decide +kernel
theorem dX6_isRoom_0 : decode cX6_isRoom 0 = .ok (.iload_n 0, 1) := by decide +kernel
theorem dX6_isRoom_1 : decode cX6_isRoom 1 = .ok (.i2l, 1) := by decide +kernel
theorem dX6_isRoom_2 : decode cX6_isRoom 2 = .ok (.lconst 0, 1) := by decide +kernel
theorem dX6_isRoom_3 : decode cX6_isRoom 3 = .ok (.ldc2_w 150, 3) := by decide +kernel
theorem dX6_isRoom_6 : decode cX6_isRoom 6 = .ok (.invokestatic 49, 3) := by decide +kernel
theorem dX6_isRoom_9 : decode cX6_isRoom 9 = .ok (.ireturn, 1) := by decide +kernel
theorem dX6_doorOn_0 : decode cX6_doorOn 0 = .ok (.iconst 0, 1) := by decide +kernel
theorem dX6_doorOn_1 : decode cX6_doorOn 1 = .ok (.istore_n 3, 1) := by decide +kernel
theorem dX6_doorOn_2 : decode cX6_doorOn 2 = .ok (.iload_n 3, 1) := by decide +kernel
theorem dX6_doorOn_3 : decode cX6_doorOn 3 = .ok (.aload_n 0, 1) := by decide +kernel
theorem dX6_doorOn_4 : decode cX6_doorOn 4 = .ok (.getfield 144, 3) := by decide +kernel
theorem dX6_doorOn_7 : decode cX6_doorOn 7 = .ok (.if_icmp .ge 28, 3) := by decide +kernel
theorem dX6_doorOn_10 : decode cX6_doorOn 10 = .ok (.aload_n 0, 1) := by decide +kernel
theorem dX6_doorOn_11 : decode cX6_doorOn 11 = .ok (.getfield 7, 3) := by decide +kernel
theorem dX6_doorOn_14 : decode cX6_doorOn 14 = .ok (.iload_n 1, 1) := by decide +kernel
theorem dX6_doorOn_15 : decode cX6_doorOn 15 = .ok (.bipush 15, 2) := by decide +kernel
theorem dX6_doorOn_17 : decode cX6_doorOn 17 = .ok (.iadd, 1) := by decide +kernel
theorem dX6_doorOn_18 : decode cX6_doorOn 18 = .ok (.iload_n 3, 1) := by decide +kernel
theorem dX6_doorOn_19 : decode cX6_doorOn 19 = .ok (.iadd, 1) := by decide +kernel
theorem dX6_doorOn_20 : decode cX6_doorOn 20 = .ok (.iaload, 1) := by decide +kernel
theorem dX6_doorOn_21 : decode cX6_doorOn 21 = .ok (.iload_n 2, 1) := by decide +kernel
theorem dX6_doorOn_22 : decode cX6_doorOn 22 = .ok (.iconst 1, 1) := by decide +kernel
theorem dX6_doorOn_23 : decode cX6_doorOn 23 = .ok (.iadd, 1) := by decide +kernel
theorem dX6_doorOn_24 : decode cX6_doorOn 24 = .ok (.if_icmp .ne 5, 3) := by decide +kernel
theorem dX6_doorOn_27 : decode cX6_doorOn 27 = .ok (.iload_n 3, 1) := by decide +kernel
theorem dX6_doorOn_28 : decode cX6_doorOn 28 = .ok (.ireturn, 1) := by decide +kernel
theorem dX6_doorOn_29 : decode cX6_doorOn 29 = .ok (.iinc 3 1, 3) := by decide +kernel
theorem dX6_doorOn_32 : decode cX6_doorOn 32 = .ok (.goto (-30), 3) := by decide +kernel
theorem dX6_doorOn_35 : decode cX6_doorOn 35 = .ok (.bipush (-4), 2) := by decide +kernel
theorem dX6_doorOn_37 : decode cX6_doorOn 37 = .ok (.ireturn, 1) := by decide +kernel
theorem dX6_letsOn_0 : decode cX6_letsOn 0 = .ok (.iload_n 2, 1) := by decide +kernel
theorem dX6_letsOn_1 : decode cX6_letsOn 1 = .ok (.iload_n 3, 1) := by decide +kernel
theorem dX6_letsOn_2 : decode cX6_letsOn 2 = .ok (.if_icmp .eq 26, 3) := by decide +kernel
theorem dX6_letsOn_5 : decode cX6_letsOn 5 = .ok (.aload_n 0, 1) := by decide +kernel
theorem dX6_letsOn_6 : decode cX6_letsOn 6 = .ok (.getfield 7, 3) := by decide +kernel
theorem dX6_letsOn_9 : decode cX6_letsOn 9 = .ok (.iload_n 1, 1) := by decide +kernel
theorem dX6_letsOn_10 : decode cX6_letsOn 10 = .ok (.iconst 5, 1) := by decide +kernel
theorem dX6_letsOn_11 : decode cX6_letsOn 11 = .ok (.iadd, 1) := by decide +kernel
theorem dX6_letsOn_12 : decode cX6_letsOn 12 = .ok (.iload_n 2, 1) := by decide +kernel
theorem dX6_letsOn_13 : decode cX6_letsOn 13 = .ok (.iadd, 1) := by decide +kernel
theorem dX6_letsOn_14 : decode cX6_letsOn 14 = .ok (.iaload, 1) := by decide +kernel
theorem dX6_letsOn_15 : decode cX6_letsOn 15 = .ok (.aload_n 0, 1) := by decide +kernel
theorem dX6_letsOn_16 : decode cX6_letsOn 16 = .ok (.getfield 7, 3) := by decide +kernel
theorem dX6_letsOn_19 : decode cX6_letsOn 19 = .ok (.iload_n 1, 1) := by decide +kernel
theorem dX6_letsOn_20 : decode cX6_letsOn 20 = .ok (.iconst 5, 1) := by decide +kernel
theorem dX6_letsOn_21 : decode cX6_letsOn 21 = .ok (.iadd, 1) := by decide +kernel
theorem dX6_letsOn_22 : decode cX6_letsOn 22 = .ok (.iload_n 3, 1) := by decide +kernel
theorem dX6_letsOn_23 : decode cX6_letsOn 23 = .ok (.iadd, 1) := by decide +kernel
theorem dX6_letsOn_24 : decode cX6_letsOn 24 = .ok (.iaload, 1) := by decide +kernel
theorem dX6_letsOn_25 : decode cX6_letsOn 25 = .ok (.if_icmp .ne 7, 3) := by decide +kernel
theorem dX6_letsOn_28 : decode cX6_letsOn 28 = .ok (.iconst 1, 1) := by decide +kernel
theorem dX6_letsOn_29 : decode cX6_letsOn 29 = .ok (.goto 4, 3) := by decide +kernel
theorem dX6_letsOn_32 : decode cX6_letsOn 32 = .ok (.iconst 0, 1) := by decide +kernel
theorem dX6_letsOn_33 : decode cX6_letsOn 33 = .ok (.istore 4, 2) := by decide +kernel
theorem dX6_letsOn_35 : decode cX6_letsOn 35 = .ok (.aload_n 0, 1) := by decide +kernel
theorem dX6_letsOn_36 : decode cX6_letsOn 36 = .ok (.getfield 7, 3) := by decide +kernel
theorem dX6_letsOn_39 : decode cX6_letsOn 39 = .ok (.iload_n 1, 1) := by decide +kernel
theorem dX6_letsOn_40 : decode cX6_letsOn 40 = .ok (.iload_n 2, 1) := by decide +kernel
theorem dX6_letsOn_41 : decode cX6_letsOn 41 = .ok (.iadd, 1) := by decide +kernel
theorem dX6_letsOn_42 : decode cX6_letsOn 42 = .ok (.iaload, 1) := by decide +kernel
theorem dX6_letsOn_43 : decode cX6_letsOn 43 = .ok (.tableswitch 50 0 2 #[25, 36, 39], 25) := by decide +kernel
theorem dX6_letsOn_68 : decode cX6_letsOn 68 = .ok (.iload_n 2, 1) := by decide +kernel
theorem dX6_letsOn_69 : decode cX6_letsOn 69 = .ok (.iload_n 3, 1) := by decide +kernel
theorem dX6_letsOn_70 : decode cX6_letsOn 70 = .ok (.if_icmp .ne 7, 3) := by decide +kernel
theorem dX6_letsOn_73 : decode cX6_letsOn 73 = .ok (.iconst 1, 1) := by decide +kernel
theorem dX6_letsOn_74 : decode cX6_letsOn 74 = .ok (.goto 4, 3) := by decide +kernel
theorem dX6_letsOn_77 : decode cX6_letsOn 77 = .ok (.iconst 0, 1) := by decide +kernel
theorem dX6_letsOn_78 : decode cX6_letsOn 78 = .ok (.ireturn, 1) := by decide +kernel
theorem dX6_letsOn_79 : decode cX6_letsOn 79 = .ok (.iload 4, 2) := by decide +kernel
theorem dX6_letsOn_81 : decode cX6_letsOn 81 = .ok (.ireturn, 1) := by decide +kernel
theorem dX6_letsOn_82 : decode cX6_letsOn 82 = .ok (.iload 4, 2) := by decide +kernel
theorem dX6_letsOn_84 : decode cX6_letsOn 84 = .ok (.ifCond .ne 7, 3) := by decide +kernel
theorem dX6_letsOn_87 : decode cX6_letsOn 87 = .ok (.iconst 1, 1) := by decide +kernel
theorem dX6_letsOn_88 : decode cX6_letsOn 88 = .ok (.goto 4, 3) := by decide +kernel
theorem dX6_letsOn_91 : decode cX6_letsOn 91 = .ok (.iconst 0, 1) := by decide +kernel
theorem dX6_letsOn_92 : decode cX6_letsOn 92 = .ok (.ireturn, 1) := by decide +kernel
theorem dX6_letsOn_93 : decode cX6_letsOn 93 = .ok (.iload_n 2, 1) := by decide +kernel
theorem dX6_letsOn_94 : decode cX6_letsOn 94 = .ok (.iload_n 3, 1) := by decide +kernel
theorem dX6_letsOn_95 : decode cX6_letsOn 95 = .ok (.if_icmp .eq 7, 3) := by decide +kernel
theorem dX6_letsOn_98 : decode cX6_letsOn 98 = .ok (.iconst 1, 1) := by decide +kernel
theorem dX6_letsOn_99 : decode cX6_letsOn 99 = .ok (.goto 4, 3) := by decide +kernel
theorem dX6_letsOn_102 : decode cX6_letsOn 102 = .ok (.iconst 0, 1) := by decide +kernel
theorem dX6_letsOn_103 : decode cX6_letsOn 103 = .ok (.ireturn, 1) := by decide +kernel
theorem dX6_passesOn_0 : decode cX6_passesOn 0 = .ok (.aload_n 0, 1) := by decide +kernel
theorem dX6_passesOn_1 : decode cX6_passesOn 1 = .ok (.iload_n 1, 1) := by decide +kernel
theorem dX6_passesOn_2 : decode cX6_passesOn 2 = .ok (.iload_n 2, 1) := by decide +kernel
theorem dX6_passesOn_3 : decode cX6_passesOn 3 = .ok (.invokevirtual 152, 3) := by decide +kernel
theorem dX6_passesOn_6 : decode cX6_passesOn 6 = .ok (.istore 4, 2) := by decide +kernel
theorem dX6_passesOn_8 : decode cX6_passesOn 8 = .ok (.iload 4, 2) := by decide +kernel
theorem dX6_passesOn_10 : decode cX6_passesOn 10 = .ok (.bipush (-4), 2) := by decide +kernel
theorem dX6_passesOn_12 : decode cX6_passesOn 12 = .ok (.if_icmp .eq 30, 3) := by decide +kernel
theorem dX6_passesOn_15 : decode cX6_passesOn 15 = .ok (.aload_n 0, 1) := by decide +kernel
theorem dX6_passesOn_16 : decode cX6_passesOn 16 = .ok (.getfield 156, 3) := by decide +kernel
theorem dX6_passesOn_19 : decode cX6_passesOn 19 = .ok (.iload 4, 2) := by decide +kernel
theorem dX6_passesOn_21 : decode cX6_passesOn 21 = .ok (.ishr, 1) := by decide +kernel
theorem dX6_passesOn_22 : decode cX6_passesOn 22 = .ok (.iconst 1, 1) := by decide +kernel
theorem dX6_passesOn_23 : decode cX6_passesOn 23 = .ok (.iand, 1) := by decide +kernel
theorem dX6_passesOn_24 : decode cX6_passesOn 24 = .ok (.ifCond .ne 18, 3) := by decide +kernel
theorem dX6_passesOn_27 : decode cX6_passesOn 27 = .ok (.aload_n 0, 1) := by decide +kernel
theorem dX6_passesOn_28 : decode cX6_passesOn 28 = .ok (.iload_n 1, 1) := by decide +kernel
theorem dX6_passesOn_29 : decode cX6_passesOn 29 = .ok (.iload 4, 2) := by decide +kernel
theorem dX6_passesOn_31 : decode cX6_passesOn 31 = .ok (.iload_n 3, 1) := by decide +kernel
theorem dX6_passesOn_32 : decode cX6_passesOn 32 = .ok (.invokevirtual 159, 3) := by decide +kernel
theorem dX6_passesOn_35 : decode cX6_passesOn 35 = .ok (.ifCond .eq 7, 3) := by decide +kernel
theorem dX6_passesOn_38 : decode cX6_passesOn 38 = .ok (.iconst 1, 1) := by decide +kernel
theorem dX6_passesOn_39 : decode cX6_passesOn 39 = .ok (.goto 4, 3) := by decide +kernel
theorem dX6_passesOn_42 : decode cX6_passesOn 42 = .ok (.iconst 0, 1) := by decide +kernel
theorem dX6_passesOn_43 : decode cX6_passesOn 43 = .ok (.ireturn, 1) := by decide +kernel
theorem dX6_goesFrom_0 : decode cX6_goesFrom 0 = .ok (.iconst 0, 1) := by decide +kernel
theorem dX6_goesFrom_1 : decode cX6_goesFrom 1 = .ok (.istore 4, 2) := by decide +kernel
theorem dX6_goesFrom_3 : decode cX6_goesFrom 3 = .ok (.iload 4, 2) := by decide +kernel
theorem dX6_goesFrom_5 : decode cX6_goesFrom 5 = .ok (.bipush 8, 2) := by decide +kernel
theorem dX6_goesFrom_7 : decode cX6_goesFrom 7 = .ok (.if_icmp .ge 28, 3) := by decide +kernel
theorem dX6_goesFrom_10 : decode cX6_goesFrom 10 = .ok (.aload_n 0, 1) := by decide +kernel
theorem dX6_goesFrom_11 : decode cX6_goesFrom 11 = .ok (.getfield 25, 3) := by decide +kernel
theorem dX6_goesFrom_14 : decode cX6_goesFrom 14 = .ok (.iload 4, 2) := by decide +kernel
theorem dX6_goesFrom_16 : decode cX6_goesFrom 16 = .ok (.iload 4, 2) := by decide +kernel
theorem dX6_goesFrom_18 : decode cX6_goesFrom 18 = .ok (.iload_n 3, 1) := by decide +kernel
theorem dX6_goesFrom_19 : decode cX6_goesFrom 19 = .ok (.if_icmp .ne 7, 3) := by decide +kernel
theorem dX6_goesFrom_22 : decode cX6_goesFrom 22 = .ok (.iconst 0, 1) := by decide +kernel
theorem dX6_goesFrom_23 : decode cX6_goesFrom 23 = .ok (.goto 5, 3) := by decide +kernel
theorem dX6_goesFrom_26 : decode cX6_goesFrom 26 = .ok (.bipush (-4), 2) := by decide +kernel
theorem dX6_goesFrom_28 : decode cX6_goesFrom 28 = .ok (.iastore, 1) := by decide +kernel
theorem dX6_goesFrom_29 : decode cX6_goesFrom 29 = .ok (.iinc 4 1, 3) := by decide +kernel
theorem dX6_goesFrom_32 : decode cX6_goesFrom 32 = .ok (.goto (-29), 3) := by decide +kernel
theorem dX6_goesFrom_35 : decode cX6_goesFrom 35 = .ok (.iconst 1, 1) := by decide +kernel
theorem dX6_goesFrom_36 : decode cX6_goesFrom 36 = .ok (.iload_n 3, 1) := by decide +kernel
theorem dX6_goesFrom_37 : decode cX6_goesFrom 37 = .ok (.ishl, 1) := by decide +kernel
theorem dX6_goesFrom_38 : decode cX6_goesFrom 38 = .ok (.istore 4, 2) := by decide +kernel
theorem dX6_goesFrom_40 : decode cX6_goesFrom 40 = .ok (.iconst 0, 1) := by decide +kernel
theorem dX6_goesFrom_41 : decode cX6_goesFrom 41 = .ok (.istore 5, 2) := by decide +kernel
theorem dX6_goesFrom_43 : decode cX6_goesFrom 43 = .ok (.iload 5, 2) := by decide +kernel
theorem dX6_goesFrom_45 : decode cX6_goesFrom 45 = .ok (.bipush 7, 2) := by decide +kernel
theorem dX6_goesFrom_47 : decode cX6_goesFrom 47 = .ok (.if_icmp .ge 194, 3) := by decide +kernel
theorem dX6_goesFrom_50 : decode cX6_goesFrom 50 = .ok (.iconst 0, 1) := by decide +kernel
theorem dX6_goesFrom_51 : decode cX6_goesFrom 51 = .ok (.istore 6, 2) := by decide +kernel
theorem dX6_goesFrom_53 : decode cX6_goesFrom 53 = .ok (.iload 6, 2) := by decide +kernel
theorem dX6_goesFrom_55 : decode cX6_goesFrom 55 = .ok (.aload_n 0, 1) := by decide +kernel
theorem dX6_goesFrom_56 : decode cX6_goesFrom 56 = .ok (.getfield 7, 3) := by decide +kernel
theorem dX6_goesFrom_59 : decode cX6_goesFrom 59 = .ok (.iload_n 1, 1) := by decide +kernel
theorem dX6_goesFrom_60 : decode cX6_goesFrom 60 = .ok (.bipush 25, 2) := by decide +kernel
theorem dX6_goesFrom_62 : decode cX6_goesFrom 62 = .ok (.iadd, 1) := by decide +kernel
theorem dX6_goesFrom_63 : decode cX6_goesFrom 63 = .ok (.iaload, 1) := by decide +kernel
theorem dX6_goesFrom_64 : decode cX6_goesFrom 64 = .ok (.if_icmp .ge 171, 3) := by decide +kernel
theorem dX6_goesFrom_67 : decode cX6_goesFrom 67 = .ok (.aload_n 0, 1) := by decide +kernel
theorem dX6_goesFrom_68 : decode cX6_goesFrom 68 = .ok (.iload_n 1, 1) := by decide +kernel
theorem dX6_goesFrom_69 : decode cX6_goesFrom 69 = .ok (.iload 6, 2) := by decide +kernel
theorem dX6_goesFrom_71 : decode cX6_goesFrom 71 = .ok (.iload_n 2, 1) := by decide +kernel
theorem dX6_goesFrom_72 : decode cX6_goesFrom 72 = .ok (.invokevirtual 163, 3) := by decide +kernel
theorem dX6_goesFrom_75 : decode cX6_goesFrom 75 = .ok (.ifCond .eq 154, 3) := by decide +kernel
theorem dX6_goesFrom_78 : decode cX6_goesFrom 78 = .ok (.aload_n 0, 1) := by decide +kernel
theorem dX6_goesFrom_79 : decode cX6_goesFrom 79 = .ok (.getfield 7, 3) := by decide +kernel
theorem dX6_goesFrom_82 : decode cX6_goesFrom 82 = .ok (.iload_n 1, 1) := by decide +kernel
theorem dX6_goesFrom_83 : decode cX6_goesFrom 83 = .ok (.bipush 26, 2) := by decide +kernel
theorem dX6_goesFrom_85 : decode cX6_goesFrom 85 = .ok (.iadd, 1) := by decide +kernel
theorem dX6_goesFrom_86 : decode cX6_goesFrom 86 = .ok (.iload 6, 2) := by decide +kernel
theorem dX6_goesFrom_88 : decode cX6_goesFrom 88 = .ok (.iadd, 1) := by decide +kernel
theorem dX6_goesFrom_89 : decode cX6_goesFrom 89 = .ok (.iaload, 1) := by decide +kernel
theorem dX6_goesFrom_90 : decode cX6_goesFrom 90 = .ok (.istore 7, 2) := by decide +kernel
theorem dX6_goesFrom_92 : decode cX6_goesFrom 92 = .ok (.aload_n 0, 1) := by decide +kernel
theorem dX6_goesFrom_93 : decode cX6_goesFrom 93 = .ok (.getfield 7, 3) := by decide +kernel
theorem dX6_goesFrom_96 : decode cX6_goesFrom 96 = .ok (.iload_n 1, 1) := by decide +kernel
theorem dX6_goesFrom_97 : decode cX6_goesFrom 97 = .ok (.bipush 35, 2) := by decide +kernel
theorem dX6_goesFrom_99 : decode cX6_goesFrom 99 = .ok (.iadd, 1) := by decide +kernel
theorem dX6_goesFrom_100 : decode cX6_goesFrom 100 = .ok (.iload 6, 2) := by decide +kernel
theorem dX6_goesFrom_102 : decode cX6_goesFrom 102 = .ok (.iadd, 1) := by decide +kernel
theorem dX6_goesFrom_103 : decode cX6_goesFrom 103 = .ok (.iaload, 1) := by decide +kernel
theorem dX6_goesFrom_104 : decode cX6_goesFrom 104 = .ok (.istore 8, 2) := by decide +kernel
theorem dX6_goesFrom_106 : decode cX6_goesFrom 106 = .ok (.aload_n 0, 1) := by decide +kernel
theorem dX6_goesFrom_107 : decode cX6_goesFrom 107 = .ok (.getfield 25, 3) := by decide +kernel
theorem dX6_goesFrom_110 : decode cX6_goesFrom 110 = .ok (.iload 7, 2) := by decide +kernel
theorem dX6_goesFrom_112 : decode cX6_goesFrom 112 = .ok (.iaload, 1) := by decide +kernel
theorem dX6_goesFrom_113 : decode cX6_goesFrom 113 = .ok (.iload 5, 2) := by decide +kernel
theorem dX6_goesFrom_115 : decode cX6_goesFrom 115 = .ok (.if_icmp .ne 29, 3) := by decide +kernel
theorem dX6_goesFrom_118 : decode cX6_goesFrom 118 = .ok (.aload_n 0, 1) := by decide +kernel
theorem dX6_goesFrom_119 : decode cX6_goesFrom 119 = .ok (.getfield 25, 3) := by decide +kernel
theorem dX6_goesFrom_122 : decode cX6_goesFrom 122 = .ok (.iload 8, 2) := by decide +kernel
theorem dX6_goesFrom_124 : decode cX6_goesFrom 124 = .ok (.iaload, 1) := by decide +kernel
theorem dX6_goesFrom_125 : decode cX6_goesFrom 125 = .ok (.bipush (-4), 2) := by decide +kernel
theorem dX6_goesFrom_127 : decode cX6_goesFrom 127 = .ok (.if_icmp .ne 17, 3) := by decide +kernel
theorem dX6_goesFrom_130 : decode cX6_goesFrom 130 = .ok (.aload_n 0, 1) := by decide +kernel
theorem dX6_goesFrom_131 : decode cX6_goesFrom 131 = .ok (.getfield 25, 3) := by decide +kernel
theorem dX6_goesFrom_134 : decode cX6_goesFrom 134 = .ok (.iload 8, 2) := by decide +kernel
theorem dX6_goesFrom_136 : decode cX6_goesFrom 136 = .ok (.iload 5, 2) := by decide +kernel
theorem dX6_goesFrom_138 : decode cX6_goesFrom 138 = .ok (.iconst 1, 1) := by decide +kernel
theorem dX6_goesFrom_139 : decode cX6_goesFrom 139 = .ok (.iadd, 1) := by decide +kernel
theorem dX6_goesFrom_140 : decode cX6_goesFrom 140 = .ok (.iastore, 1) := by decide +kernel
theorem dX6_goesFrom_141 : decode cX6_goesFrom 141 = .ok (.goto 38, 3) := by decide +kernel
theorem dX6_goesFrom_144 : decode cX6_goesFrom 144 = .ok (.aload_n 0, 1) := by decide +kernel
theorem dX6_goesFrom_145 : decode cX6_goesFrom 145 = .ok (.getfield 25, 3) := by decide +kernel
theorem dX6_goesFrom_148 : decode cX6_goesFrom 148 = .ok (.iload 8, 2) := by decide +kernel
theorem dX6_goesFrom_150 : decode cX6_goesFrom 150 = .ok (.iaload, 1) := by decide +kernel
theorem dX6_goesFrom_151 : decode cX6_goesFrom 151 = .ok (.iload 5, 2) := by decide +kernel
theorem dX6_goesFrom_153 : decode cX6_goesFrom 153 = .ok (.if_icmp .ne 26, 3) := by decide +kernel
theorem dX6_goesFrom_156 : decode cX6_goesFrom 156 = .ok (.aload_n 0, 1) := by decide +kernel
theorem dX6_goesFrom_157 : decode cX6_goesFrom 157 = .ok (.getfield 25, 3) := by decide +kernel
theorem dX6_goesFrom_160 : decode cX6_goesFrom 160 = .ok (.iload 7, 2) := by decide +kernel
theorem dX6_goesFrom_162 : decode cX6_goesFrom 162 = .ok (.iaload, 1) := by decide +kernel
theorem dX6_goesFrom_163 : decode cX6_goesFrom 163 = .ok (.bipush (-4), 2) := by decide +kernel
theorem dX6_goesFrom_165 : decode cX6_goesFrom 165 = .ok (.if_icmp .ne 14, 3) := by decide +kernel
theorem dX6_goesFrom_168 : decode cX6_goesFrom 168 = .ok (.aload_n 0, 1) := by decide +kernel
theorem dX6_goesFrom_169 : decode cX6_goesFrom 169 = .ok (.getfield 25, 3) := by decide +kernel
theorem dX6_goesFrom_172 : decode cX6_goesFrom 172 = .ok (.iload 7, 2) := by decide +kernel
theorem dX6_goesFrom_174 : decode cX6_goesFrom 174 = .ok (.iload 5, 2) := by decide +kernel
theorem dX6_goesFrom_176 : decode cX6_goesFrom 176 = .ok (.iconst 1, 1) := by decide +kernel
theorem dX6_goesFrom_177 : decode cX6_goesFrom 177 = .ok (.iadd, 1) := by decide +kernel
theorem dX6_goesFrom_178 : decode cX6_goesFrom 178 = .ok (.iastore, 1) := by decide +kernel
theorem dX6_goesFrom_179 : decode cX6_goesFrom 179 = .ok (.iload 4, 2) := by decide +kernel
theorem dX6_goesFrom_181 : decode cX6_goesFrom 181 = .ok (.aload_n 0, 1) := by decide +kernel
theorem dX6_goesFrom_182 : decode cX6_goesFrom 182 = .ok (.getfield 25, 3) := by decide +kernel
theorem dX6_goesFrom_185 : decode cX6_goesFrom 185 = .ok (.iload 7, 2) := by decide +kernel
theorem dX6_goesFrom_187 : decode cX6_goesFrom 187 = .ok (.iaload, 1) := by decide +kernel
theorem dX6_goesFrom_188 : decode cX6_goesFrom 188 = .ok (.bipush (-4), 2) := by decide +kernel
theorem dX6_goesFrom_190 : decode cX6_goesFrom 190 = .ok (.if_icmp .eq 10, 3) := by decide +kernel
theorem dX6_goesFrom_193 : decode cX6_goesFrom 193 = .ok (.iconst 1, 1) := by decide +kernel
theorem dX6_goesFrom_194 : decode cX6_goesFrom 194 = .ok (.iload 7, 2) := by decide +kernel
theorem dX6_goesFrom_196 : decode cX6_goesFrom 196 = .ok (.ishl, 1) := by decide +kernel
theorem dX6_goesFrom_197 : decode cX6_goesFrom 197 = .ok (.goto 4, 3) := by decide +kernel
theorem dX6_goesFrom_200 : decode cX6_goesFrom 200 = .ok (.iconst 0, 1) := by decide +kernel
theorem dX6_goesFrom_201 : decode cX6_goesFrom 201 = .ok (.ior, 1) := by decide +kernel
theorem dX6_goesFrom_202 : decode cX6_goesFrom 202 = .ok (.istore 4, 2) := by decide +kernel
theorem dX6_goesFrom_204 : decode cX6_goesFrom 204 = .ok (.iload 4, 2) := by decide +kernel
theorem dX6_goesFrom_206 : decode cX6_goesFrom 206 = .ok (.aload_n 0, 1) := by decide +kernel
theorem dX6_goesFrom_207 : decode cX6_goesFrom 207 = .ok (.getfield 25, 3) := by decide +kernel
theorem dX6_goesFrom_210 : decode cX6_goesFrom 210 = .ok (.iload 8, 2) := by decide +kernel
theorem dX6_goesFrom_212 : decode cX6_goesFrom 212 = .ok (.iaload, 1) := by decide +kernel
theorem dX6_goesFrom_213 : decode cX6_goesFrom 213 = .ok (.bipush (-4), 2) := by decide +kernel
theorem dX6_goesFrom_215 : decode cX6_goesFrom 215 = .ok (.if_icmp .eq 10, 3) := by decide +kernel
theorem dX6_goesFrom_218 : decode cX6_goesFrom 218 = .ok (.iconst 1, 1) := by decide +kernel
theorem dX6_goesFrom_219 : decode cX6_goesFrom 219 = .ok (.iload 8, 2) := by decide +kernel
theorem dX6_goesFrom_221 : decode cX6_goesFrom 221 = .ok (.ishl, 1) := by decide +kernel
theorem dX6_goesFrom_222 : decode cX6_goesFrom 222 = .ok (.goto 4, 3) := by decide +kernel
theorem dX6_goesFrom_225 : decode cX6_goesFrom 225 = .ok (.iconst 0, 1) := by decide +kernel
theorem dX6_goesFrom_226 : decode cX6_goesFrom 226 = .ok (.ior, 1) := by decide +kernel
theorem dX6_goesFrom_227 : decode cX6_goesFrom 227 = .ok (.istore 4, 2) := by decide +kernel
theorem dX6_goesFrom_229 : decode cX6_goesFrom 229 = .ok (.iinc 6 1, 3) := by decide +kernel
theorem dX6_goesFrom_232 : decode cX6_goesFrom 232 = .ok (.goto (-179), 3) := by decide +kernel
theorem dX6_goesFrom_235 : decode cX6_goesFrom 235 = .ok (.iinc 5 1, 3) := by decide +kernel
theorem dX6_goesFrom_238 : decode cX6_goesFrom 238 = .ok (.goto (-195), 3) := by decide +kernel
theorem dX6_goesFrom_241 : decode cX6_goesFrom 241 = .ok (.iload 4, 2) := by decide +kernel
theorem dX6_goesFrom_243 : decode cX6_goesFrom 243 = .ok (.ireturn, 1) := by decide +kernel
theorem dX6_reachesOn_0 : decode cX6_reachesOn 0 = .ok (.aload_n 0, 1) := by decide +kernel
theorem dX6_reachesOn_1 : decode cX6_reachesOn 1 = .ok (.iload_n 1, 1) := by decide +kernel
theorem dX6_reachesOn_2 : decode cX6_reachesOn 2 = .ok (.iload_n 2, 1) := by decide +kernel
theorem dX6_reachesOn_3 : decode cX6_reachesOn 3 = .ok (.aload_n 0, 1) := by decide +kernel
theorem dX6_reachesOn_4 : decode cX6_reachesOn 4 = .ok (.getfield 7, 3) := by decide +kernel
theorem dX6_reachesOn_7 : decode cX6_reachesOn 7 = .ok (.iload_n 1, 1) := by decide +kernel
theorem dX6_reachesOn_8 : decode cX6_reachesOn 8 = .ok (.bipush 10, 2) := by decide +kernel
theorem dX6_reachesOn_10 : decode cX6_reachesOn 10 = .ok (.iadd, 1) := by decide +kernel
theorem dX6_reachesOn_11 : decode cX6_reachesOn 11 = .ok (.iload_n 2, 1) := by decide +kernel
theorem dX6_reachesOn_12 : decode cX6_reachesOn 12 = .ok (.iadd, 1) := by decide +kernel
theorem dX6_reachesOn_13 : decode cX6_reachesOn 13 = .ok (.iaload, 1) := by decide +kernel
theorem dX6_reachesOn_14 : decode cX6_reachesOn 14 = .ok (.invokevirtual 166, 3) := by decide +kernel
theorem dX6_reachesOn_17 : decode cX6_reachesOn 17 = .ok (.ireturn, 1) := by decide +kernel
theorem dX6_gainOn_0 : decode cX6_gainOn 0 = .ok (.aload_n 0, 1) := by decide +kernel
theorem dX6_gainOn_1 : decode cX6_gainOn 1 = .ok (.iload_n 1, 1) := by decide +kernel
theorem dX6_gainOn_2 : decode cX6_gainOn 2 = .ok (.iload_n 2, 1) := by decide +kernel
theorem dX6_gainOn_3 : decode cX6_gainOn 3 = .ok (.invokevirtual 169, 3) := by decide +kernel
theorem dX6_gainOn_6 : decode cX6_gainOn 6 = .ok (.istore_n 3, 1) := by decide +kernel
theorem dX6_gainOn_7 : decode cX6_gainOn 7 = .ok (.iconst 0, 1) := by decide +kernel
theorem dX6_gainOn_8 : decode cX6_gainOn 8 = .ok (.istore 4, 2) := by decide +kernel
theorem dX6_gainOn_10 : decode cX6_gainOn 10 = .ok (.iconst 0, 1) := by decide +kernel
theorem dX6_gainOn_11 : decode cX6_gainOn 11 = .ok (.istore 5, 2) := by decide +kernel
theorem dX6_gainOn_13 : decode cX6_gainOn 13 = .ok (.iload 5, 2) := by decide +kernel
theorem dX6_gainOn_15 : decode cX6_gainOn 15 = .ok (.bipush 8, 2) := by decide +kernel
theorem dX6_gainOn_17 : decode cX6_gainOn 17 = .ok (.if_icmp .ge 56, 3) := by decide +kernel
theorem dX6_gainOn_20 : decode cX6_gainOn 20 = .ok (.iload 4, 2) := by decide +kernel
theorem dX6_gainOn_22 : decode cX6_gainOn 22 = .ok (.iload_n 3, 1) := by decide +kernel
theorem dX6_gainOn_23 : decode cX6_gainOn 23 = .ok (.iload 5, 2) := by decide +kernel
theorem dX6_gainOn_25 : decode cX6_gainOn 25 = .ok (.ishr, 1) := by decide +kernel
theorem dX6_gainOn_26 : decode cX6_gainOn 26 = .ok (.iconst 1, 1) := by decide +kernel
theorem dX6_gainOn_27 : decode cX6_gainOn 27 = .ok (.iand, 1) := by decide +kernel
theorem dX6_gainOn_28 : decode cX6_gainOn 28 = .ok (.iconst 1, 1) := by decide +kernel
theorem dX6_gainOn_29 : decode cX6_gainOn 29 = .ok (.if_icmp .ne 34, 3) := by decide +kernel
theorem dX6_gainOn_32 : decode cX6_gainOn 32 = .ok (.iload 5, 2) := by decide +kernel
theorem dX6_gainOn_34 : decode cX6_gainOn 34 = .ok (.aload_n 0, 1) := by decide +kernel
theorem dX6_gainOn_35 : decode cX6_gainOn 35 = .ok (.getfield 7, 3) := by decide +kernel
theorem dX6_gainOn_38 : decode cX6_gainOn 38 = .ok (.iload_n 1, 1) := by decide +kernel
theorem dX6_gainOn_39 : decode cX6_gainOn 39 = .ok (.bipush 10, 2) := by decide +kernel
theorem dX6_gainOn_41 : decode cX6_gainOn 41 = .ok (.iadd, 1) := by decide +kernel
theorem dX6_gainOn_42 : decode cX6_gainOn 42 = .ok (.iload_n 2, 1) := by decide +kernel
theorem dX6_gainOn_43 : decode cX6_gainOn 43 = .ok (.iadd, 1) := by decide +kernel
theorem dX6_gainOn_44 : decode cX6_gainOn 44 = .ok (.iaload, 1) := by decide +kernel
theorem dX6_gainOn_45 : decode cX6_gainOn 45 = .ok (.if_icmp .eq 18, 3) := by decide +kernel
theorem dX6_gainOn_48 : decode cX6_gainOn 48 = .ok (.aload_n 0, 1) := by decide +kernel
theorem dX6_gainOn_49 : decode cX6_gainOn 49 = .ok (.getfield 7, 3) := by decide +kernel
theorem dX6_gainOn_52 : decode cX6_gainOn 52 = .ok (.iload_n 1, 1) := by decide +kernel
theorem dX6_gainOn_53 : decode cX6_gainOn 53 = .ok (.bipush 44, 2) := by decide +kernel
theorem dX6_gainOn_55 : decode cX6_gainOn 55 = .ok (.iadd, 1) := by decide +kernel
theorem dX6_gainOn_56 : decode cX6_gainOn 56 = .ok (.iload 5, 2) := by decide +kernel
theorem dX6_gainOn_58 : decode cX6_gainOn 58 = .ok (.iadd, 1) := by decide +kernel
theorem dX6_gainOn_59 : decode cX6_gainOn 59 = .ok (.iaload, 1) := by decide +kernel
theorem dX6_gainOn_60 : decode cX6_gainOn 60 = .ok (.goto 4, 3) := by decide +kernel
theorem dX6_gainOn_63 : decode cX6_gainOn 63 = .ok (.iconst 0, 1) := by decide +kernel
theorem dX6_gainOn_64 : decode cX6_gainOn 64 = .ok (.iadd, 1) := by decide +kernel
theorem dX6_gainOn_65 : decode cX6_gainOn 65 = .ok (.istore 4, 2) := by decide +kernel
theorem dX6_gainOn_67 : decode cX6_gainOn 67 = .ok (.iinc 5 1, 3) := by decide +kernel
theorem dX6_gainOn_70 : decode cX6_gainOn 70 = .ok (.goto (-57), 3) := by decide +kernel
theorem dX6_gainOn_73 : decode cX6_gainOn 73 = .ok (.iload 4, 2) := by decide +kernel
theorem dX6_gainOn_75 : decode cX6_gainOn 75 = .ok (.ireturn, 1) := by decide +kernel
theorem dX6_bitsOf_0 : decode cX6_bitsOf 0 = .ok (.iconst 0, 1) := by decide +kernel
theorem dX6_bitsOf_1 : decode cX6_bitsOf 1 = .ok (.istore_n 1, 1) := by decide +kernel
theorem dX6_bitsOf_2 : decode cX6_bitsOf 2 = .ok (.iload_n 0, 1) := by decide +kernel
theorem dX6_bitsOf_3 : decode cX6_bitsOf 3 = .ok (.istore_n 2, 1) := by decide +kernel
theorem dX6_bitsOf_4 : decode cX6_bitsOf 4 = .ok (.iload_n 2, 1) := by decide +kernel
theorem dX6_bitsOf_5 : decode cX6_bitsOf 5 = .ok (.ifCond .le 16, 3) := by decide +kernel
theorem dX6_bitsOf_8 : decode cX6_bitsOf 8 = .ok (.iload_n 1, 1) := by decide +kernel
theorem dX6_bitsOf_9 : decode cX6_bitsOf 9 = .ok (.iload_n 2, 1) := by decide +kernel
theorem dX6_bitsOf_10 : decode cX6_bitsOf 10 = .ok (.iconst 1, 1) := by decide +kernel
theorem dX6_bitsOf_11 : decode cX6_bitsOf 11 = .ok (.iand, 1) := by decide +kernel
theorem dX6_bitsOf_12 : decode cX6_bitsOf 12 = .ok (.iadd, 1) := by decide +kernel
theorem dX6_bitsOf_13 : decode cX6_bitsOf 13 = .ok (.istore_n 1, 1) := by decide +kernel
theorem dX6_bitsOf_14 : decode cX6_bitsOf 14 = .ok (.iload_n 2, 1) := by decide +kernel
theorem dX6_bitsOf_15 : decode cX6_bitsOf 15 = .ok (.iconst 1, 1) := by decide +kernel
theorem dX6_bitsOf_16 : decode cX6_bitsOf 16 = .ok (.ishr, 1) := by decide +kernel
theorem dX6_bitsOf_17 : decode cX6_bitsOf 17 = .ok (.istore_n 2, 1) := by decide +kernel
theorem dX6_bitsOf_18 : decode cX6_bitsOf 18 = .ok (.goto (-14), 3) := by decide +kernel
theorem dX6_bitsOf_21 : decode cX6_bitsOf 21 = .ok (.iload_n 1, 1) := by decide +kernel
theorem dX6_bitsOf_22 : decode cX6_bitsOf 22 = .ok (.ireturn, 1) := by decide +kernel
theorem dX6_allOn_0 : decode cX6_allOn 0 = .ok (.iconst 0, 1) := by decide +kernel
theorem dX6_allOn_1 : decode cX6_allOn 1 = .ok (.istore_n 2, 1) := by decide +kernel
theorem dX6_allOn_2 : decode cX6_allOn 2 = .ok (.iconst 0, 1) := by decide +kernel
theorem dX6_allOn_3 : decode cX6_allOn 3 = .ok (.istore_n 3, 1) := by decide +kernel
theorem dX6_allOn_4 : decode cX6_allOn 4 = .ok (.iload_n 3, 1) := by decide +kernel
theorem dX6_allOn_5 : decode cX6_allOn 5 = .ok (.aload_n 0, 1) := by decide +kernel
theorem dX6_allOn_6 : decode cX6_allOn 6 = .ok (.getfield 144, 3) := by decide +kernel
theorem dX6_allOn_9 : decode cX6_allOn 9 = .ok (.if_icmp .ge 21, 3) := by decide +kernel
theorem dX6_allOn_12 : decode cX6_allOn 12 = .ok (.iload_n 2, 1) := by decide +kernel
theorem dX6_allOn_13 : decode cX6_allOn 13 = .ok (.aload_n 0, 1) := by decide +kernel
theorem dX6_allOn_14 : decode cX6_allOn 14 = .ok (.iload_n 1, 1) := by decide +kernel
theorem dX6_allOn_15 : decode cX6_allOn 15 = .ok (.iload_n 3, 1) := by decide +kernel
theorem dX6_allOn_16 : decode cX6_allOn 16 = .ok (.invokevirtual 169, 3) := by decide +kernel
theorem dX6_allOn_19 : decode cX6_allOn 19 = .ok (.invokestatic 172, 3) := by decide +kernel
theorem dX6_allOn_22 : decode cX6_allOn 22 = .ok (.iadd, 1) := by decide +kernel
theorem dX6_allOn_23 : decode cX6_allOn 23 = .ok (.istore_n 2, 1) := by decide +kernel
theorem dX6_allOn_24 : decode cX6_allOn 24 = .ok (.iinc 3 1, 3) := by decide +kernel
theorem dX6_allOn_27 : decode cX6_allOn 27 = .ok (.goto (-23), 3) := by decide +kernel
theorem dX6_allOn_30 : decode cX6_allOn 30 = .ok (.iload_n 2, 1) := by decide +kernel
theorem dX6_allOn_31 : decode cX6_allOn 31 = .ok (.ireturn, 1) := by decide +kernel
theorem dX6_hungOn_0 : decode cX6_hungOn 0 = .ok (.iconst 0, 1) := by decide +kernel
theorem dX6_hungOn_1 : decode cX6_hungOn 1 = .ok (.istore_n 2, 1) := by decide +kernel
theorem dX6_hungOn_2 : decode cX6_hungOn 2 = .ok (.iconst 0, 1) := by decide +kernel
theorem dX6_hungOn_3 : decode cX6_hungOn 3 = .ok (.istore_n 3, 1) := by decide +kernel
theorem dX6_hungOn_4 : decode cX6_hungOn 4 = .ok (.iload_n 3, 1) := by decide +kernel
theorem dX6_hungOn_5 : decode cX6_hungOn 5 = .ok (.aload_n 0, 1) := by decide +kernel
theorem dX6_hungOn_6 : decode cX6_hungOn 6 = .ok (.getfield 144, 3) := by decide +kernel
theorem dX6_hungOn_9 : decode cX6_hungOn 9 = .ok (.if_icmp .ge 31, 3) := by decide +kernel
theorem dX6_hungOn_12 : decode cX6_hungOn 12 = .ok (.iload_n 2, 1) := by decide +kernel
theorem dX6_hungOn_13 : decode cX6_hungOn 13 = .ok (.aload_n 0, 1) := by decide +kernel
theorem dX6_hungOn_14 : decode cX6_hungOn 14 = .ok (.getfield 7, 3) := by decide +kernel
theorem dX6_hungOn_17 : decode cX6_hungOn 17 = .ok (.iload_n 1, 1) := by decide +kernel
theorem dX6_hungOn_18 : decode cX6_hungOn 18 = .ok (.bipush 15, 2) := by decide +kernel
theorem dX6_hungOn_20 : decode cX6_hungOn 20 = .ok (.iadd, 1) := by decide +kernel
theorem dX6_hungOn_21 : decode cX6_hungOn 21 = .ok (.iload_n 3, 1) := by decide +kernel
theorem dX6_hungOn_22 : decode cX6_hungOn 22 = .ok (.iadd, 1) := by decide +kernel
theorem dX6_hungOn_23 : decode cX6_hungOn 23 = .ok (.iaload, 1) := by decide +kernel
theorem dX6_hungOn_24 : decode cX6_hungOn 24 = .ok (.ifCond .le 7, 3) := by decide +kernel
theorem dX6_hungOn_27 : decode cX6_hungOn 27 = .ok (.iconst 1, 1) := by decide +kernel
theorem dX6_hungOn_28 : decode cX6_hungOn 28 = .ok (.goto 4, 3) := by decide +kernel
theorem dX6_hungOn_31 : decode cX6_hungOn 31 = .ok (.iconst 0, 1) := by decide +kernel
theorem dX6_hungOn_32 : decode cX6_hungOn 32 = .ok (.iadd, 1) := by decide +kernel
theorem dX6_hungOn_33 : decode cX6_hungOn 33 = .ok (.istore_n 2, 1) := by decide +kernel
theorem dX6_hungOn_34 : decode cX6_hungOn 34 = .ok (.iinc 3 1, 3) := by decide +kernel
theorem dX6_hungOn_37 : decode cX6_hungOn 37 = .ok (.goto (-33), 3) := by decide +kernel
theorem dX6_hungOn_40 : decode cX6_hungOn 40 = .ok (.iload_n 2, 1) := by decide +kernel
theorem dX6_hungOn_41 : decode cX6_hungOn 41 = .ok (.ireturn, 1) := by decide +kernel
theorem dX6_isFreeOn_0 : decode cX6_isFreeOn 0 = .ok (.aload_n 0, 1) := by decide +kernel
theorem dX6_isFreeOn_1 : decode cX6_isFreeOn 1 = .ok (.getfield 7, 3) := by decide +kernel
theorem dX6_isFreeOn_4 : decode cX6_isFreeOn 4 = .ok (.iload_n 1, 1) := by decide +kernel
theorem dX6_isFreeOn_5 : decode cX6_isFreeOn 5 = .ok (.bipush 15, 2) := by decide +kernel
theorem dX6_isFreeOn_7 : decode cX6_isFreeOn 7 = .ok (.iadd, 1) := by decide +kernel
theorem dX6_isFreeOn_8 : decode cX6_isFreeOn 8 = .ok (.iload_n 2, 1) := by decide +kernel
theorem dX6_isFreeOn_9 : decode cX6_isFreeOn 9 = .ok (.iadd, 1) := by decide +kernel
theorem dX6_isFreeOn_10 : decode cX6_isFreeOn 10 = .ok (.iaload, 1) := by decide +kernel
theorem dX6_isFreeOn_11 : decode cX6_isFreeOn 11 = .ok (.ifCond .ne 21, 3) := by decide +kernel
theorem dX6_isFreeOn_14 : decode cX6_isFreeOn 14 = .ok (.aload_n 0, 1) := by decide +kernel
theorem dX6_isFreeOn_15 : decode cX6_isFreeOn 15 = .ok (.getfield 7, 3) := by decide +kernel
theorem dX6_isFreeOn_18 : decode cX6_isFreeOn 18 = .ok (.iload_n 1, 1) := by decide +kernel
theorem dX6_isFreeOn_19 : decode cX6_isFreeOn 19 = .ok (.bipush 20, 2) := by decide +kernel
theorem dX6_isFreeOn_21 : decode cX6_isFreeOn 21 = .ok (.iadd, 1) := by decide +kernel
theorem dX6_isFreeOn_22 : decode cX6_isFreeOn 22 = .ok (.iload_n 2, 1) := by decide +kernel
theorem dX6_isFreeOn_23 : decode cX6_isFreeOn 23 = .ok (.iadd, 1) := by decide +kernel
theorem dX6_isFreeOn_24 : decode cX6_isFreeOn 24 = .ok (.iaload, 1) := by decide +kernel
theorem dX6_isFreeOn_25 : decode cX6_isFreeOn 25 = .ok (.ifCond .ne 7, 3) := by decide +kernel
theorem dX6_isFreeOn_28 : decode cX6_isFreeOn 28 = .ok (.iconst 1, 1) := by decide +kernel
theorem dX6_isFreeOn_29 : decode cX6_isFreeOn 29 = .ok (.goto 4, 3) := by decide +kernel
theorem dX6_isFreeOn_32 : decode cX6_isFreeOn 32 = .ok (.iconst 0, 1) := by decide +kernel
theorem dX6_isFreeOn_33 : decode cX6_isFreeOn 33 = .ok (.ireturn, 1) := by decide +kernel
theorem dX6_whoReaches_0 : decode cX6_whoReaches 0 = .ok (.iconst 0, 1) := by decide +kernel
theorem dX6_whoReaches_1 : decode cX6_whoReaches 1 = .ok (.istore_n 2, 1) := by decide +kernel
theorem dX6_whoReaches_2 : decode cX6_whoReaches 2 = .ok (.iconst 0, 1) := by decide +kernel
theorem dX6_whoReaches_3 : decode cX6_whoReaches 3 = .ok (.istore_n 3, 1) := by decide +kernel
theorem dX6_whoReaches_4 : decode cX6_whoReaches 4 = .ok (.iload_n 3, 1) := by decide +kernel
theorem dX6_whoReaches_5 : decode cX6_whoReaches 5 = .ok (.aload_n 0, 1) := by decide +kernel
theorem dX6_whoReaches_6 : decode cX6_whoReaches 6 = .ok (.getfield 144, 3) := by decide +kernel
theorem dX6_whoReaches_9 : decode cX6_whoReaches 9 = .ok (.if_icmp .ge 33, 3) := by decide +kernel
theorem dX6_whoReaches_12 : decode cX6_whoReaches 12 = .ok (.iload_n 2, 1) := by decide +kernel
theorem dX6_whoReaches_13 : decode cX6_whoReaches 13 = .ok (.aload_n 0, 1) := by decide +kernel
theorem dX6_whoReaches_14 : decode cX6_whoReaches 14 = .ok (.iconst 0, 1) := by decide +kernel
theorem dX6_whoReaches_15 : decode cX6_whoReaches 15 = .ok (.iload_n 3, 1) := by decide +kernel
theorem dX6_whoReaches_16 : decode cX6_whoReaches 16 = .ok (.invokevirtual 169, 3) := by decide +kernel
theorem dX6_whoReaches_19 : decode cX6_whoReaches 19 = .ok (.iload_n 1, 1) := by decide +kernel
theorem dX6_whoReaches_20 : decode cX6_whoReaches 20 = .ok (.ishr, 1) := by decide +kernel
theorem dX6_whoReaches_21 : decode cX6_whoReaches 21 = .ok (.iconst 1, 1) := by decide +kernel
theorem dX6_whoReaches_22 : decode cX6_whoReaches 22 = .ok (.iand, 1) := by decide +kernel
theorem dX6_whoReaches_23 : decode cX6_whoReaches 23 = .ok (.iconst 1, 1) := by decide +kernel
theorem dX6_whoReaches_24 : decode cX6_whoReaches 24 = .ok (.if_icmp .ne 9, 3) := by decide +kernel
theorem dX6_whoReaches_27 : decode cX6_whoReaches 27 = .ok (.iconst 1, 1) := by decide +kernel
theorem dX6_whoReaches_28 : decode cX6_whoReaches 28 = .ok (.iload_n 3, 1) := by decide +kernel
theorem dX6_whoReaches_29 : decode cX6_whoReaches 29 = .ok (.ishl, 1) := by decide +kernel
theorem dX6_whoReaches_30 : decode cX6_whoReaches 30 = .ok (.goto 4, 3) := by decide +kernel
theorem dX6_whoReaches_33 : decode cX6_whoReaches 33 = .ok (.iconst 0, 1) := by decide +kernel
theorem dX6_whoReaches_34 : decode cX6_whoReaches 34 = .ok (.ior, 1) := by decide +kernel
theorem dX6_whoReaches_35 : decode cX6_whoReaches 35 = .ok (.istore_n 2, 1) := by decide +kernel
theorem dX6_whoReaches_36 : decode cX6_whoReaches 36 = .ok (.iinc 3 1, 3) := by decide +kernel
theorem dX6_whoReaches_39 : decode cX6_whoReaches 39 = .ok (.goto (-35), 3) := by decide +kernel
theorem dX6_whoReaches_42 : decode cX6_whoReaches 42 = .ok (.iload_n 2, 1) := by decide +kernel
theorem dX6_whoReaches_43 : decode cX6_whoReaches 43 = .ok (.ireturn, 1) := by decide +kernel
theorem dX6_rule_0 : decode cX6_rule 0 = .ok (.iconst 0, 1) := by decide +kernel
theorem dX6_rule_1 : decode cX6_rule 1 = .ok (.istore_n 2, 1) := by decide +kernel
theorem dX6_rule_2 : decode cX6_rule 2 = .ok (.iconst 0, 1) := by decide +kernel
theorem dX6_rule_3 : decode cX6_rule 3 = .ok (.istore_n 3, 1) := by decide +kernel
theorem dX6_rule_4 : decode cX6_rule 4 = .ok (.iconst 0, 1) := by decide +kernel
theorem dX6_rule_5 : decode cX6_rule 5 = .ok (.istore 4, 2) := by decide +kernel
theorem dX6_rule_7 : decode cX6_rule 7 = .ok (.iload 4, 2) := by decide +kernel
theorem dX6_rule_9 : decode cX6_rule 9 = .ok (.aload_n 0, 1) := by decide +kernel
theorem dX6_rule_10 : decode cX6_rule 10 = .ok (.getfield 144, 3) := by decide +kernel
theorem dX6_rule_13 : decode cX6_rule 13 = .ok (.if_icmp .ge 30, 3) := by decide +kernel
theorem dX6_rule_16 : decode cX6_rule 16 = .ok (.iload_n 2, 1) := by decide +kernel
theorem dX6_rule_17 : decode cX6_rule 17 = .ok (.aload_n 0, 1) := by decide +kernel
theorem dX6_rule_18 : decode cX6_rule 18 = .ok (.iconst 0, 1) := by decide +kernel
theorem dX6_rule_19 : decode cX6_rule 19 = .ok (.iload 4, 2) := by decide +kernel
theorem dX6_rule_21 : decode cX6_rule 21 = .ok (.invokevirtual 175, 3) := by decide +kernel
theorem dX6_rule_24 : decode cX6_rule 24 = .ok (.ifCond .eq 10, 3) := by decide +kernel
theorem dX6_rule_27 : decode cX6_rule 27 = .ok (.iconst 1, 1) := by decide +kernel
theorem dX6_rule_28 : decode cX6_rule 28 = .ok (.iload 4, 2) := by decide +kernel
theorem dX6_rule_30 : decode cX6_rule 30 = .ok (.ishl, 1) := by decide +kernel
theorem dX6_rule_31 : decode cX6_rule 31 = .ok (.goto 4, 3) := by decide +kernel
theorem dX6_rule_34 : decode cX6_rule 34 = .ok (.iconst 0, 1) := by decide +kernel
theorem dX6_rule_35 : decode cX6_rule 35 = .ok (.ior, 1) := by decide +kernel
theorem dX6_rule_36 : decode cX6_rule 36 = .ok (.istore_n 2, 1) := by decide +kernel
theorem dX6_rule_37 : decode cX6_rule 37 = .ok (.iinc 4 1, 3) := by decide +kernel
theorem dX6_rule_40 : decode cX6_rule 40 = .ok (.goto (-33), 3) := by decide +kernel
theorem dX6_rule_43 : decode cX6_rule 43 = .ok (.iconst 0, 1) := by decide +kernel
theorem dX6_rule_44 : decode cX6_rule 44 = .ok (.istore 4, 2) := by decide +kernel
theorem dX6_rule_46 : decode cX6_rule 46 = .ok (.iload 4, 2) := by decide +kernel
theorem dX6_rule_48 : decode cX6_rule 48 = .ok (.bipush 8, 2) := by decide +kernel
theorem dX6_rule_50 : decode cX6_rule 50 = .ok (.if_icmp .ge 29, 3) := by decide +kernel
theorem dX6_rule_53 : decode cX6_rule 53 = .ok (.iload_n 3, 1) := by decide +kernel
theorem dX6_rule_54 : decode cX6_rule 54 = .ok (.aload_n 0, 1) := by decide +kernel
theorem dX6_rule_55 : decode cX6_rule 55 = .ok (.iload 4, 2) := by decide +kernel
theorem dX6_rule_57 : decode cX6_rule 57 = .ok (.invokevirtual 179, 3) := by decide +kernel
theorem dX6_rule_60 : decode cX6_rule 60 = .ok (.ifCond .ne 10, 3) := by decide +kernel
theorem dX6_rule_63 : decode cX6_rule 63 = .ok (.iconst 1, 1) := by decide +kernel
theorem dX6_rule_64 : decode cX6_rule 64 = .ok (.iload 4, 2) := by decide +kernel
theorem dX6_rule_66 : decode cX6_rule 66 = .ok (.ishl, 1) := by decide +kernel
theorem dX6_rule_67 : decode cX6_rule 67 = .ok (.goto 4, 3) := by decide +kernel
theorem dX6_rule_70 : decode cX6_rule 70 = .ok (.iconst 0, 1) := by decide +kernel
theorem dX6_rule_71 : decode cX6_rule 71 = .ok (.ior, 1) := by decide +kernel
theorem dX6_rule_72 : decode cX6_rule 72 = .ok (.istore_n 3, 1) := by decide +kernel
theorem dX6_rule_73 : decode cX6_rule 73 = .ok (.iinc 4 1, 3) := by decide +kernel
theorem dX6_rule_76 : decode cX6_rule 76 = .ok (.goto (-30), 3) := by decide +kernel
theorem dX6_rule_79 : decode cX6_rule 79 = .ok (.iload_n 1, 1) := by decide +kernel
theorem dX6_rule_80 : decode cX6_rule 80 = .ok (.tableswitch 71 0 5 #[40, 45, 53, 59, 67, 69], 40) := by decide +kernel
theorem dX6_rule_120 : decode cX6_rule 120 = .ok (.aload_n 0, 1) := by decide +kernel
theorem dX6_rule_121 : decode cX6_rule 121 = .ok (.getfield 144, 3) := by decide +kernel
theorem dX6_rule_124 : decode cX6_rule 124 = .ok (.ireturn, 1) := by decide +kernel
theorem dX6_rule_125 : decode cX6_rule 125 = .ok (.aload_n 0, 1) := by decide +kernel
theorem dX6_rule_126 : decode cX6_rule 126 = .ok (.getfield 7, 3) := by decide +kernel
theorem dX6_rule_129 : decode cX6_rule 129 = .ok (.bipush 25, 2) := by decide +kernel
theorem dX6_rule_131 : decode cX6_rule 131 = .ok (.iaload, 1) := by decide +kernel
theorem dX6_rule_132 : decode cX6_rule 132 = .ok (.ireturn, 1) := by decide +kernel
theorem dX6_rule_133 : decode cX6_rule 133 = .ok (.aload_n 0, 1) := by decide +kernel
theorem dX6_rule_134 : decode cX6_rule 134 = .ok (.iconst 0, 1) := by decide +kernel
theorem dX6_rule_135 : decode cX6_rule 135 = .ok (.invokevirtual 182, 3) := by decide +kernel
theorem dX6_rule_138 : decode cX6_rule 138 = .ok (.ireturn, 1) := by decide +kernel
theorem dX6_rule_139 : decode cX6_rule 139 = .ok (.aload_n 0, 1) := by decide +kernel
theorem dX6_rule_140 : decode cX6_rule 140 = .ok (.getfield 7, 3) := by decide +kernel
theorem dX6_rule_143 : decode cX6_rule 143 = .ok (.bipush 52, 2) := by decide +kernel
theorem dX6_rule_145 : decode cX6_rule 145 = .ok (.iaload, 1) := by decide +kernel
theorem dX6_rule_146 : decode cX6_rule 146 = .ok (.ireturn, 1) := by decide +kernel
theorem dX6_rule_147 : decode cX6_rule 147 = .ok (.iload_n 2, 1) := by decide +kernel
theorem dX6_rule_148 : decode cX6_rule 148 = .ok (.ireturn, 1) := by decide +kernel
theorem dX6_rule_149 : decode cX6_rule 149 = .ok (.iload_n 3, 1) := by decide +kernel
theorem dX6_rule_150 : decode cX6_rule 150 = .ok (.ireturn, 1) := by decide +kernel
theorem dX6_rule_151 : decode cX6_rule 151 = .ok (.iconst (-1), 1) := by decide +kernel
theorem dX6_rule_152 : decode cX6_rule 152 = .ok (.ireturn, 1) := by decide +kernel
theorem dX6_one_0 : decode cX6_one 0 = .ok (.aload_n 0, 1) := by decide +kernel
theorem dX6_one_1 : decode cX6_one 1 = .ok (.iload_n 1, 1) := by decide +kernel
theorem dX6_one_2 : decode cX6_one 2 = .ok (.invokevirtual 185, 3) := by decide +kernel
theorem dX6_one_5 : decode cX6_one 5 = .ok (.ifCond .ne 5, 3) := by decide +kernel
theorem dX6_one_8 : decode cX6_one 8 = .ok (.iconst (-1), 1) := by decide +kernel
theorem dX6_one_9 : decode cX6_one 9 = .ok (.ireturn, 1) := by decide +kernel
theorem dX6_one_10 : decode cX6_one 10 = .ok (.iload_n 2, 1) := by decide +kernel
theorem dX6_one_11 : decode cX6_one 11 = .ok (.tableswitch 123 0 6 #[41, 41, 41, 52, 81, 88, 95], 41) := by decide +kernel
theorem dX6_one_52 : decode cX6_one 52 = .ok (.aload_n 0, 1) := by decide +kernel
theorem dX6_one_53 : decode cX6_one 53 = .ok (.getfield 7, 3) := by decide +kernel
theorem dX6_one_56 : decode cX6_one 56 = .ok (.iconst 5, 1) := by decide +kernel
theorem dX6_one_57 : decode cX6_one 57 = .ok (.iload_n 2, 1) := by decide +kernel
theorem dX6_one_58 : decode cX6_one 58 = .ok (.imul, 1) := by decide +kernel
theorem dX6_one_59 : decode cX6_one 59 = .ok (.iload_n 1, 1) := by decide +kernel
theorem dX6_one_60 : decode cX6_one 60 = .ok (.iadd, 1) := by decide +kernel
theorem dX6_one_61 : decode cX6_one 61 = .ok (.iaload, 1) := by decide +kernel
theorem dX6_one_62 : decode cX6_one 62 = .ok (.ireturn, 1) := by decide +kernel
theorem dX6_one_63 : decode cX6_one 63 = .ok (.aload_n 0, 1) := by decide +kernel
theorem dX6_one_64 : decode cX6_one 64 = .ok (.getfield 7, 3) := by decide +kernel
theorem dX6_one_67 : decode cX6_one 67 = .ok (.bipush 15, 2) := by decide +kernel
theorem dX6_one_69 : decode cX6_one 69 = .ok (.iload_n 1, 1) := by decide +kernel
theorem dX6_one_70 : decode cX6_one 70 = .ok (.iadd, 1) := by decide +kernel
theorem dX6_one_71 : decode cX6_one 71 = .ok (.iaload, 1) := by decide +kernel
theorem dX6_one_72 : decode cX6_one 72 = .ok (.ifCond .ne 8, 3) := by decide +kernel
theorem dX6_one_75 : decode cX6_one 75 = .ok (.bipush (-4), 2) := by decide +kernel
theorem dX6_one_77 : decode cX6_one 77 = .ok (.goto 14, 3) := by decide +kernel
theorem dX6_one_80 : decode cX6_one 80 = .ok (.aload_n 0, 1) := by decide +kernel
theorem dX6_one_81 : decode cX6_one 81 = .ok (.getfield 7, 3) := by decide +kernel
theorem dX6_one_84 : decode cX6_one 84 = .ok (.bipush 15, 2) := by decide +kernel
theorem dX6_one_86 : decode cX6_one 86 = .ok (.iload_n 1, 1) := by decide +kernel
theorem dX6_one_87 : decode cX6_one 87 = .ok (.iadd, 1) := by decide +kernel
theorem dX6_one_88 : decode cX6_one 88 = .ok (.iaload, 1) := by decide +kernel
theorem dX6_one_89 : decode cX6_one 89 = .ok (.iconst 1, 1) := by decide +kernel
theorem dX6_one_90 : decode cX6_one 90 = .ok (.isub, 1) := by decide +kernel
theorem dX6_one_91 : decode cX6_one 91 = .ok (.ireturn, 1) := by decide +kernel
theorem dX6_one_92 : decode cX6_one 92 = .ok (.aload_n 0, 1) := by decide +kernel
theorem dX6_one_93 : decode cX6_one 93 = .ok (.iconst 0, 1) := by decide +kernel
theorem dX6_one_94 : decode cX6_one 94 = .ok (.iload_n 1, 1) := by decide +kernel
theorem dX6_one_95 : decode cX6_one 95 = .ok (.invokevirtual 169, 3) := by decide +kernel
theorem dX6_one_98 : decode cX6_one 98 = .ok (.ireturn, 1) := by decide +kernel
theorem dX6_one_99 : decode cX6_one 99 = .ok (.aload_n 0, 1) := by decide +kernel
theorem dX6_one_100 : decode cX6_one 100 = .ok (.iconst 0, 1) := by decide +kernel
theorem dX6_one_101 : decode cX6_one 101 = .ok (.iload_n 1, 1) := by decide +kernel
theorem dX6_one_102 : decode cX6_one 102 = .ok (.invokevirtual 189, 3) := by decide +kernel
theorem dX6_one_105 : decode cX6_one 105 = .ok (.ireturn, 1) := by decide +kernel
theorem dX6_one_106 : decode cX6_one 106 = .ok (.aload_n 0, 1) := by decide +kernel
theorem dX6_one_107 : decode cX6_one 107 = .ok (.getfield 7, 3) := by decide +kernel
theorem dX6_one_110 : decode cX6_one 110 = .ok (.bipush 15, 2) := by decide +kernel
theorem dX6_one_112 : decode cX6_one 112 = .ok (.iload_n 1, 1) := by decide +kernel
theorem dX6_one_113 : decode cX6_one 113 = .ok (.iadd, 1) := by decide +kernel
theorem dX6_one_114 : decode cX6_one 114 = .ok (.iaload, 1) := by decide +kernel
theorem dX6_one_115 : decode cX6_one 115 = .ok (.ifCond .le 7, 3) := by decide +kernel
theorem dX6_one_118 : decode cX6_one 118 = .ok (.iconst 1, 1) := by decide +kernel
theorem dX6_one_119 : decode cX6_one 119 = .ok (.goto 14, 3) := by decide +kernel
theorem dX6_one_122 : decode cX6_one 122 = .ok (.iconst 2, 1) := by decide +kernel
theorem dX6_one_123 : decode cX6_one 123 = .ok (.aload_n 0, 1) := by decide +kernel
theorem dX6_one_124 : decode cX6_one 124 = .ok (.getfield 7, 3) := by decide +kernel
theorem dX6_one_127 : decode cX6_one 127 = .ok (.bipush 20, 2) := by decide +kernel
theorem dX6_one_129 : decode cX6_one 129 = .ok (.iload_n 1, 1) := by decide +kernel
theorem dX6_one_130 : decode cX6_one 130 = .ok (.iadd, 1) := by decide +kernel
theorem dX6_one_131 : decode cX6_one 131 = .ok (.iaload, 1) := by decide +kernel
theorem dX6_one_132 : decode cX6_one 132 = .ok (.imul, 1) := by decide +kernel
theorem dX6_one_133 : decode cX6_one 133 = .ok (.ireturn, 1) := by decide +kernel
theorem dX6_one_134 : decode cX6_one 134 = .ok (.iconst (-1), 1) := by decide +kernel
theorem dX6_one_135 : decode cX6_one 135 = .ok (.ireturn, 1) := by decide +kernel
theorem dX6_wall_0 : decode cX6_wall 0 = .ok (.aload_n 0, 1) := by decide +kernel
theorem dX6_wall_1 : decode cX6_wall 1 = .ok (.iload_n 1, 1) := by decide +kernel
theorem dX6_wall_2 : decode cX6_wall 2 = .ok (.invokevirtual 192, 3) := by decide +kernel
theorem dX6_wall_5 : decode cX6_wall 5 = .ok (.ifCond .eq 15, 3) := by decide +kernel
theorem dX6_wall_8 : decode cX6_wall 8 = .ok (.iload_n 2, 1) := by decide +kernel
theorem dX6_wall_9 : decode cX6_wall 9 = .ok (.i2l, 1) := by decide +kernel
theorem dX6_wall_10 : decode cX6_wall 10 = .ok (.lconst 0, 1) := by decide +kernel
theorem dX6_wall_11 : decode cX6_wall 11 = .ok (.ldc2_w 195, 3) := by decide +kernel
theorem dX6_wall_14 : decode cX6_wall 14 = .ok (.invokestatic 49, 3) := by decide +kernel
theorem dX6_wall_17 : decode cX6_wall 17 = .ok (.ifCond .ne 5, 3) := by decide +kernel
theorem dX6_wall_20 : decode cX6_wall 20 = .ok (.iconst (-1), 1) := by decide +kernel
theorem dX6_wall_21 : decode cX6_wall 21 = .ok (.ireturn, 1) := by decide +kernel
theorem dX6_wall_22 : decode cX6_wall 22 = .ok (.iconst 0, 1) := by decide +kernel
theorem dX6_wall_23 : decode cX6_wall 23 = .ok (.istore_n 3, 1) := by decide +kernel
theorem dX6_wall_24 : decode cX6_wall 24 = .ok (.iconst 0, 1) := by decide +kernel
theorem dX6_wall_25 : decode cX6_wall 25 = .ok (.istore 4, 2) := by decide +kernel
theorem dX6_wall_27 : decode cX6_wall 27 = .ok (.iload 4, 2) := by decide +kernel
theorem dX6_wall_29 : decode cX6_wall 29 = .ok (.aload_n 0, 1) := by decide +kernel
theorem dX6_wall_30 : decode cX6_wall 30 = .ok (.getfield 144, 3) := by decide +kernel
theorem dX6_wall_33 : decode cX6_wall 33 = .ok (.if_icmp .ge 31, 3) := by decide +kernel
theorem dX6_wall_36 : decode cX6_wall 36 = .ok (.iload_n 3, 1) := by decide +kernel
theorem dX6_wall_37 : decode cX6_wall 37 = .ok (.aload_n 0, 1) := by decide +kernel
theorem dX6_wall_38 : decode cX6_wall 38 = .ok (.iconst 0, 1) := by decide +kernel
theorem dX6_wall_39 : decode cX6_wall 39 = .ok (.iload_n 1, 1) := by decide +kernel
theorem dX6_wall_40 : decode cX6_wall 40 = .ok (.iload 4, 2) := by decide +kernel
theorem dX6_wall_42 : decode cX6_wall 42 = .ok (.invokevirtual 163, 3) := by decide +kernel
theorem dX6_wall_45 : decode cX6_wall 45 = .ok (.ifCond .eq 10, 3) := by decide +kernel
theorem dX6_wall_48 : decode cX6_wall 48 = .ok (.iconst 1, 1) := by decide +kernel
theorem dX6_wall_49 : decode cX6_wall 49 = .ok (.iload 4, 2) := by decide +kernel
theorem dX6_wall_51 : decode cX6_wall 51 = .ok (.ishl, 1) := by decide +kernel
theorem dX6_wall_52 : decode cX6_wall 52 = .ok (.goto 4, 3) := by decide +kernel
theorem dX6_wall_55 : decode cX6_wall 55 = .ok (.iconst 0, 1) := by decide +kernel
theorem dX6_wall_56 : decode cX6_wall 56 = .ok (.ior, 1) := by decide +kernel
theorem dX6_wall_57 : decode cX6_wall 57 = .ok (.istore_n 3, 1) := by decide +kernel
theorem dX6_wall_58 : decode cX6_wall 58 = .ok (.iinc 4 1, 3) := by decide +kernel
theorem dX6_wall_61 : decode cX6_wall 61 = .ok (.goto (-34), 3) := by decide +kernel
theorem dX6_wall_64 : decode cX6_wall 64 = .ok (.iload_n 2, 1) := by decide +kernel
theorem dX6_wall_65 : decode cX6_wall 65 = .ok (.iconst 2, 1) := by decide +kernel
theorem dX6_wall_66 : decode cX6_wall 66 = .ok (.if_icmp .ge 20, 3) := by decide +kernel
theorem dX6_wall_69 : decode cX6_wall 69 = .ok (.aload_n 0, 1) := by decide +kernel
theorem dX6_wall_70 : decode cX6_wall 70 = .ok (.getfield 7, 3) := by decide +kernel
theorem dX6_wall_73 : decode cX6_wall 73 = .ok (.bipush 26, 2) := by decide +kernel
theorem dX6_wall_75 : decode cX6_wall 75 = .ok (.bipush 9, 2) := by decide +kernel
theorem dX6_wall_77 : decode cX6_wall 77 = .ok (.iload_n 2, 1) := by decide +kernel
theorem dX6_wall_78 : decode cX6_wall 78 = .ok (.imul, 1) := by decide +kernel
theorem dX6_wall_79 : decode cX6_wall 79 = .ok (.iadd, 1) := by decide +kernel
theorem dX6_wall_80 : decode cX6_wall 80 = .ok (.iload_n 1, 1) := by decide +kernel
theorem dX6_wall_81 : decode cX6_wall 81 = .ok (.iadd, 1) := by decide +kernel
theorem dX6_wall_82 : decode cX6_wall 82 = .ok (.iaload, 1) := by decide +kernel
theorem dX6_wall_83 : decode cX6_wall 83 = .ok (.goto 18, 3) := by decide +kernel
theorem dX6_wall_86 : decode cX6_wall 86 = .ok (.iload_n 2, 1) := by decide +kernel
theorem dX6_wall_87 : decode cX6_wall 87 = .ok (.iconst 2, 1) := by decide +kernel
theorem dX6_wall_88 : decode cX6_wall 88 = .ok (.if_icmp .ne 12, 3) := by decide +kernel
theorem dX6_wall_91 : decode cX6_wall 91 = .ok (.aload_n 0, 1) := by decide +kernel
theorem dX6_wall_92 : decode cX6_wall 92 = .ok (.iconst 0, 1) := by decide +kernel
theorem dX6_wall_93 : decode cX6_wall 93 = .ok (.iload_n 1, 1) := by decide +kernel
theorem dX6_wall_94 : decode cX6_wall 94 = .ok (.invokevirtual 152, 3) := by decide +kernel
theorem dX6_wall_97 : decode cX6_wall 97 = .ok (.goto 4, 3) := by decide +kernel
theorem dX6_wall_100 : decode cX6_wall 100 = .ok (.iload_n 3, 1) := by decide +kernel
theorem dX6_wall_101 : decode cX6_wall 101 = .ok (.ireturn, 1) := by decide +kernel
theorem dX6_room_0 : decode cX6_room 0 = .ok (.iload_n 1, 1) := by decide +kernel
theorem dX6_room_1 : decode cX6_room 1 = .ok (.invokestatic 197, 3) := by decide +kernel
theorem dX6_room_4 : decode cX6_room 4 = .ok (.ifCond .eq 13, 3) := by decide +kernel
theorem dX6_room_7 : decode cX6_room 7 = .ok (.iload_n 2, 1) := by decide +kernel
theorem dX6_room_8 : decode cX6_room 8 = .ok (.i2l, 1) := by decide +kernel
theorem dX6_room_9 : decode cX6_room 9 = .ok (.lconst 0, 1) := by decide +kernel
theorem dX6_room_10 : decode cX6_room 10 = .ok (.lconst 1, 1) := by decide +kernel
theorem dX6_room_11 : decode cX6_room 11 = .ok (.invokestatic 49, 3) := by decide +kernel
theorem dX6_room_14 : decode cX6_room 14 = .ok (.ifCond .ne 7, 3) := by decide +kernel
theorem dX6_room_17 : decode cX6_room 17 = .ok (.iconst (-1), 1) := by decide +kernel
theorem dX6_room_18 : decode cX6_room 18 = .ok (.goto 24, 3) := by decide +kernel
theorem dX6_room_21 : decode cX6_room 21 = .ok (.iload_n 2, 1) := by decide +kernel
theorem dX6_room_22 : decode cX6_room 22 = .ok (.ifCond .ne 15, 3) := by decide +kernel
theorem dX6_room_25 : decode cX6_room 25 = .ok (.aload_n 0, 1) := by decide +kernel
theorem dX6_room_26 : decode cX6_room 26 = .ok (.getfield 7, 3) := by decide +kernel
theorem dX6_room_29 : decode cX6_room 29 = .ok (.bipush 44, 2) := by decide +kernel
theorem dX6_room_31 : decode cX6_room 31 = .ok (.iload_n 1, 1) := by decide +kernel
theorem dX6_room_32 : decode cX6_room 32 = .ok (.iadd, 1) := by decide +kernel
theorem dX6_room_33 : decode cX6_room 33 = .ok (.iaload, 1) := by decide +kernel
theorem dX6_room_34 : decode cX6_room 34 = .ok (.goto 8, 3) := by decide +kernel
theorem dX6_room_37 : decode cX6_room 37 = .ok (.aload_n 0, 1) := by decide +kernel
theorem dX6_room_38 : decode cX6_room 38 = .ok (.iload_n 1, 1) := by decide +kernel
theorem dX6_room_39 : decode cX6_room 39 = .ok (.invokevirtual 179, 3) := by decide +kernel
theorem dX6_room_42 : decode cX6_room 42 = .ok (.ireturn, 1) := by decide +kernel
theorem dX6_act_0 : decode cX6_act 0 = .ok (.iload_n 1, 1) := by decide +kernel
theorem dX6_act_1 : decode cX6_act 1 = .ok (.i2l, 1) := by decide +kernel
theorem dX6_act_2 : decode cX6_act 2 = .ok (.lconst 0, 1) := by decide +kernel
theorem dX6_act_3 : decode cX6_act 3 = .ok (.aload_n 0, 1) := by decide +kernel
theorem dX6_act_4 : decode cX6_act 4 = .ok (.getfield 7, 3) := by decide +kernel
theorem dX6_act_7 : decode cX6_act 7 = .ok (.bipush 52, 2) := by decide +kernel
theorem dX6_act_9 : decode cX6_act 9 = .ok (.iaload, 1) := by decide +kernel
theorem dX6_act_10 : decode cX6_act 10 = .ok (.iconst 1, 1) := by decide +kernel
theorem dX6_act_11 : decode cX6_act 11 = .ok (.isub, 1) := by decide +kernel
theorem dX6_act_12 : decode cX6_act 12 = .ok (.i2l, 1) := by decide +kernel
theorem dX6_act_13 : decode cX6_act 13 = .ok (.invokestatic 49, 3) := by decide +kernel
theorem dX6_act_16 : decode cX6_act 16 = .ok (.ifCond .eq 30, 3) := by decide +kernel
theorem dX6_act_19 : decode cX6_act 19 = .ok (.iload_n 2, 1) := by decide +kernel
theorem dX6_act_20 : decode cX6_act 20 = .ok (.i2l, 1) := by decide +kernel
theorem dX6_act_21 : decode cX6_act 21 = .ok (.lconst 0, 1) := by decide +kernel
theorem dX6_act_22 : decode cX6_act 22 = .ok (.lconst 1, 1) := by decide +kernel
theorem dX6_act_23 : decode cX6_act 23 = .ok (.invokestatic 49, 3) := by decide +kernel
theorem dX6_act_26 : decode cX6_act 26 = .ok (.ifCond .eq 20, 3) := by decide +kernel
theorem dX6_act_29 : decode cX6_act 29 = .ok (.aload_n 0, 1) := by decide +kernel
theorem dX6_act_30 : decode cX6_act 30 = .ok (.getfield 7, 3) := by decide +kernel
theorem dX6_act_33 : decode cX6_act 33 = .ok (.bipush 53, 2) := by decide +kernel
theorem dX6_act_35 : decode cX6_act 35 = .ok (.bipush 6, 2) := by decide +kernel
theorem dX6_act_37 : decode cX6_act 37 = .ok (.iload_n 2, 1) := by decide +kernel
theorem dX6_act_38 : decode cX6_act 38 = .ok (.imul, 1) := by decide +kernel
theorem dX6_act_39 : decode cX6_act 39 = .ok (.iadd, 1) := by decide +kernel
theorem dX6_act_40 : decode cX6_act 40 = .ok (.iload_n 1, 1) := by decide +kernel
theorem dX6_act_41 : decode cX6_act 41 = .ok (.iadd, 1) := by decide +kernel
theorem dX6_act_42 : decode cX6_act 42 = .ok (.iaload, 1) := by decide +kernel
theorem dX6_act_43 : decode cX6_act 43 = .ok (.goto 4, 3) := by decide +kernel
theorem dX6_act_46 : decode cX6_act 46 = .ok (.iconst (-1), 1) := by decide +kernel
theorem dX6_act_47 : decode cX6_act 47 = .ok (.ireturn, 1) := by decide +kernel
theorem dX6_puts_0 : decode cX6_puts 0 = .ok (.iload_n 1, 1) := by decide +kernel
theorem dX6_puts_1 : decode cX6_puts 1 = .ok (.ifCond .ne 5, 3) := by decide +kernel
theorem dX6_puts_4 : decode cX6_puts 4 = .ok (.iconst (-1), 1) := by decide +kernel
theorem dX6_puts_5 : decode cX6_puts 5 = .ok (.ireturn, 1) := by decide +kernel
theorem dX6_puts_6 : decode cX6_puts 6 = .ok (.aload_n 0, 1) := by decide +kernel
theorem dX6_puts_7 : decode cX6_puts 7 = .ok (.getfield 7, 3) := by decide +kernel
theorem dX6_puts_10 : decode cX6_puts 10 = .ok (.iload_n 2, 1) := by decide +kernel
theorem dX6_puts_11 : decode cX6_puts 11 = .ok (.iaload, 1) := by decide +kernel
theorem dX6_puts_12 : decode cX6_puts 12 = .ok (.istore 4, 2) := by decide +kernel
theorem dX6_puts_14 : decode cX6_puts 14 = .ok (.aload_n 0, 1) := by decide +kernel
theorem dX6_puts_15 : decode cX6_puts 15 = .ok (.getfield 7, 3) := by decide +kernel
theorem dX6_puts_18 : decode cX6_puts 18 = .ok (.iload_n 2, 1) := by decide +kernel
theorem dX6_puts_19 : decode cX6_puts 19 = .ok (.iload_n 3, 1) := by decide +kernel
theorem dX6_puts_20 : decode cX6_puts 20 = .ok (.iastore, 1) := by decide +kernel
theorem dX6_puts_21 : decode cX6_puts 21 = .ok (.iload 4, 2) := by decide +kernel
theorem dX6_puts_23 : decode cX6_puts 23 = .ok (.ireturn, 1) := by decide +kernel
theorem dX6_alter_0 : decode cX6_alter 0 = .ok (.aload_n 0, 1) := by decide +kernel
theorem dX6_alter_1 : decode cX6_alter 1 = .ok (.aload_n 0, 1) := by decide +kernel
theorem dX6_alter_2 : decode cX6_alter 2 = .ok (.iload_n 1, 1) := by decide +kernel
theorem dX6_alter_3 : decode cX6_alter 3 = .ok (.invokevirtual 185, 3) := by decide +kernel
theorem dX6_alter_6 : decode cX6_alter 6 = .ok (.ifCond .eq 52, 3) := by decide +kernel
theorem dX6_alter_9 : decode cX6_alter 9 = .ok (.iload_n 2, 1) := by decide +kernel
theorem dX6_alter_10 : decode cX6_alter 10 = .ok (.i2l, 1) := by decide +kernel
theorem dX6_alter_11 : decode cX6_alter 11 = .ok (.lconst 0, 1) := by decide +kernel
theorem dX6_alter_12 : decode cX6_alter 12 = .ok (.ldc2_w 200, 3) := by decide +kernel
theorem dX6_alter_15 : decode cX6_alter 15 = .ok (.invokestatic 49, 3) := by decide +kernel
theorem dX6_alter_18 : decode cX6_alter 18 = .ok (.ifCond .eq 40, 3) := by decide +kernel
theorem dX6_alter_21 : decode cX6_alter 21 = .ok (.iload_n 3, 1) := by decide +kernel
theorem dX6_alter_22 : decode cX6_alter 22 = .ok (.i2l, 1) := by decide +kernel
theorem dX6_alter_23 : decode cX6_alter 23 = .ok (.lconst 0, 1) := by decide +kernel
theorem dX6_alter_24 : decode cX6_alter 24 = .ok (.iload_n 2, 1) := by decide +kernel
theorem dX6_alter_25 : decode cX6_alter 25 = .ok (.ifCond .ne 9, 3) := by decide +kernel
theorem dX6_alter_28 : decode cX6_alter 28 = .ok (.ldc2_w 195, 3) := by decide +kernel
theorem dX6_alter_31 : decode cX6_alter 31 = .ok (.goto 17, 3) := by decide +kernel
theorem dX6_alter_34 : decode cX6_alter 34 = .ok (.iload_n 2, 1) := by decide +kernel
theorem dX6_alter_35 : decode cX6_alter 35 = .ok (.iconst 1, 1) := by decide +kernel
theorem dX6_alter_36 : decode cX6_alter 36 = .ok (.if_icmp .ne 9, 3) := by decide +kernel
theorem dX6_alter_39 : decode cX6_alter 39 = .ok (.ldc2_w 195, 3) := by decide +kernel
theorem dX6_alter_42 : decode cX6_alter 42 = .ok (.goto 6, 3) := by decide +kernel
theorem dX6_alter_45 : decode cX6_alter 45 = .ok (.ldc2_w 150, 3) := by decide +kernel
theorem dX6_alter_48 : decode cX6_alter 48 = .ok (.invokestatic 49, 3) := by decide +kernel
theorem dX6_alter_51 : decode cX6_alter 51 = .ok (.ifCond .eq 7, 3) := by decide +kernel
theorem dX6_alter_54 : decode cX6_alter 54 = .ok (.iconst 1, 1) := by decide +kernel
theorem dX6_alter_55 : decode cX6_alter 55 = .ok (.goto 4, 3) := by decide +kernel
theorem dX6_alter_58 : decode cX6_alter 58 = .ok (.iconst 0, 1) := by decide +kernel
theorem dX6_alter_59 : decode cX6_alter 59 = .ok (.iconst 5, 1) := by decide +kernel
theorem dX6_alter_60 : decode cX6_alter 60 = .ok (.iload_n 2, 1) := by decide +kernel
theorem dX6_alter_61 : decode cX6_alter 61 = .ok (.imul, 1) := by decide +kernel
theorem dX6_alter_62 : decode cX6_alter 62 = .ok (.iload_n 1, 1) := by decide +kernel
theorem dX6_alter_63 : decode cX6_alter 63 = .ok (.iadd, 1) := by decide +kernel
theorem dX6_alter_64 : decode cX6_alter 64 = .ok (.iload_n 3, 1) := by decide +kernel
theorem dX6_alter_65 : decode cX6_alter 65 = .ok (.invokevirtual 202, 3) := by decide +kernel
theorem dX6_alter_68 : decode cX6_alter 68 = .ok (.ireturn, 1) := by decide +kernel
theorem dX6_price_0 : decode cX6_price 0 = .ok (.aload_n 0, 1) := by decide +kernel
theorem dX6_price_1 : decode cX6_price 1 = .ok (.iload_n 1, 1) := by decide +kernel
theorem dX6_price_2 : decode cX6_price 2 = .ok (.invokestatic 197, 3) := by decide +kernel
theorem dX6_price_5 : decode cX6_price 5 = .ok (.ifCond .eq 19, 3) := by decide +kernel
theorem dX6_price_8 : decode cX6_price 8 = .ok (.iload_n 2, 1) := by decide +kernel
theorem dX6_price_9 : decode cX6_price 9 = .ok (.i2l, 1) := by decide +kernel
theorem dX6_price_10 : decode cX6_price 10 = .ok (.lconst 0, 1) := by decide +kernel
theorem dX6_price_11 : decode cX6_price 11 = .ok (.ldc2_w 206, 3) := by decide +kernel
theorem dX6_price_14 : decode cX6_price 14 = .ok (.invokestatic 49, 3) := by decide +kernel
theorem dX6_price_17 : decode cX6_price 17 = .ok (.ifCond .eq 7, 3) := by decide +kernel
theorem dX6_price_20 : decode cX6_price 20 = .ok (.iconst 1, 1) := by decide +kernel
theorem dX6_price_21 : decode cX6_price 21 = .ok (.goto 4, 3) := by decide +kernel
theorem dX6_price_24 : decode cX6_price 24 = .ok (.iconst 0, 1) := by decide +kernel
theorem dX6_price_25 : decode cX6_price 25 = .ok (.bipush 44, 2) := by decide +kernel
theorem dX6_price_27 : decode cX6_price 27 = .ok (.iload_n 1, 1) := by decide +kernel
theorem dX6_price_28 : decode cX6_price 28 = .ok (.iadd, 1) := by decide +kernel
theorem dX6_price_29 : decode cX6_price 29 = .ok (.iload_n 2, 1) := by decide +kernel
theorem dX6_price_30 : decode cX6_price 30 = .ok (.invokevirtual 202, 3) := by decide +kernel
theorem dX6_price_33 : decode cX6_price 33 = .ok (.ireturn, 1) := by decide +kernel
theorem dX6_build_0 : decode cX6_build 0 = .ok (.iload_n 1, 1) := by decide +kernel
theorem dX6_build_1 : decode cX6_build 1 = .ok (.invokestatic 197, 3) := by decide +kernel
theorem dX6_build_4 : decode cX6_build 4 = .ok (.ifCond .eq 15, 3) := by decide +kernel
theorem dX6_build_7 : decode cX6_build 7 = .ok (.iload_n 2, 1) := by decide +kernel
theorem dX6_build_8 : decode cX6_build 8 = .ok (.invokestatic 197, 3) := by decide +kernel
theorem dX6_build_11 : decode cX6_build 11 = .ok (.ifCond .eq 8, 3) := by decide +kernel
theorem dX6_build_14 : decode cX6_build 14 = .ok (.iload_n 1, 1) := by decide +kernel
theorem dX6_build_15 : decode cX6_build 15 = .ok (.iload_n 2, 1) := by decide +kernel
theorem dX6_build_16 : decode cX6_build 16 = .ok (.if_icmp .ne 5, 3) := by decide +kernel
theorem dX6_build_19 : decode cX6_build 19 = .ok (.iconst (-1), 1) := by decide +kernel
theorem dX6_build_20 : decode cX6_build 20 = .ok (.ireturn, 1) := by decide +kernel
theorem dX6_build_21 : decode cX6_build 21 = .ok (.aload_n 0, 1) := by decide +kernel
theorem dX6_build_22 : decode cX6_build 22 = .ok (.getfield 7, 3) := by decide +kernel
theorem dX6_build_25 : decode cX6_build 25 = .ok (.bipush 25, 2) := by decide +kernel
theorem dX6_build_27 : decode cX6_build 27 = .ok (.iaload, 1) := by decide +kernel
theorem dX6_build_28 : decode cX6_build 28 = .ok (.istore_n 3, 1) := by decide +kernel
theorem dX6_build_29 : decode cX6_build 29 = .ok (.iload_n 3, 1) := by decide +kernel
theorem dX6_build_30 : decode cX6_build 30 = .ok (.bipush 9, 2) := by decide +kernel
theorem dX6_build_32 : decode cX6_build 32 = .ok (.if_icmp .ne 6, 3) := by decide +kernel
theorem dX6_build_35 : decode cX6_build 35 = .ok (.bipush (-3), 2) := by decide +kernel
theorem dX6_build_37 : decode cX6_build 37 = .ok (.ireturn, 1) := by decide +kernel
theorem dX6_build_38 : decode cX6_build 38 = .ok (.aload_n 0, 1) := by decide +kernel
theorem dX6_build_39 : decode cX6_build 39 = .ok (.getfield 7, 3) := by decide +kernel
theorem dX6_build_42 : decode cX6_build 42 = .ok (.bipush 26, 2) := by decide +kernel
theorem dX6_build_44 : decode cX6_build 44 = .ok (.iload_n 3, 1) := by decide +kernel
theorem dX6_build_45 : decode cX6_build 45 = .ok (.iadd, 1) := by decide +kernel
theorem dX6_build_46 : decode cX6_build 46 = .ok (.iload_n 1, 1) := by decide +kernel
theorem dX6_build_47 : decode cX6_build 47 = .ok (.iastore, 1) := by decide +kernel
theorem dX6_build_48 : decode cX6_build 48 = .ok (.aload_n 0, 1) := by decide +kernel
theorem dX6_build_49 : decode cX6_build 49 = .ok (.getfield 7, 3) := by decide +kernel
theorem dX6_build_52 : decode cX6_build 52 = .ok (.bipush 35, 2) := by decide +kernel
theorem dX6_build_54 : decode cX6_build 54 = .ok (.iload_n 3, 1) := by decide +kernel
theorem dX6_build_55 : decode cX6_build 55 = .ok (.iadd, 1) := by decide +kernel
theorem dX6_build_56 : decode cX6_build 56 = .ok (.iload_n 2, 1) := by decide +kernel
theorem dX6_build_57 : decode cX6_build 57 = .ok (.iastore, 1) := by decide +kernel
theorem dX6_build_58 : decode cX6_build 58 = .ok (.aload_n 0, 1) := by decide +kernel
theorem dX6_build_59 : decode cX6_build 59 = .ok (.getfield 7, 3) := by decide +kernel
theorem dX6_build_62 : decode cX6_build 62 = .ok (.bipush 25, 2) := by decide +kernel
theorem dX6_build_64 : decode cX6_build 64 = .ok (.dup2, 1) := by decide +kernel
theorem dX6_build_65 : decode cX6_build 65 = .ok (.iaload, 1) := by decide +kernel
theorem dX6_build_66 : decode cX6_build 66 = .ok (.iconst 1, 1) := by decide +kernel
theorem dX6_build_67 : decode cX6_build 67 = .ok (.iadd, 1) := by decide +kernel
theorem dX6_build_68 : decode cX6_build 68 = .ok (.iastore, 1) := by decide +kernel
theorem dX6_build_69 : decode cX6_build 69 = .ok (.aload_n 0, 1) := by decide +kernel
theorem dX6_build_70 : decode cX6_build 70 = .ok (.getfield 7, 3) := by decide +kernel
theorem dX6_build_73 : decode cX6_build 73 = .ok (.bipush 25, 2) := by decide +kernel
theorem dX6_build_75 : decode cX6_build 75 = .ok (.iaload, 1) := by decide +kernel
theorem dX6_build_76 : decode cX6_build 76 = .ok (.ireturn, 1) := by decide +kernel
theorem dX6_plan_0 : decode cX6_plan 0 = .ok (.aload_n 0, 1) := by decide +kernel
theorem dX6_plan_1 : decode cX6_plan 1 = .ok (.iload_n 1, 1) := by decide +kernel
theorem dX6_plan_2 : decode cX6_plan 2 = .ok (.invokevirtual 185, 3) := by decide +kernel
theorem dX6_plan_5 : decode cX6_plan 5 = .ok (.ifCond .eq 11, 3) := by decide +kernel
theorem dX6_plan_8 : decode cX6_plan 8 = .ok (.aload_n 0, 1) := by decide +kernel
theorem dX6_plan_9 : decode cX6_plan 9 = .ok (.iload_n 2, 1) := by decide +kernel
theorem dX6_plan_10 : decode cX6_plan 10 = .ok (.invokevirtual 192, 3) := by decide +kernel
theorem dX6_plan_13 : decode cX6_plan 13 = .ok (.ifCond .ne 5, 3) := by decide +kernel
theorem dX6_plan_16 : decode cX6_plan 16 = .ok (.iconst (-1), 1) := by decide +kernel
theorem dX6_plan_17 : decode cX6_plan 17 = .ok (.ireturn, 1) := by decide +kernel
theorem dX6_plan_18 : decode cX6_plan 18 = .ok (.aload_n 0, 1) := by decide +kernel
theorem dX6_plan_19 : decode cX6_plan 19 = .ok (.getfield 7, 3) := by decide +kernel
theorem dX6_plan_22 : decode cX6_plan 22 = .ok (.bipush 52, 2) := by decide +kernel
theorem dX6_plan_24 : decode cX6_plan 24 = .ok (.iaload, 1) := by decide +kernel
theorem dX6_plan_25 : decode cX6_plan 25 = .ok (.bipush 6, 2) := by decide +kernel
theorem dX6_plan_27 : decode cX6_plan 27 = .ok (.if_icmp .ne 6, 3) := by decide +kernel
theorem dX6_plan_30 : decode cX6_plan 30 = .ok (.bipush (-3), 2) := by decide +kernel
theorem dX6_plan_32 : decode cX6_plan 32 = .ok (.ireturn, 1) := by decide +kernel
theorem dX6_plan_33 : decode cX6_plan 33 = .ok (.aload_n 0, 1) := by decide +kernel
theorem dX6_plan_34 : decode cX6_plan 34 = .ok (.getfield 7, 3) := by decide +kernel
theorem dX6_plan_37 : decode cX6_plan 37 = .ok (.bipush 53, 2) := by decide +kernel
theorem dX6_plan_39 : decode cX6_plan 39 = .ok (.aload_n 0, 1) := by decide +kernel
theorem dX6_plan_40 : decode cX6_plan 40 = .ok (.getfield 7, 3) := by decide +kernel
theorem dX6_plan_43 : decode cX6_plan 43 = .ok (.bipush 52, 2) := by decide +kernel
theorem dX6_plan_45 : decode cX6_plan 45 = .ok (.iaload, 1) := by decide +kernel
theorem dX6_plan_46 : decode cX6_plan 46 = .ok (.iadd, 1) := by decide +kernel
theorem dX6_plan_47 : decode cX6_plan 47 = .ok (.iload_n 1, 1) := by decide +kernel
theorem dX6_plan_48 : decode cX6_plan 48 = .ok (.iastore, 1) := by decide +kernel
theorem dX6_plan_49 : decode cX6_plan 49 = .ok (.aload_n 0, 1) := by decide +kernel
theorem dX6_plan_50 : decode cX6_plan 50 = .ok (.getfield 7, 3) := by decide +kernel
theorem dX6_plan_53 : decode cX6_plan 53 = .ok (.bipush 59, 2) := by decide +kernel
theorem dX6_plan_55 : decode cX6_plan 55 = .ok (.aload_n 0, 1) := by decide +kernel
theorem dX6_plan_56 : decode cX6_plan 56 = .ok (.getfield 7, 3) := by decide +kernel
theorem dX6_plan_59 : decode cX6_plan 59 = .ok (.bipush 52, 2) := by decide +kernel
theorem dX6_plan_61 : decode cX6_plan 61 = .ok (.iaload, 1) := by decide +kernel
theorem dX6_plan_62 : decode cX6_plan 62 = .ok (.iadd, 1) := by decide +kernel
theorem dX6_plan_63 : decode cX6_plan 63 = .ok (.iload_n 2, 1) := by decide +kernel
theorem dX6_plan_64 : decode cX6_plan 64 = .ok (.iastore, 1) := by decide +kernel
theorem dX6_plan_65 : decode cX6_plan 65 = .ok (.aload_n 0, 1) := by decide +kernel
theorem dX6_plan_66 : decode cX6_plan 66 = .ok (.getfield 7, 3) := by decide +kernel
theorem dX6_plan_69 : decode cX6_plan 69 = .ok (.bipush 52, 2) := by decide +kernel
theorem dX6_plan_71 : decode cX6_plan 71 = .ok (.dup2, 1) := by decide +kernel
theorem dX6_plan_72 : decode cX6_plan 72 = .ok (.iaload, 1) := by decide +kernel
theorem dX6_plan_73 : decode cX6_plan 73 = .ok (.iconst 1, 1) := by decide +kernel
theorem dX6_plan_74 : decode cX6_plan 74 = .ok (.iadd, 1) := by decide +kernel
theorem dX6_plan_75 : decode cX6_plan 75 = .ok (.iastore, 1) := by decide +kernel
theorem dX6_plan_76 : decode cX6_plan 76 = .ok (.aload_n 0, 1) := by decide +kernel
theorem dX6_plan_77 : decode cX6_plan 77 = .ok (.getfield 7, 3) := by decide +kernel
theorem dX6_plan_80 : decode cX6_plan 80 = .ok (.bipush 52, 2) := by decide +kernel
theorem dX6_plan_82 : decode cX6_plan 82 = .ok (.iaload, 1) := by decide +kernel
theorem dX6_plan_83 : decode cX6_plan 83 = .ok (.ireturn, 1) := by decide +kernel
theorem dX6_cut_0 : decode cX6_cut 0 = .ok (.aload_n 0, 1) := by decide +kernel
theorem dX6_cut_1 : decode cX6_cut 1 = .ok (.iload_n 1, 1) := by decide +kernel
theorem dX6_cut_2 : decode cX6_cut 2 = .ok (.i2l, 1) := by decide +kernel
theorem dX6_cut_3 : decode cX6_cut 3 = .ok (.lconst 0, 1) := by decide +kernel
theorem dX6_cut_4 : decode cX6_cut 4 = .ok (.aload_n 0, 1) := by decide +kernel
theorem dX6_cut_5 : decode cX6_cut 5 = .ok (.getfield 7, 3) := by decide +kernel
theorem dX6_cut_8 : decode cX6_cut 8 = .ok (.bipush 52, 2) := by decide +kernel
theorem dX6_cut_10 : decode cX6_cut 10 = .ok (.iaload, 1) := by decide +kernel
theorem dX6_cut_11 : decode cX6_cut 11 = .ok (.i2l, 1) := by decide +kernel
theorem dX6_cut_12 : decode cX6_cut 12 = .ok (.invokestatic 49, 3) := by decide +kernel
theorem dX6_cut_15 : decode cX6_cut 15 = .ok (.bipush 52, 2) := by decide +kernel
theorem dX6_cut_17 : decode cX6_cut 17 = .ok (.iload_n 1, 1) := by decide +kernel
theorem dX6_cut_18 : decode cX6_cut 18 = .ok (.invokevirtual 202, 3) := by decide +kernel
theorem dX6_cut_21 : decode cX6_cut 21 = .ok (.ireturn, 1) := by decide +kernel
theorem dX6_hangsOn_0 : decode cX6_hangsOn 0 = .ok (.aload_n 0, 1) := by decide +kernel
theorem dX6_hangsOn_1 : decode cX6_hangsOn 1 = .ok (.iload_n 1, 1) := by decide +kernel
theorem dX6_hangsOn_2 : decode cX6_hangsOn 2 = .ok (.iload_n 2, 1) := by decide +kernel
theorem dX6_hangsOn_3 : decode cX6_hangsOn 3 = .ok (.invokevirtual 175, 3) := by decide +kernel
theorem dX6_hangsOn_6 : decode cX6_hangsOn 6 = .ok (.ifCond .eq 18, 3) := by decide +kernel
theorem dX6_hangsOn_9 : decode cX6_hangsOn 9 = .ok (.aload_n 0, 1) := by decide +kernel
theorem dX6_hangsOn_10 : decode cX6_hangsOn 10 = .ok (.iload_n 1, 1) := by decide +kernel
theorem dX6_hangsOn_11 : decode cX6_hangsOn 11 = .ok (.iload_n 3, 1) := by decide +kernel
theorem dX6_hangsOn_12 : decode cX6_hangsOn 12 = .ok (.invokevirtual 152, 3) := by decide +kernel
theorem dX6_hangsOn_15 : decode cX6_hangsOn 15 = .ok (.bipush (-4), 2) := by decide +kernel
theorem dX6_hangsOn_17 : decode cX6_hangsOn 17 = .ok (.if_icmp .ne 7, 3) := by decide +kernel
theorem dX6_hangsOn_20 : decode cX6_hangsOn 20 = .ok (.iconst 1, 1) := by decide +kernel
theorem dX6_hangsOn_21 : decode cX6_hangsOn 21 = .ok (.goto 4, 3) := by decide +kernel
theorem dX6_hangsOn_24 : decode cX6_hangsOn 24 = .ok (.iconst 0, 1) := by decide +kernel
theorem dX6_hangsOn_25 : decode cX6_hangsOn 25 = .ok (.istore 4, 2) := by decide +kernel
theorem dX6_hangsOn_27 : decode cX6_hangsOn 27 = .ok (.iload 4, 2) := by decide +kernel
theorem dX6_hangsOn_29 : decode cX6_hangsOn 29 = .ok (.ifCond .eq 17, 3) := by decide +kernel
theorem dX6_hangsOn_32 : decode cX6_hangsOn 32 = .ok (.aload_n 0, 1) := by decide +kernel
theorem dX6_hangsOn_33 : decode cX6_hangsOn 33 = .ok (.getfield 7, 3) := by decide +kernel
theorem dX6_hangsOn_36 : decode cX6_hangsOn 36 = .ok (.iload_n 1, 1) := by decide +kernel
theorem dX6_hangsOn_37 : decode cX6_hangsOn 37 = .ok (.bipush 15, 2) := by decide +kernel
theorem dX6_hangsOn_39 : decode cX6_hangsOn 39 = .ok (.iadd, 1) := by decide +kernel
theorem dX6_hangsOn_40 : decode cX6_hangsOn 40 = .ok (.iload_n 2, 1) := by decide +kernel
theorem dX6_hangsOn_41 : decode cX6_hangsOn 41 = .ok (.iadd, 1) := by decide +kernel
theorem dX6_hangsOn_42 : decode cX6_hangsOn 42 = .ok (.iload_n 3, 1) := by decide +kernel
theorem dX6_hangsOn_43 : decode cX6_hangsOn 43 = .ok (.iconst 1, 1) := by decide +kernel
theorem dX6_hangsOn_44 : decode cX6_hangsOn 44 = .ok (.iadd, 1) := by decide +kernel
theorem dX6_hangsOn_45 : decode cX6_hangsOn 45 = .ok (.iastore, 1) := by decide +kernel
theorem dX6_hangsOn_46 : decode cX6_hangsOn 46 = .ok (.iload 4, 2) := by decide +kernel
theorem dX6_hangsOn_48 : decode cX6_hangsOn 48 = .ok (.ireturn, 1) := by decide +kernel
theorem dX6_hangs_0 : decode cX6_hangs 0 = .ok (.aload_n 0, 1) := by decide +kernel
theorem dX6_hangs_1 : decode cX6_hangs 1 = .ok (.iload_n 1, 1) := by decide +kernel
theorem dX6_hangs_2 : decode cX6_hangs 2 = .ok (.invokevirtual 185, 3) := by decide +kernel
theorem dX6_hangs_5 : decode cX6_hangs 5 = .ok (.ifCond .eq 11, 3) := by decide +kernel
theorem dX6_hangs_8 : decode cX6_hangs 8 = .ok (.aload_n 0, 1) := by decide +kernel
theorem dX6_hangs_9 : decode cX6_hangs 9 = .ok (.iload_n 2, 1) := by decide +kernel
theorem dX6_hangs_10 : decode cX6_hangs 10 = .ok (.invokevirtual 192, 3) := by decide +kernel
theorem dX6_hangs_13 : decode cX6_hangs 13 = .ok (.ifCond .ne 5, 3) := by decide +kernel
theorem dX6_hangs_16 : decode cX6_hangs 16 = .ok (.iconst (-1), 1) := by decide +kernel
theorem dX6_hangs_17 : decode cX6_hangs 17 = .ok (.ireturn, 1) := by decide +kernel
theorem dX6_hangs_18 : decode cX6_hangs 18 = .ok (.aload_n 0, 1) := by decide +kernel
theorem dX6_hangs_19 : decode cX6_hangs 19 = .ok (.iconst 0, 1) := by decide +kernel
theorem dX6_hangs_20 : decode cX6_hangs 20 = .ok (.iload_n 1, 1) := by decide +kernel
theorem dX6_hangs_21 : decode cX6_hangs 21 = .ok (.iload_n 2, 1) := by decide +kernel
theorem dX6_hangs_22 : decode cX6_hangs 22 = .ok (.invokevirtual 208, 3) := by decide +kernel
theorem dX6_hangs_25 : decode cX6_hangs 25 = .ok (.ifCond .eq 12, 3) := by decide +kernel
theorem dX6_hangs_28 : decode cX6_hangs 28 = .ok (.aload_n 0, 1) := by decide +kernel
theorem dX6_hangs_29 : decode cX6_hangs 29 = .ok (.iconst 0, 1) := by decide +kernel
theorem dX6_hangs_30 : decode cX6_hangs 30 = .ok (.iload_n 1, 1) := by decide +kernel
theorem dX6_hangs_31 : decode cX6_hangs 31 = .ok (.invokevirtual 169, 3) := by decide +kernel
theorem dX6_hangs_34 : decode cX6_hangs 34 = .ok (.goto 5, 3) := by decide +kernel
theorem dX6_hangs_37 : decode cX6_hangs 37 = .ok (.bipush (-2), 2) := by decide +kernel
theorem dX6_hangs_39 : decode cX6_hangs 39 = .ok (.ireturn, 1) := by decide +kernel
theorem dX6_hang_0 : decode cX6_hang 0 = .ok (.aload_n 0, 1) := by decide +kernel
theorem dX6_hang_1 : decode cX6_hang 1 = .ok (.iload_n 1, 1) := by decide +kernel
theorem dX6_hang_2 : decode cX6_hang 2 = .ok (.iload_n 2, 1) := by decide +kernel
theorem dX6_hang_3 : decode cX6_hang 3 = .ok (.invokevirtual 211, 3) := by decide +kernel
theorem dX6_hang_6 : decode cX6_hang 6 = .ok (.ireturn, 1) := by decide +kernel
theorem dX6_fillsOn_0 : decode cX6_fillsOn 0 = .ok (.aload_n 0, 1) := by decide +kernel
theorem dX6_fillsOn_1 : decode cX6_fillsOn 1 = .ok (.iload_n 1, 1) := by decide +kernel
theorem dX6_fillsOn_2 : decode cX6_fillsOn 2 = .ok (.iload_n 2, 1) := by decide +kernel
theorem dX6_fillsOn_3 : decode cX6_fillsOn 3 = .ok (.invokevirtual 152, 3) := by decide +kernel
theorem dX6_fillsOn_6 : decode cX6_fillsOn 6 = .ok (.istore_n 3, 1) := by decide +kernel
theorem dX6_fillsOn_7 : decode cX6_fillsOn 7 = .ok (.iload_n 3, 1) := by decide +kernel
theorem dX6_fillsOn_8 : decode cX6_fillsOn 8 = .ok (.bipush (-4), 2) := by decide +kernel
theorem dX6_fillsOn_10 : decode cX6_fillsOn 10 = .ok (.if_icmp .eq 27, 3) := by decide +kernel
theorem dX6_fillsOn_13 : decode cX6_fillsOn 13 = .ok (.aload_n 0, 1) := by decide +kernel
theorem dX6_fillsOn_14 : decode cX6_fillsOn 14 = .ok (.getfield 7, 3) := by decide +kernel
theorem dX6_fillsOn_17 : decode cX6_fillsOn 17 = .ok (.iload_n 1, 1) := by decide +kernel
theorem dX6_fillsOn_18 : decode cX6_fillsOn 18 = .ok (.bipush 15, 2) := by decide +kernel
theorem dX6_fillsOn_20 : decode cX6_fillsOn 20 = .ok (.iadd, 1) := by decide +kernel
theorem dX6_fillsOn_21 : decode cX6_fillsOn 21 = .ok (.iload_n 3, 1) := by decide +kernel
theorem dX6_fillsOn_22 : decode cX6_fillsOn 22 = .ok (.iadd, 1) := by decide +kernel
theorem dX6_fillsOn_23 : decode cX6_fillsOn 23 = .ok (.iconst 0, 1) := by decide +kernel
theorem dX6_fillsOn_24 : decode cX6_fillsOn 24 = .ok (.iastore, 1) := by decide +kernel
theorem dX6_fillsOn_25 : decode cX6_fillsOn 25 = .ok (.aload_n 0, 1) := by decide +kernel
theorem dX6_fillsOn_26 : decode cX6_fillsOn 26 = .ok (.getfield 7, 3) := by decide +kernel
theorem dX6_fillsOn_29 : decode cX6_fillsOn 29 = .ok (.iload_n 1, 1) := by decide +kernel
theorem dX6_fillsOn_30 : decode cX6_fillsOn 30 = .ok (.bipush 20, 2) := by decide +kernel
theorem dX6_fillsOn_32 : decode cX6_fillsOn 32 = .ok (.iadd, 1) := by decide +kernel
theorem dX6_fillsOn_33 : decode cX6_fillsOn 33 = .ok (.iload_n 3, 1) := by decide +kernel
theorem dX6_fillsOn_34 : decode cX6_fillsOn 34 = .ok (.iadd, 1) := by decide +kernel
theorem dX6_fillsOn_35 : decode cX6_fillsOn 35 = .ok (.iconst 1, 1) := by decide +kernel
theorem dX6_fillsOn_36 : decode cX6_fillsOn 36 = .ok (.iastore, 1) := by decide +kernel
theorem dX6_fillsOn_37 : decode cX6_fillsOn 37 = .ok (.iload_n 3, 1) := by decide +kernel
theorem dX6_fillsOn_38 : decode cX6_fillsOn 38 = .ok (.ireturn, 1) := by decide +kernel
theorem dX6_fill_0 : decode cX6_fill 0 = .ok (.aload_n 0, 1) := by decide +kernel
theorem dX6_fill_1 : decode cX6_fill 1 = .ok (.iload_n 1, 1) := by decide +kernel
theorem dX6_fill_2 : decode cX6_fill 2 = .ok (.invokevirtual 192, 3) := by decide +kernel
theorem dX6_fill_5 : decode cX6_fill 5 = .ok (.ifCond .ne 5, 3) := by decide +kernel
theorem dX6_fill_8 : decode cX6_fill 8 = .ok (.iconst (-1), 1) := by decide +kernel
theorem dX6_fill_9 : decode cX6_fill 9 = .ok (.ireturn, 1) := by decide +kernel
theorem dX6_fill_10 : decode cX6_fill 10 = .ok (.aload_n 0, 1) := by decide +kernel
theorem dX6_fill_11 : decode cX6_fill 11 = .ok (.iconst 0, 1) := by decide +kernel
theorem dX6_fill_12 : decode cX6_fill 12 = .ok (.iload_n 1, 1) := by decide +kernel
theorem dX6_fill_13 : decode cX6_fill 13 = .ok (.invokevirtual 214, 3) := by decide +kernel
theorem dX6_fill_16 : decode cX6_fill 16 = .ok (.istore_n 2, 1) := by decide +kernel
theorem dX6_fill_17 : decode cX6_fill 17 = .ok (.iload_n 2, 1) := by decide +kernel
theorem dX6_fill_18 : decode cX6_fill 18 = .ok (.bipush (-4), 2) := by decide +kernel
theorem dX6_fill_20 : decode cX6_fill 20 = .ok (.if_icmp .ne 8, 3) := by decide +kernel
theorem dX6_fill_23 : decode cX6_fill 23 = .ok (.bipush (-2), 2) := by decide +kernel
theorem dX6_fill_25 : decode cX6_fill 25 = .ok (.goto 4, 3) := by decide +kernel
theorem dX6_fill_28 : decode cX6_fill 28 = .ok (.iload_n 2, 1) := by decide +kernel
theorem dX6_fill_29 : decode cX6_fill 29 = .ok (.ireturn, 1) := by decide +kernel
theorem dX6_stepsOn_0 : decode cX6_stepsOn 0 = .ok (.aload_n 0, 1) := by decide +kernel
theorem dX6_stepsOn_1 : decode cX6_stepsOn 1 = .ok (.iload_n 1, 1) := by decide +kernel
theorem dX6_stepsOn_2 : decode cX6_stepsOn 2 = .ok (.iload_n 2, 1) := by decide +kernel
theorem dX6_stepsOn_3 : decode cX6_stepsOn 3 = .ok (.invokevirtual 169, 3) := by decide +kernel
theorem dX6_stepsOn_6 : decode cX6_stepsOn 6 = .ok (.pop, 1) := by decide +kernel
theorem dX6_stepsOn_7 : decode cX6_stepsOn 7 = .ok (.aload_n 0, 1) := by decide +kernel
theorem dX6_stepsOn_8 : decode cX6_stepsOn 8 = .ok (.getfield 25, 3) := by decide +kernel
theorem dX6_stepsOn_11 : decode cX6_stepsOn 11 = .ok (.iload_n 3, 1) := by decide +kernel
theorem dX6_stepsOn_12 : decode cX6_stepsOn 12 = .ok (.iaload, 1) := by decide +kernel
theorem dX6_stepsOn_13 : decode cX6_stepsOn 13 = .ok (.ireturn, 1) := by decide +kernel
theorem dX6_steps_0 : decode cX6_steps 0 = .ok (.aload_n 0, 1) := by decide +kernel
theorem dX6_steps_1 : decode cX6_steps 1 = .ok (.iload_n 1, 1) := by decide +kernel
theorem dX6_steps_2 : decode cX6_steps 2 = .ok (.invokevirtual 185, 3) := by decide +kernel
theorem dX6_steps_5 : decode cX6_steps 5 = .ok (.ifCond .eq 20, 3) := by decide +kernel
theorem dX6_steps_8 : decode cX6_steps 8 = .ok (.iload_n 2, 1) := by decide +kernel
theorem dX6_steps_9 : decode cX6_steps 9 = .ok (.invokestatic 197, 3) := by decide +kernel
theorem dX6_steps_12 : decode cX6_steps 12 = .ok (.ifCond .eq 13, 3) := by decide +kernel
theorem dX6_steps_15 : decode cX6_steps 15 = .ok (.aload_n 0, 1) := by decide +kernel
theorem dX6_steps_16 : decode cX6_steps 16 = .ok (.iconst 0, 1) := by decide +kernel
theorem dX6_steps_17 : decode cX6_steps 17 = .ok (.iload_n 1, 1) := by decide +kernel
theorem dX6_steps_18 : decode cX6_steps 18 = .ok (.iload_n 2, 1) := by decide +kernel
theorem dX6_steps_19 : decode cX6_steps 19 = .ok (.invokevirtual 217, 3) := by decide +kernel
theorem dX6_steps_22 : decode cX6_steps 22 = .ok (.goto 4, 3) := by decide +kernel
theorem dX6_steps_25 : decode cX6_steps 25 = .ok (.iconst (-1), 1) := by decide +kernel
theorem dX6_steps_26 : decode cX6_steps 26 = .ok (.ireturn, 1) := by decide +kernel
theorem dX6_way_0 : decode cX6_way 0 = .ok (.aload_n 0, 1) := by decide +kernel
theorem dX6_way_1 : decode cX6_way 1 = .ok (.iload_n 1, 1) := by decide +kernel
theorem dX6_way_2 : decode cX6_way 2 = .ok (.invokevirtual 185, 3) := by decide +kernel
theorem dX6_way_5 : decode cX6_way 5 = .ok (.ifCond .eq 22, 3) := by decide +kernel
theorem dX6_way_8 : decode cX6_way 8 = .ok (.iload_n 2, 1) := by decide +kernel
theorem dX6_way_9 : decode cX6_way 9 = .ok (.invokestatic 197, 3) := by decide +kernel
theorem dX6_way_12 : decode cX6_way 12 = .ok (.ifCond .eq 15, 3) := by decide +kernel
theorem dX6_way_15 : decode cX6_way 15 = .ok (.iload_n 3, 1) := by decide +kernel
theorem dX6_way_16 : decode cX6_way 16 = .ok (.i2l, 1) := by decide +kernel
theorem dX6_way_17 : decode cX6_way 17 = .ok (.lconst 0, 1) := by decide +kernel
theorem dX6_way_18 : decode cX6_way 18 = .ok (.ldc2_w 129, 3) := by decide +kernel
theorem dX6_way_21 : decode cX6_way 21 = .ok (.invokestatic 49, 3) := by decide +kernel
theorem dX6_way_24 : decode cX6_way 24 = .ok (.ifCond .ne 5, 3) := by decide +kernel
theorem dX6_way_27 : decode cX6_way 27 = .ok (.iconst (-1), 1) := by decide +kernel
theorem dX6_way_28 : decode cX6_way 28 = .ok (.ireturn, 1) := by decide +kernel
theorem dX6_way_29 : decode cX6_way 29 = .ok (.aload_n 0, 1) := by decide +kernel
theorem dX6_way_30 : decode cX6_way 30 = .ok (.iconst 0, 1) := by decide +kernel
theorem dX6_way_31 : decode cX6_way 31 = .ok (.iload_n 1, 1) := by decide +kernel
theorem dX6_way_32 : decode cX6_way 32 = .ok (.iload_n 2, 1) := by decide +kernel
theorem dX6_way_33 : decode cX6_way 33 = .ok (.invokevirtual 166, 3) := by decide +kernel
theorem dX6_way_36 : decode cX6_way 36 = .ok (.pop, 1) := by decide +kernel
theorem dX6_way_37 : decode cX6_way 37 = .ok (.aload_n 0, 1) := by decide +kernel
theorem dX6_way_38 : decode cX6_way 38 = .ok (.getfield 7, 3) := by decide +kernel
theorem dX6_way_41 : decode cX6_way 41 = .ok (.bipush 10, 2) := by decide +kernel
theorem dX6_way_43 : decode cX6_way 43 = .ok (.iload_n 1, 1) := by decide +kernel
theorem dX6_way_44 : decode cX6_way 44 = .ok (.iadd, 1) := by decide +kernel
theorem dX6_way_45 : decode cX6_way 45 = .ok (.iaload, 1) := by decide +kernel
theorem dX6_way_46 : decode cX6_way 46 = .ok (.istore 4, 2) := by decide +kernel
theorem dX6_way_48 : decode cX6_way 48 = .ok (.bipush (-4), 2) := by decide +kernel
theorem dX6_way_50 : decode cX6_way 50 = .ok (.istore 5, 2) := by decide +kernel
theorem dX6_way_52 : decode cX6_way 52 = .ok (.aload_n 0, 1) := by decide +kernel
theorem dX6_way_53 : decode cX6_way 53 = .ok (.getfield 25, 3) := by decide +kernel
theorem dX6_way_56 : decode cX6_way 56 = .ok (.iload 4, 2) := by decide +kernel
theorem dX6_way_58 : decode cX6_way 58 = .ok (.iaload, 1) := by decide +kernel
theorem dX6_way_59 : decode cX6_way 59 = .ok (.bipush (-4), 2) := by decide +kernel
theorem dX6_way_61 : decode cX6_way 61 = .ok (.if_icmp .eq 14, 3) := by decide +kernel
theorem dX6_way_64 : decode cX6_way 64 = .ok (.iload_n 3, 1) := by decide +kernel
theorem dX6_way_65 : decode cX6_way 65 = .ok (.aload_n 0, 1) := by decide +kernel
theorem dX6_way_66 : decode cX6_way 66 = .ok (.getfield 25, 3) := by decide +kernel
theorem dX6_way_69 : decode cX6_way 69 = .ok (.iload 4, 2) := by decide +kernel
theorem dX6_way_71 : decode cX6_way 71 = .ok (.iaload, 1) := by decide +kernel
theorem dX6_way_72 : decode cX6_way 72 = .ok (.if_icmp .lt 6, 3) := by decide +kernel
theorem dX6_way_75 : decode cX6_way 75 = .ok (.bipush (-4), 2) := by decide +kernel
theorem dX6_way_77 : decode cX6_way 77 = .ok (.ireturn, 1) := by decide +kernel
theorem dX6_way_78 : decode cX6_way 78 = .ok (.iconst 0, 1) := by decide +kernel
theorem dX6_way_79 : decode cX6_way 79 = .ok (.istore 6, 2) := by decide +kernel
theorem dX6_way_81 : decode cX6_way 81 = .ok (.iload 6, 2) := by decide +kernel
theorem dX6_way_83 : decode cX6_way 83 = .ok (.iload_n 3, 1) := by decide +kernel
theorem dX6_way_84 : decode cX6_way 84 = .ok (.if_icmp .gt 140, 3) := by decide +kernel
theorem dX6_way_87 : decode cX6_way 87 = .ok (.aload_n 0, 1) := by decide +kernel
theorem dX6_way_88 : decode cX6_way 88 = .ok (.getfield 25, 3) := by decide +kernel
theorem dX6_way_91 : decode cX6_way 91 = .ok (.iload 4, 2) := by decide +kernel
theorem dX6_way_93 : decode cX6_way 93 = .ok (.iaload, 1) := by decide +kernel
theorem dX6_way_94 : decode cX6_way 94 = .ok (.istore 7, 2) := by decide +kernel
theorem dX6_way_96 : decode cX6_way 96 = .ok (.bipush (-4), 2) := by decide +kernel
theorem dX6_way_98 : decode cX6_way 98 = .ok (.istore 8, 2) := by decide +kernel
theorem dX6_way_100 : decode cX6_way 100 = .ok (.aload_n 0, 1) := by decide +kernel
theorem dX6_way_101 : decode cX6_way 101 = .ok (.getfield 7, 3) := by decide +kernel
theorem dX6_way_104 : decode cX6_way 104 = .ok (.bipush 25, 2) := by decide +kernel
theorem dX6_way_106 : decode cX6_way 106 = .ok (.iaload, 1) := by decide +kernel
theorem dX6_way_107 : decode cX6_way 107 = .ok (.iconst 1, 1) := by decide +kernel
theorem dX6_way_108 : decode cX6_way 108 = .ok (.isub, 1) := by decide +kernel
theorem dX6_way_109 : decode cX6_way 109 = .ok (.istore 9, 2) := by decide +kernel
theorem dX6_way_111 : decode cX6_way 111 = .ok (.iload 9, 2) := by decide +kernel
theorem dX6_way_113 : decode cX6_way 113 = .ok (.ifCond .lt 101, 3) := by decide +kernel
theorem dX6_way_116 : decode cX6_way 116 = .ok (.aload_n 0, 1) := by decide +kernel
theorem dX6_way_117 : decode cX6_way 117 = .ok (.getfield 7, 3) := by decide +kernel
theorem dX6_way_120 : decode cX6_way 120 = .ok (.bipush 26, 2) := by decide +kernel
theorem dX6_way_122 : decode cX6_way 122 = .ok (.iload 9, 2) := by decide +kernel
theorem dX6_way_124 : decode cX6_way 124 = .ok (.iadd, 1) := by decide +kernel
theorem dX6_way_125 : decode cX6_way 125 = .ok (.iaload, 1) := by decide +kernel
theorem dX6_way_126 : decode cX6_way 126 = .ok (.istore 10, 2) := by decide +kernel
theorem dX6_way_128 : decode cX6_way 128 = .ok (.aload_n 0, 1) := by decide +kernel
theorem dX6_way_129 : decode cX6_way 129 = .ok (.getfield 7, 3) := by decide +kernel
theorem dX6_way_132 : decode cX6_way 132 = .ok (.bipush 35, 2) := by decide +kernel
theorem dX6_way_134 : decode cX6_way 134 = .ok (.iload 9, 2) := by decide +kernel
theorem dX6_way_136 : decode cX6_way 136 = .ok (.iadd, 1) := by decide +kernel
theorem dX6_way_137 : decode cX6_way 137 = .ok (.iaload, 1) := by decide +kernel
theorem dX6_way_138 : decode cX6_way 138 = .ok (.istore 11, 2) := by decide +kernel
theorem dX6_way_140 : decode cX6_way 140 = .ok (.iload 10, 2) := by decide +kernel
theorem dX6_way_142 : decode cX6_way 142 = .ok (.iload 4, 2) := by decide +kernel
theorem dX6_way_144 : decode cX6_way 144 = .ok (.if_icmp .ne 8, 3) := by decide +kernel
theorem dX6_way_147 : decode cX6_way 147 = .ok (.iload 11, 2) := by decide +kernel
theorem dX6_way_149 : decode cX6_way 149 = .ok (.goto 17, 3) := by decide +kernel
theorem dX6_way_152 : decode cX6_way 152 = .ok (.iload 11, 2) := by decide +kernel
theorem dX6_way_154 : decode cX6_way 154 = .ok (.iload 4, 2) := by decide +kernel
theorem dX6_way_156 : decode cX6_way 156 = .ok (.if_icmp .ne 8, 3) := by decide +kernel
theorem dX6_way_159 : decode cX6_way 159 = .ok (.iload 10, 2) := by decide +kernel
theorem dX6_way_161 : decode cX6_way 161 = .ok (.goto 5, 3) := by decide +kernel
theorem dX6_way_164 : decode cX6_way 164 = .ok (.bipush (-4), 2) := by decide +kernel
theorem dX6_way_166 : decode cX6_way 166 = .ok (.istore 12, 2) := by decide +kernel
theorem dX6_way_168 : decode cX6_way 168 = .ok (.iload 12, 2) := by decide +kernel
theorem dX6_way_170 : decode cX6_way 170 = .ok (.bipush (-4), 2) := by decide +kernel
theorem dX6_way_172 : decode cX6_way 172 = .ok (.if_icmp .eq 36, 3) := by decide +kernel
theorem dX6_way_175 : decode cX6_way 175 = .ok (.aload_n 0, 1) := by decide +kernel
theorem dX6_way_176 : decode cX6_way 176 = .ok (.iconst 0, 1) := by decide +kernel
theorem dX6_way_177 : decode cX6_way 177 = .ok (.iload 9, 2) := by decide +kernel
theorem dX6_way_179 : decode cX6_way 179 = .ok (.iload_n 1, 1) := by decide +kernel
theorem dX6_way_180 : decode cX6_way 180 = .ok (.invokevirtual 163, 3) := by decide +kernel
theorem dX6_way_183 : decode cX6_way 183 = .ok (.ifCond .eq 25, 3) := by decide +kernel
theorem dX6_way_186 : decode cX6_way 186 = .ok (.aload_n 0, 1) := by decide +kernel
theorem dX6_way_187 : decode cX6_way 187 = .ok (.getfield 25, 3) := by decide +kernel
theorem dX6_way_190 : decode cX6_way 190 = .ok (.iload 12, 2) := by decide +kernel
theorem dX6_way_192 : decode cX6_way 192 = .ok (.iaload, 1) := by decide +kernel
theorem dX6_way_193 : decode cX6_way 193 = .ok (.iload 7, 2) := by decide +kernel
theorem dX6_way_195 : decode cX6_way 195 = .ok (.iconst 1, 1) := by decide +kernel
theorem dX6_way_196 : decode cX6_way 196 = .ok (.isub, 1) := by decide +kernel
theorem dX6_way_197 : decode cX6_way 197 = .ok (.if_icmp .ne 11, 3) := by decide +kernel
theorem dX6_way_200 : decode cX6_way 200 = .ok (.iload 9, 2) := by decide +kernel
theorem dX6_way_202 : decode cX6_way 202 = .ok (.istore 5, 2) := by decide +kernel
theorem dX6_way_204 : decode cX6_way 204 = .ok (.iload 12, 2) := by decide +kernel
theorem dX6_way_206 : decode cX6_way 206 = .ok (.istore 8, 2) := by decide +kernel
theorem dX6_way_208 : decode cX6_way 208 = .ok (.iinc 9 (-1), 3) := by decide +kernel
theorem dX6_way_211 : decode cX6_way 211 = .ok (.goto (-100), 3) := by decide +kernel
theorem dX6_way_214 : decode cX6_way 214 = .ok (.iload 8, 2) := by decide +kernel
theorem dX6_way_216 : decode cX6_way 216 = .ok (.istore 4, 2) := by decide +kernel
theorem dX6_way_218 : decode cX6_way 218 = .ok (.iinc 6 1, 3) := by decide +kernel
theorem dX6_way_221 : decode cX6_way 221 = .ok (.goto (-140), 3) := by decide +kernel
theorem dX6_way_224 : decode cX6_way 224 = .ok (.iload 5, 2) := by decide +kernel
theorem dX6_way_226 : decode cX6_way 226 = .ok (.ireturn, 1) := by decide +kernel
theorem dX6_meet_0 : decode cX6_meet 0 = .ok (.aload_n 0, 1) := by decide +kernel
theorem dX6_meet_1 : decode cX6_meet 1 = .ok (.iload_n 1, 1) := by decide +kernel
theorem dX6_meet_2 : decode cX6_meet 2 = .ok (.invokevirtual 185, 3) := by decide +kernel
theorem dX6_meet_5 : decode cX6_meet 5 = .ok (.ifCond .eq 32, 3) := by decide +kernel
theorem dX6_meet_8 : decode cX6_meet 8 = .ok (.aload_n 0, 1) := by decide +kernel
theorem dX6_meet_9 : decode cX6_meet 9 = .ok (.iload_n 2, 1) := by decide +kernel
theorem dX6_meet_10 : decode cX6_meet 10 = .ok (.invokevirtual 185, 3) := by decide +kernel
theorem dX6_meet_13 : decode cX6_meet 13 = .ok (.ifCond .eq 24, 3) := by decide +kernel
theorem dX6_meet_16 : decode cX6_meet 16 = .ok (.iload_n 1, 1) := by decide +kernel
theorem dX6_meet_17 : decode cX6_meet 17 = .ok (.iload_n 2, 1) := by decide +kernel
theorem dX6_meet_18 : decode cX6_meet 18 = .ok (.if_icmp .eq 19, 3) := by decide +kernel
theorem dX6_meet_21 : decode cX6_meet 21 = .ok (.aload_n 0, 1) := by decide +kernel
theorem dX6_meet_22 : decode cX6_meet 22 = .ok (.iconst 0, 1) := by decide +kernel
theorem dX6_meet_23 : decode cX6_meet 23 = .ok (.iload_n 1, 1) := by decide +kernel
theorem dX6_meet_24 : decode cX6_meet 24 = .ok (.invokevirtual 169, 3) := by decide +kernel
theorem dX6_meet_27 : decode cX6_meet 27 = .ok (.aload_n 0, 1) := by decide +kernel
theorem dX6_meet_28 : decode cX6_meet 28 = .ok (.iconst 0, 1) := by decide +kernel
theorem dX6_meet_29 : decode cX6_meet 29 = .ok (.iload_n 2, 1) := by decide +kernel
theorem dX6_meet_30 : decode cX6_meet 30 = .ok (.invokevirtual 169, 3) := by decide +kernel
theorem dX6_meet_33 : decode cX6_meet 33 = .ok (.iand, 1) := by decide +kernel
theorem dX6_meet_34 : decode cX6_meet 34 = .ok (.goto 4, 3) := by decide +kernel
theorem dX6_meet_37 : decode cX6_meet 37 = .ok (.iconst (-1), 1) := by decide +kernel
theorem dX6_meet_38 : decode cX6_meet 38 = .ok (.ireturn, 1) := by decide +kernel
theorem dX6_copies_0 : decode cX6_copies 0 = .ok (.iconst 0, 1) := by decide +kernel
theorem dX6_copies_1 : decode cX6_copies 1 = .ok (.istore_n 3, 1) := by decide +kernel
theorem dX6_copies_2 : decode cX6_copies 2 = .ok (.iload_n 3, 1) := by decide +kernel
theorem dX6_copies_3 : decode cX6_copies 3 = .ok (.bipush 65, 2) := by decide +kernel
theorem dX6_copies_5 : decode cX6_copies 5 = .ok (.if_icmp .ge 25, 3) := by decide +kernel
theorem dX6_copies_8 : decode cX6_copies 8 = .ok (.aload_n 0, 1) := by decide +kernel
theorem dX6_copies_9 : decode cX6_copies 9 = .ok (.getfield 7, 3) := by decide +kernel
theorem dX6_copies_12 : decode cX6_copies 12 = .ok (.iload_n 2, 1) := by decide +kernel
theorem dX6_copies_13 : decode cX6_copies 13 = .ok (.iload_n 3, 1) := by decide +kernel
theorem dX6_copies_14 : decode cX6_copies 14 = .ok (.iadd, 1) := by decide +kernel
theorem dX6_copies_15 : decode cX6_copies 15 = .ok (.aload_n 0, 1) := by decide +kernel
theorem dX6_copies_16 : decode cX6_copies 16 = .ok (.getfield 7, 3) := by decide +kernel
theorem dX6_copies_19 : decode cX6_copies 19 = .ok (.iload_n 1, 1) := by decide +kernel
theorem dX6_copies_20 : decode cX6_copies 20 = .ok (.iload_n 3, 1) := by decide +kernel
theorem dX6_copies_21 : decode cX6_copies 21 = .ok (.iadd, 1) := by decide +kernel
theorem dX6_copies_22 : decode cX6_copies 22 = .ok (.iaload, 1) := by decide +kernel
theorem dX6_copies_23 : decode cX6_copies 23 = .ok (.iastore, 1) := by decide +kernel
theorem dX6_copies_24 : decode cX6_copies 24 = .ok (.iinc 3 1, 3) := by decide +kernel
theorem dX6_copies_27 : decode cX6_copies 27 = .ok (.goto (-25), 3) := by decide +kernel
theorem dX6_copies_30 : decode cX6_copies 30 = .ok (.return_, 1) := by decide +kernel
theorem dX6_planGoes_0 : decode cX6_planGoes 0 = .ok (.aload_n 0, 1) := by decide +kernel
theorem dX6_planGoes_1 : decode cX6_planGoes 1 = .ok (.iconst 0, 1) := by decide +kernel
theorem dX6_planGoes_2 : decode cX6_planGoes 2 = .ok (.sipush 260, 3) := by decide +kernel
theorem dX6_planGoes_5 : decode cX6_planGoes 5 = .ok (.invokevirtual 220, 3) := by decide +kernel
theorem dX6_planGoes_8 : decode cX6_planGoes 8 = .ok (.aload_n 0, 1) := by decide +kernel
theorem dX6_planGoes_9 : decode cX6_planGoes 9 = .ok (.iconst 0, 1) := by decide +kernel
theorem dX6_planGoes_10 : decode cX6_planGoes 10 = .ok (.putfield 224, 3) := by decide +kernel
theorem dX6_planGoes_13 : decode cX6_planGoes 13 = .ok (.aload_n 0, 1) := by decide +kernel
theorem dX6_planGoes_14 : decode cX6_planGoes 14 = .ok (.bipush (-4), 2) := by decide +kernel
theorem dX6_planGoes_16 : decode cX6_planGoes 16 = .ok (.putfield 227, 3) := by decide +kernel
theorem dX6_planGoes_19 : decode cX6_planGoes 19 = .ok (.iconst 0, 1) := by decide +kernel
theorem dX6_planGoes_20 : decode cX6_planGoes 20 = .ok (.istore_n 2, 1) := by decide +kernel
theorem dX6_planGoes_21 : decode cX6_planGoes 21 = .ok (.iload_n 2, 1) := by decide +kernel
theorem dX6_planGoes_22 : decode cX6_planGoes 22 = .ok (.aload_n 0, 1) := by decide +kernel
theorem dX6_planGoes_23 : decode cX6_planGoes 23 = .ok (.getfield 7, 3) := by decide +kernel
theorem dX6_planGoes_26 : decode cX6_planGoes 26 = .ok (.bipush 52, 2) := by decide +kernel
theorem dX6_planGoes_28 : decode cX6_planGoes 28 = .ok (.iaload, 1) := by decide +kernel
theorem dX6_planGoes_29 : decode cX6_planGoes 29 = .ok (.if_icmp .ge 76, 3) := by decide +kernel
theorem dX6_planGoes_32 : decode cX6_planGoes 32 = .ok (.iload_n 2, 1) := by decide +kernel
theorem dX6_planGoes_33 : decode cX6_planGoes 33 = .ok (.iload_n 1, 1) := by decide +kernel
theorem dX6_planGoes_34 : decode cX6_planGoes 34 = .ok (.if_icmp .eq 65, 3) := by decide +kernel
theorem dX6_planGoes_37 : decode cX6_planGoes 37 = .ok (.aload_n 0, 1) := by decide +kernel
theorem dX6_planGoes_38 : decode cX6_planGoes 38 = .ok (.sipush 260, 3) := by decide +kernel
theorem dX6_planGoes_41 : decode cX6_planGoes 41 = .ok (.aload_n 0, 1) := by decide +kernel
theorem dX6_planGoes_42 : decode cX6_planGoes 42 = .ok (.getfield 7, 3) := by decide +kernel
theorem dX6_planGoes_45 : decode cX6_planGoes 45 = .ok (.bipush 53, 2) := by decide +kernel
theorem dX6_planGoes_47 : decode cX6_planGoes 47 = .ok (.iload_n 2, 1) := by decide +kernel
theorem dX6_planGoes_48 : decode cX6_planGoes 48 = .ok (.iadd, 1) := by decide +kernel
theorem dX6_planGoes_49 : decode cX6_planGoes 49 = .ok (.iaload, 1) := by decide +kernel
theorem dX6_planGoes_50 : decode cX6_planGoes 50 = .ok (.aload_n 0, 1) := by decide +kernel
theorem dX6_planGoes_51 : decode cX6_planGoes 51 = .ok (.getfield 7, 3) := by decide +kernel
theorem dX6_planGoes_54 : decode cX6_planGoes 54 = .ok (.bipush 59, 2) := by decide +kernel
theorem dX6_planGoes_56 : decode cX6_planGoes 56 = .ok (.iload_n 2, 1) := by decide +kernel
theorem dX6_planGoes_57 : decode cX6_planGoes 57 = .ok (.iadd, 1) := by decide +kernel
theorem dX6_planGoes_58 : decode cX6_planGoes 58 = .ok (.iaload, 1) := by decide +kernel
theorem dX6_planGoes_59 : decode cX6_planGoes 59 = .ok (.invokevirtual 208, 3) := by decide +kernel
theorem dX6_planGoes_62 : decode cX6_planGoes 62 = .ok (.ifCond .eq 16, 3) := by decide +kernel
theorem dX6_planGoes_65 : decode cX6_planGoes 65 = .ok (.aload_n 0, 1) := by decide +kernel
theorem dX6_planGoes_66 : decode cX6_planGoes 66 = .ok (.dup, 1) := by decide +kernel
theorem dX6_planGoes_67 : decode cX6_planGoes 67 = .ok (.getfield 224, 3) := by decide +kernel
theorem dX6_planGoes_70 : decode cX6_planGoes 70 = .ok (.iconst 1, 1) := by decide +kernel
theorem dX6_planGoes_71 : decode cX6_planGoes 71 = .ok (.iadd, 1) := by decide +kernel
theorem dX6_planGoes_72 : decode cX6_planGoes 72 = .ok (.putfield 224, 3) := by decide +kernel
theorem dX6_planGoes_75 : decode cX6_planGoes 75 = .ok (.goto 24, 3) := by decide +kernel
theorem dX6_planGoes_78 : decode cX6_planGoes 78 = .ok (.aload_n 0, 1) := by decide +kernel
theorem dX6_planGoes_79 : decode cX6_planGoes 79 = .ok (.aload_n 0, 1) := by decide +kernel
theorem dX6_planGoes_80 : decode cX6_planGoes 80 = .ok (.getfield 227, 3) := by decide +kernel
theorem dX6_planGoes_83 : decode cX6_planGoes 83 = .ok (.bipush (-4), 2) := by decide +kernel
theorem dX6_planGoes_85 : decode cX6_planGoes 85 = .ok (.if_icmp .ne 7, 3) := by decide +kernel
theorem dX6_planGoes_88 : decode cX6_planGoes 88 = .ok (.iload_n 2, 1) := by decide +kernel
theorem dX6_planGoes_89 : decode cX6_planGoes 89 = .ok (.goto 7, 3) := by decide +kernel
theorem dX6_planGoes_92 : decode cX6_planGoes 92 = .ok (.aload_n 0, 1) := by decide +kernel
theorem dX6_planGoes_93 : decode cX6_planGoes 93 = .ok (.getfield 227, 3) := by decide +kernel
theorem dX6_planGoes_96 : decode cX6_planGoes 96 = .ok (.putfield 227, 3) := by decide +kernel
theorem dX6_planGoes_99 : decode cX6_planGoes 99 = .ok (.iinc 2 1, 3) := by decide +kernel
theorem dX6_planGoes_102 : decode cX6_planGoes 102 = .ok (.goto (-81), 3) := by decide +kernel
theorem dX6_planGoes_105 : decode cX6_planGoes 105 = .ok (.return_, 1) := by decide +kernel
theorem dX6_runs_0 : decode cX6_runs 0 = .ok (.iload_n 1, 1) := by decide +kernel
theorem dX6_runs_1 : decode cX6_runs 1 = .ok (.i2l, 1) := by decide +kernel
theorem dX6_runs_2 : decode cX6_runs 2 = .ok (.lconst 0, 1) := by decide +kernel
theorem dX6_runs_3 : decode cX6_runs 3 = .ok (.ldc2_w 195, 3) := by decide +kernel
theorem dX6_runs_6 : decode cX6_runs 6 = .ok (.invokestatic 49, 3) := by decide +kernel
theorem dX6_runs_9 : decode cX6_runs 9 = .ok (.ifCond .ne 5, 3) := by decide +kernel
theorem dX6_runs_12 : decode cX6_runs 12 = .ok (.iconst (-1), 1) := by decide +kernel
theorem dX6_runs_13 : decode cX6_runs 13 = .ok (.ireturn, 1) := by decide +kernel
theorem dX6_runs_14 : decode cX6_runs 14 = .ok (.aload_n 0, 1) := by decide +kernel
theorem dX6_runs_15 : decode cX6_runs 15 = .ok (.bipush (-4), 2) := by decide +kernel
theorem dX6_runs_17 : decode cX6_runs 17 = .ok (.invokevirtual 230, 3) := by decide +kernel
theorem dX6_runs_20 : decode cX6_runs 20 = .ok (.iload_n 1, 1) := by decide +kernel
theorem dX6_runs_21 : decode cX6_runs 21 = .ok (.ifCond .ne 10, 3) := by decide +kernel
theorem dX6_runs_24 : decode cX6_runs 24 = .ok (.aload_n 0, 1) := by decide +kernel
theorem dX6_runs_25 : decode cX6_runs 25 = .ok (.getfield 224, 3) := by decide +kernel
theorem dX6_runs_28 : decode cX6_runs 28 = .ok (.goto 37, 3) := by decide +kernel
theorem dX6_runs_31 : decode cX6_runs 31 = .ok (.iload_n 1, 1) := by decide +kernel
theorem dX6_runs_32 : decode cX6_runs 32 = .ok (.iconst 1, 1) := by decide +kernel
theorem dX6_runs_33 : decode cX6_runs 33 = .ok (.if_icmp .ne 10, 3) := by decide +kernel
theorem dX6_runs_36 : decode cX6_runs 36 = .ok (.aload_n 0, 1) := by decide +kernel
theorem dX6_runs_37 : decode cX6_runs 37 = .ok (.getfield 227, 3) := by decide +kernel
theorem dX6_runs_40 : decode cX6_runs 40 = .ok (.goto 25, 3) := by decide +kernel
theorem dX6_runs_43 : decode cX6_runs 43 = .ok (.iload_n 1, 1) := by decide +kernel
theorem dX6_runs_44 : decode cX6_runs 44 = .ok (.iconst 2, 1) := by decide +kernel
theorem dX6_runs_45 : decode cX6_runs 45 = .ok (.if_icmp .ne 13, 3) := by decide +kernel
theorem dX6_runs_48 : decode cX6_runs 48 = .ok (.aload_n 0, 1) := by decide +kernel
theorem dX6_runs_49 : decode cX6_runs 49 = .ok (.sipush 260, 3) := by decide +kernel
theorem dX6_runs_52 : decode cX6_runs 52 = .ok (.invokevirtual 233, 3) := by decide +kernel
theorem dX6_runs_55 : decode cX6_runs 55 = .ok (.goto 10, 3) := by decide +kernel
theorem dX6_runs_58 : decode cX6_runs 58 = .ok (.aload_n 0, 1) := by decide +kernel
theorem dX6_runs_59 : decode cX6_runs 59 = .ok (.sipush 260, 3) := by decide +kernel
theorem dX6_runs_62 : decode cX6_runs 62 = .ok (.invokevirtual 182, 3) := by decide +kernel
theorem dX6_runs_65 : decode cX6_runs 65 = .ok (.ireturn, 1) := by decide +kernel
theorem dX6_ahead_0 : decode cX6_ahead 0 = .ok (.aload_n 0, 1) := by decide +kernel
theorem dX6_ahead_1 : decode cX6_ahead 1 = .ok (.iload_n 1, 1) := by decide +kernel
theorem dX6_ahead_2 : decode cX6_ahead 2 = .ok (.invokevirtual 185, 3) := by decide +kernel
theorem dX6_ahead_5 : decode cX6_ahead 5 = .ok (.ifCond .ne 5, 3) := by decide +kernel
theorem dX6_ahead_8 : decode cX6_ahead 8 = .ok (.iconst (-1), 1) := by decide +kernel
theorem dX6_ahead_9 : decode cX6_ahead 9 = .ok (.ireturn, 1) := by decide +kernel
theorem dX6_ahead_10 : decode cX6_ahead 10 = .ok (.aload_n 0, 1) := by decide +kernel
theorem dX6_ahead_11 : decode cX6_ahead 11 = .ok (.bipush (-4), 2) := by decide +kernel
theorem dX6_ahead_13 : decode cX6_ahead 13 = .ok (.invokevirtual 230, 3) := by decide +kernel
theorem dX6_ahead_16 : decode cX6_ahead 16 = .ok (.aload_n 0, 1) := by decide +kernel
theorem dX6_ahead_17 : decode cX6_ahead 17 = .ok (.sipush 260, 3) := by decide +kernel
theorem dX6_ahead_20 : decode cX6_ahead 20 = .ok (.iload_n 1, 1) := by decide +kernel
theorem dX6_ahead_21 : decode cX6_ahead 21 = .ok (.invokevirtual 169, 3) := by decide +kernel
theorem dX6_ahead_24 : decode cX6_ahead 24 = .ok (.ireturn, 1) := by decide +kernel
theorem dX6_stepsBy_0 : decode cX6_stepsBy 0 = .ok (.aload_n 0, 1) := by decide +kernel
theorem dX6_stepsBy_1 : decode cX6_stepsBy 1 = .ok (.iconst 0, 1) := by decide +kernel
theorem dX6_stepsBy_2 : decode cX6_stepsBy 2 = .ok (.sipush 260, 3) := by decide +kernel
theorem dX6_stepsBy_5 : decode cX6_stepsBy 5 = .ok (.invokevirtual 220, 3) := by decide +kernel
theorem dX6_stepsBy_8 : decode cX6_stepsBy 8 = .ok (.aload_n 0, 1) := by decide +kernel
theorem dX6_stepsBy_9 : decode cX6_stepsBy 9 = .ok (.sipush 260, 3) := by decide +kernel
theorem dX6_stepsBy_12 : decode cX6_stepsBy 12 = .ok (.iload_n 1, 1) := by decide +kernel
theorem dX6_stepsBy_13 : decode cX6_stepsBy 13 = .ok (.iload_n 2, 1) := by decide +kernel
theorem dX6_stepsBy_14 : decode cX6_stepsBy 14 = .ok (.invokevirtual 208, 3) := by decide +kernel
theorem dX6_stepsBy_17 : decode cX6_stepsBy 17 = .ok (.ifCond .eq 16, 3) := by decide +kernel
theorem dX6_stepsBy_20 : decode cX6_stepsBy 20 = .ok (.aload_n 0, 1) := by decide +kernel
theorem dX6_stepsBy_21 : decode cX6_stepsBy 21 = .ok (.sipush 260, 3) := by decide +kernel
theorem dX6_stepsBy_24 : decode cX6_stepsBy 24 = .ok (.iload_n 3, 1) := by decide +kernel
theorem dX6_stepsBy_25 : decode cX6_stepsBy 25 = .ok (.iload 4, 2) := by decide +kernel
theorem dX6_stepsBy_27 : decode cX6_stepsBy 27 = .ok (.invokevirtual 217, 3) := by decide +kernel
theorem dX6_stepsBy_30 : decode cX6_stepsBy 30 = .ok (.goto 5, 3) := by decide +kernel
theorem dX6_stepsBy_33 : decode cX6_stepsBy 33 = .ok (.bipush (-4), 2) := by decide +kernel
theorem dX6_stepsBy_35 : decode cX6_stepsBy 35 = .ok (.ireturn, 1) := by decide +kernel
theorem dX6_best_0 : decode cX6_best 0 = .ok (.aload_n 0, 1) := by decide +kernel
theorem dX6_best_1 : decode cX6_best 1 = .ok (.iload_n 1, 1) := by decide +kernel
theorem dX6_best_2 : decode cX6_best 2 = .ok (.invokevirtual 185, 3) := by decide +kernel
theorem dX6_best_5 : decode cX6_best 5 = .ok (.ifCond .eq 20, 3) := by decide +kernel
theorem dX6_best_8 : decode cX6_best 8 = .ok (.iload_n 2, 1) := by decide +kernel
theorem dX6_best_9 : decode cX6_best 9 = .ok (.invokestatic 197, 3) := by decide +kernel
theorem dX6_best_12 : decode cX6_best 12 = .ok (.ifCond .eq 13, 3) := by decide +kernel
theorem dX6_best_15 : decode cX6_best 15 = .ok (.iload_n 3, 1) := by decide +kernel
theorem dX6_best_16 : decode cX6_best 16 = .ok (.i2l, 1) := by decide +kernel
theorem dX6_best_17 : decode cX6_best 17 = .ok (.lconst 0, 1) := by decide +kernel
theorem dX6_best_18 : decode cX6_best 18 = .ok (.lconst 1, 1) := by decide +kernel
theorem dX6_best_19 : decode cX6_best 19 = .ok (.invokestatic 49, 3) := by decide +kernel
theorem dX6_best_22 : decode cX6_best 22 = .ok (.ifCond .ne 5, 3) := by decide +kernel
theorem dX6_best_25 : decode cX6_best 25 = .ok (.iconst (-1), 1) := by decide +kernel
theorem dX6_best_26 : decode cX6_best 26 = .ok (.ireturn, 1) := by decide +kernel
theorem dX6_best_27 : decode cX6_best 27 = .ok (.aload_n 0, 1) := by decide +kernel
theorem dX6_best_28 : decode cX6_best 28 = .ok (.iconst 0, 1) := by decide +kernel
theorem dX6_best_29 : decode cX6_best 29 = .ok (.iload_n 1, 1) := by decide +kernel
theorem dX6_best_30 : decode cX6_best 30 = .ok (.invokevirtual 175, 3) := by decide +kernel
theorem dX6_best_33 : decode cX6_best 33 = .ok (.ifCond .ne 6, 3) := by decide +kernel
theorem dX6_best_36 : decode cX6_best 36 = .ok (.bipush (-2), 2) := by decide +kernel
theorem dX6_best_38 : decode cX6_best 38 = .ok (.ireturn, 1) := by decide +kernel
theorem dX6_best_39 : decode cX6_best 39 = .ok (.bipush 100, 2) := by decide +kernel
theorem dX6_best_41 : decode cX6_best 41 = .ok (.istore 4, 2) := by decide +kernel
theorem dX6_best_43 : decode cX6_best 43 = .ok (.bipush (-4), 2) := by decide +kernel
theorem dX6_best_45 : decode cX6_best 45 = .ok (.istore 5, 2) := by decide +kernel
theorem dX6_best_47 : decode cX6_best 47 = .ok (.iconst 0, 1) := by decide +kernel
theorem dX6_best_48 : decode cX6_best 48 = .ok (.istore 6, 2) := by decide +kernel
theorem dX6_best_50 : decode cX6_best 50 = .ok (.iload 6, 2) := by decide +kernel
theorem dX6_best_52 : decode cX6_best 52 = .ok (.aload_n 0, 1) := by decide +kernel
theorem dX6_best_53 : decode cX6_best 53 = .ok (.getfield 7, 3) := by decide +kernel
theorem dX6_best_56 : decode cX6_best 56 = .ok (.bipush 25, 2) := by decide +kernel
theorem dX6_best_58 : decode cX6_best 58 = .ok (.iaload, 1) := by decide +kernel
theorem dX6_best_59 : decode cX6_best 59 = .ok (.if_icmp .ge 66, 3) := by decide +kernel
theorem dX6_best_62 : decode cX6_best 62 = .ok (.aload_n 0, 1) := by decide +kernel
theorem dX6_best_63 : decode cX6_best 63 = .ok (.iload_n 1, 1) := by decide +kernel
theorem dX6_best_64 : decode cX6_best 64 = .ok (.iload 6, 2) := by decide +kernel
theorem dX6_best_66 : decode cX6_best 66 = .ok (.iload_n 1, 1) := by decide +kernel
theorem dX6_best_67 : decode cX6_best 67 = .ok (.iload_n 2, 1) := by decide +kernel
theorem dX6_best_68 : decode cX6_best 68 = .ok (.invokevirtual 236, 3) := by decide +kernel
theorem dX6_best_71 : decode cX6_best 71 = .ok (.istore 7, 2) := by decide +kernel
theorem dX6_best_73 : decode cX6_best 73 = .ok (.iload 7, 2) := by decide +kernel
theorem dX6_best_75 : decode cX6_best 75 = .ok (.bipush (-4), 2) := by decide +kernel
theorem dX6_best_77 : decode cX6_best 77 = .ok (.if_icmp .eq 15, 3) := by decide +kernel
theorem dX6_best_80 : decode cX6_best 80 = .ok (.iload 7, 2) := by decide +kernel
theorem dX6_best_82 : decode cX6_best 82 = .ok (.iload 4, 2) := by decide +kernel
theorem dX6_best_84 : decode cX6_best 84 = .ok (.if_icmp .ge 8, 3) := by decide +kernel
theorem dX6_best_87 : decode cX6_best 87 = .ok (.iload 6, 2) := by decide +kernel
theorem dX6_best_89 : decode cX6_best 89 = .ok (.goto 5, 3) := by decide +kernel
theorem dX6_best_92 : decode cX6_best 92 = .ok (.iload 5, 2) := by decide +kernel
theorem dX6_best_94 : decode cX6_best 94 = .ok (.istore 5, 2) := by decide +kernel
theorem dX6_best_96 : decode cX6_best 96 = .ok (.iload 7, 2) := by decide +kernel
theorem dX6_best_98 : decode cX6_best 98 = .ok (.bipush (-4), 2) := by decide +kernel
theorem dX6_best_100 : decode cX6_best 100 = .ok (.if_icmp .eq 15, 3) := by decide +kernel
theorem dX6_best_103 : decode cX6_best 103 = .ok (.iload 7, 2) := by decide +kernel
theorem dX6_best_105 : decode cX6_best 105 = .ok (.iload 4, 2) := by decide +kernel
theorem dX6_best_107 : decode cX6_best 107 = .ok (.if_icmp .ge 8, 3) := by decide +kernel
theorem dX6_best_110 : decode cX6_best 110 = .ok (.iload 7, 2) := by decide +kernel
theorem dX6_best_112 : decode cX6_best 112 = .ok (.goto 5, 3) := by decide +kernel
theorem dX6_best_115 : decode cX6_best 115 = .ok (.iload 4, 2) := by decide +kernel
theorem dX6_best_117 : decode cX6_best 117 = .ok (.istore 4, 2) := by decide +kernel
theorem dX6_best_119 : decode cX6_best 119 = .ok (.iinc 6 1, 3) := by decide +kernel
theorem dX6_best_122 : decode cX6_best 122 = .ok (.goto (-72), 3) := by decide +kernel
theorem dX6_best_125 : decode cX6_best 125 = .ok (.iload 5, 2) := by decide +kernel
theorem dX6_best_127 : decode cX6_best 127 = .ok (.bipush (-4), 2) := by decide +kernel
theorem dX6_best_129 : decode cX6_best 129 = .ok (.if_icmp .eq 7, 3) := by decide +kernel
theorem dX6_best_132 : decode cX6_best 132 = .ok (.iload_n 3, 1) := by decide +kernel
theorem dX6_best_133 : decode cX6_best 133 = .ok (.ifCond .ne 8, 3) := by decide +kernel
theorem dX6_best_136 : decode cX6_best 136 = .ok (.iload 5, 2) := by decide +kernel
theorem dX6_best_138 : decode cX6_best 138 = .ok (.goto 5, 3) := by decide +kernel
theorem dX6_best_141 : decode cX6_best 141 = .ok (.iload 4, 2) := by decide +kernel
theorem dX6_best_143 : decode cX6_best 143 = .ok (.ireturn, 1) := by decide +kernel
theorem dX6_friend_0 : decode cX6_friend 0 = .ok (.aload_n 0, 1) := by decide +kernel
theorem dX6_friend_1 : decode cX6_friend 1 = .ok (.iload_n 1, 1) := by decide +kernel
theorem dX6_friend_2 : decode cX6_friend 2 = .ok (.invokevirtual 185, 3) := by decide +kernel
theorem dX6_friend_5 : decode cX6_friend 5 = .ok (.ifCond .eq 20, 3) := by decide +kernel
theorem dX6_friend_8 : decode cX6_friend 8 = .ok (.iload_n 2, 1) := by decide +kernel
theorem dX6_friend_9 : decode cX6_friend 9 = .ok (.invokestatic 197, 3) := by decide +kernel
theorem dX6_friend_12 : decode cX6_friend 12 = .ok (.ifCond .eq 13, 3) := by decide +kernel
theorem dX6_friend_15 : decode cX6_friend 15 = .ok (.iload_n 3, 1) := by decide +kernel
theorem dX6_friend_16 : decode cX6_friend 16 = .ok (.i2l, 1) := by decide +kernel
theorem dX6_friend_17 : decode cX6_friend 17 = .ok (.lconst 0, 1) := by decide +kernel
theorem dX6_friend_18 : decode cX6_friend 18 = .ok (.lconst 1, 1) := by decide +kernel
theorem dX6_friend_19 : decode cX6_friend 19 = .ok (.invokestatic 49, 3) := by decide +kernel
theorem dX6_friend_22 : decode cX6_friend 22 = .ok (.ifCond .ne 5, 3) := by decide +kernel
theorem dX6_friend_25 : decode cX6_friend 25 = .ok (.iconst (-1), 1) := by decide +kernel
theorem dX6_friend_26 : decode cX6_friend 26 = .ok (.ireturn, 1) := by decide +kernel
theorem dX6_friend_27 : decode cX6_friend 27 = .ok (.bipush 100, 2) := by decide +kernel
theorem dX6_friend_29 : decode cX6_friend 29 = .ok (.istore 4, 2) := by decide +kernel
theorem dX6_friend_31 : decode cX6_friend 31 = .ok (.bipush (-4), 2) := by decide +kernel
theorem dX6_friend_33 : decode cX6_friend 33 = .ok (.istore 5, 2) := by decide +kernel
theorem dX6_friend_35 : decode cX6_friend 35 = .ok (.iconst 0, 1) := by decide +kernel
theorem dX6_friend_36 : decode cX6_friend 36 = .ok (.istore 6, 2) := by decide +kernel
theorem dX6_friend_38 : decode cX6_friend 38 = .ok (.iload 6, 2) := by decide +kernel
theorem dX6_friend_40 : decode cX6_friend 40 = .ok (.aload_n 0, 1) := by decide +kernel
theorem dX6_friend_41 : decode cX6_friend 41 = .ok (.getfield 144, 3) := by decide +kernel
theorem dX6_friend_44 : decode cX6_friend 44 = .ok (.if_icmp .ge 105, 3) := by decide +kernel
theorem dX6_friend_47 : decode cX6_friend 47 = .ok (.iconst 0, 1) := by decide +kernel
theorem dX6_friend_48 : decode cX6_friend 48 = .ok (.istore 7, 2) := by decide +kernel
theorem dX6_friend_50 : decode cX6_friend 50 = .ok (.iload 7, 2) := by decide +kernel
theorem dX6_friend_52 : decode cX6_friend 52 = .ok (.aload_n 0, 1) := by decide +kernel
theorem dX6_friend_53 : decode cX6_friend 53 = .ok (.getfield 7, 3) := by decide +kernel
theorem dX6_friend_56 : decode cX6_friend 56 = .ok (.bipush 25, 2) := by decide +kernel
theorem dX6_friend_58 : decode cX6_friend 58 = .ok (.iaload, 1) := by decide +kernel
theorem dX6_friend_59 : decode cX6_friend 59 = .ok (.if_icmp .ge 84, 3) := by decide +kernel
theorem dX6_friend_62 : decode cX6_friend 62 = .ok (.iload 6, 2) := by decide +kernel
theorem dX6_friend_64 : decode cX6_friend 64 = .ok (.iload_n 1, 1) := by decide +kernel
theorem dX6_friend_65 : decode cX6_friend 65 = .ok (.if_icmp .ne 8, 3) := by decide +kernel
theorem dX6_friend_68 : decode cX6_friend 68 = .ok (.bipush (-4), 2) := by decide +kernel
theorem dX6_friend_70 : decode cX6_friend 70 = .ok (.goto 13, 3) := by decide +kernel
theorem dX6_friend_73 : decode cX6_friend 73 = .ok (.aload_n 0, 1) := by decide +kernel
theorem dX6_friend_74 : decode cX6_friend 74 = .ok (.iload 6, 2) := by decide +kernel
theorem dX6_friend_76 : decode cX6_friend 76 = .ok (.iload 7, 2) := by decide +kernel
theorem dX6_friend_78 : decode cX6_friend 78 = .ok (.iload_n 1, 1) := by decide +kernel
theorem dX6_friend_79 : decode cX6_friend 79 = .ok (.iload_n 2, 1) := by decide +kernel
theorem dX6_friend_80 : decode cX6_friend 80 = .ok (.invokevirtual 236, 3) := by decide +kernel
theorem dX6_friend_83 : decode cX6_friend 83 = .ok (.istore 8, 2) := by decide +kernel
theorem dX6_friend_85 : decode cX6_friend 85 = .ok (.iload 8, 2) := by decide +kernel
theorem dX6_friend_87 : decode cX6_friend 87 = .ok (.bipush (-4), 2) := by decide +kernel
theorem dX6_friend_89 : decode cX6_friend 89 = .ok (.if_icmp .eq 21, 3) := by decide +kernel
theorem dX6_friend_92 : decode cX6_friend 92 = .ok (.iload 8, 2) := by decide +kernel
theorem dX6_friend_94 : decode cX6_friend 94 = .ok (.iload 4, 2) := by decide +kernel
theorem dX6_friend_96 : decode cX6_friend 96 = .ok (.if_icmp .ge 14, 3) := by decide +kernel
theorem dX6_friend_99 : decode cX6_friend 99 = .ok (.bipush 10, 2) := by decide +kernel
theorem dX6_friend_101 : decode cX6_friend 101 = .ok (.iload 6, 2) := by decide +kernel
theorem dX6_friend_103 : decode cX6_friend 103 = .ok (.imul, 1) := by decide +kernel
theorem dX6_friend_104 : decode cX6_friend 104 = .ok (.iload 7, 2) := by decide +kernel
theorem dX6_friend_106 : decode cX6_friend 106 = .ok (.iadd, 1) := by decide +kernel
theorem dX6_friend_107 : decode cX6_friend 107 = .ok (.goto 5, 3) := by decide +kernel
theorem dX6_friend_110 : decode cX6_friend 110 = .ok (.iload 5, 2) := by decide +kernel
theorem dX6_friend_112 : decode cX6_friend 112 = .ok (.istore 5, 2) := by decide +kernel
theorem dX6_friend_114 : decode cX6_friend 114 = .ok (.iload 8, 2) := by decide +kernel
theorem dX6_friend_116 : decode cX6_friend 116 = .ok (.bipush (-4), 2) := by decide +kernel
theorem dX6_friend_118 : decode cX6_friend 118 = .ok (.if_icmp .eq 15, 3) := by decide +kernel
theorem dX6_friend_121 : decode cX6_friend 121 = .ok (.iload 8, 2) := by decide +kernel
theorem dX6_friend_123 : decode cX6_friend 123 = .ok (.iload 4, 2) := by decide +kernel
theorem dX6_friend_125 : decode cX6_friend 125 = .ok (.if_icmp .ge 8, 3) := by decide +kernel
theorem dX6_friend_128 : decode cX6_friend 128 = .ok (.iload 8, 2) := by decide +kernel
theorem dX6_friend_130 : decode cX6_friend 130 = .ok (.goto 5, 3) := by decide +kernel
theorem dX6_friend_133 : decode cX6_friend 133 = .ok (.iload 4, 2) := by decide +kernel
theorem dX6_friend_135 : decode cX6_friend 135 = .ok (.istore 4, 2) := by decide +kernel
theorem dX6_friend_137 : decode cX6_friend 137 = .ok (.iinc 7 1, 3) := by decide +kernel
theorem dX6_friend_140 : decode cX6_friend 140 = .ok (.goto (-90), 3) := by decide +kernel
theorem dX6_friend_143 : decode cX6_friend 143 = .ok (.iinc 6 1, 3) := by decide +kernel
theorem dX6_friend_146 : decode cX6_friend 146 = .ok (.goto (-108), 3) := by decide +kernel
theorem dX6_friend_149 : decode cX6_friend 149 = .ok (.iload 5, 2) := by decide +kernel
theorem dX6_friend_151 : decode cX6_friend 151 = .ok (.bipush (-4), 2) := by decide +kernel
theorem dX6_friend_153 : decode cX6_friend 153 = .ok (.if_icmp .eq 7, 3) := by decide +kernel
theorem dX6_friend_156 : decode cX6_friend 156 = .ok (.iload_n 3, 1) := by decide +kernel
theorem dX6_friend_157 : decode cX6_friend 157 = .ok (.ifCond .ne 8, 3) := by decide +kernel
theorem dX6_friend_160 : decode cX6_friend 160 = .ok (.iload 5, 2) := by decide +kernel
theorem dX6_friend_162 : decode cX6_friend 162 = .ok (.goto 5, 3) := by decide +kernel
theorem dX6_friend_165 : decode cX6_friend 165 = .ok (.iload 4, 2) := by decide +kernel
theorem dX6_friend_167 : decode cX6_friend 167 = .ok (.ireturn, 1) := by decide +kernel
theorem dX6_gain_0 : decode cX6_gain 0 = .ok (.aload_n 0, 1) := by decide +kernel
theorem dX6_gain_1 : decode cX6_gain 1 = .ok (.iload_n 1, 1) := by decide +kernel
theorem dX6_gain_2 : decode cX6_gain 2 = .ok (.invokevirtual 185, 3) := by decide +kernel
theorem dX6_gain_5 : decode cX6_gain 5 = .ok (.ifCond .eq 13, 3) := by decide +kernel
theorem dX6_gain_8 : decode cX6_gain 8 = .ok (.iload_n 2, 1) := by decide +kernel
theorem dX6_gain_9 : decode cX6_gain 9 = .ok (.i2l, 1) := by decide +kernel
theorem dX6_gain_10 : decode cX6_gain 10 = .ok (.lconst 0, 1) := by decide +kernel
theorem dX6_gain_11 : decode cX6_gain 11 = .ok (.lconst 1, 1) := by decide +kernel
theorem dX6_gain_12 : decode cX6_gain 12 = .ok (.invokestatic 49, 3) := by decide +kernel
theorem dX6_gain_15 : decode cX6_gain 15 = .ok (.ifCond .ne 5, 3) := by decide +kernel
theorem dX6_gain_18 : decode cX6_gain 18 = .ok (.iconst (-1), 1) := by decide +kernel
theorem dX6_gain_19 : decode cX6_gain 19 = .ok (.ireturn, 1) := by decide +kernel
theorem dX6_gain_20 : decode cX6_gain 20 = .ok (.aload_n 0, 1) := by decide +kernel
theorem dX6_gain_21 : decode cX6_gain 21 = .ok (.iconst 0, 1) := by decide +kernel
theorem dX6_gain_22 : decode cX6_gain 22 = .ok (.iload_n 1, 1) := by decide +kernel
theorem dX6_gain_23 : decode cX6_gain 23 = .ok (.invokevirtual 175, 3) := by decide +kernel
theorem dX6_gain_26 : decode cX6_gain 26 = .ok (.ifCond .ne 6, 3) := by decide +kernel
theorem dX6_gain_29 : decode cX6_gain 29 = .ok (.bipush (-2), 2) := by decide +kernel
theorem dX6_gain_31 : decode cX6_gain 31 = .ok (.ireturn, 1) := by decide +kernel
theorem dX6_gain_32 : decode cX6_gain 32 = .ok (.aload_n 0, 1) := by decide +kernel
theorem dX6_gain_33 : decode cX6_gain 33 = .ok (.iconst 0, 1) := by decide +kernel
theorem dX6_gain_34 : decode cX6_gain 34 = .ok (.iload_n 1, 1) := by decide +kernel
theorem dX6_gain_35 : decode cX6_gain 35 = .ok (.invokevirtual 189, 3) := by decide +kernel
theorem dX6_gain_38 : decode cX6_gain 38 = .ok (.istore_n 3, 1) := by decide +kernel
theorem dX6_gain_39 : decode cX6_gain 39 = .ok (.bipush (-4), 2) := by decide +kernel
theorem dX6_gain_41 : decode cX6_gain 41 = .ok (.istore 4, 2) := by decide +kernel
theorem dX6_gain_43 : decode cX6_gain 43 = .ok (.iconst 0, 1) := by decide +kernel
theorem dX6_gain_44 : decode cX6_gain 44 = .ok (.istore 5, 2) := by decide +kernel
theorem dX6_gain_46 : decode cX6_gain 46 = .ok (.iload 5, 2) := by decide +kernel
theorem dX6_gain_48 : decode cX6_gain 48 = .ok (.aload_n 0, 1) := by decide +kernel
theorem dX6_gain_49 : decode cX6_gain 49 = .ok (.getfield 7, 3) := by decide +kernel
theorem dX6_gain_52 : decode cX6_gain 52 = .ok (.bipush 25, 2) := by decide +kernel
theorem dX6_gain_54 : decode cX6_gain 54 = .ok (.iaload, 1) := by decide +kernel
theorem dX6_gain_55 : decode cX6_gain 55 = .ok (.if_icmp .ge 68, 3) := by decide +kernel
theorem dX6_gain_58 : decode cX6_gain 58 = .ok (.aload_n 0, 1) := by decide +kernel
theorem dX6_gain_59 : decode cX6_gain 59 = .ok (.iconst 0, 1) := by decide +kernel
theorem dX6_gain_60 : decode cX6_gain 60 = .ok (.sipush 260, 3) := by decide +kernel
theorem dX6_gain_63 : decode cX6_gain 63 = .ok (.invokevirtual 220, 3) := by decide +kernel
theorem dX6_gain_66 : decode cX6_gain 66 = .ok (.aload_n 0, 1) := by decide +kernel
theorem dX6_gain_67 : decode cX6_gain 67 = .ok (.sipush 260, 3) := by decide +kernel
theorem dX6_gain_70 : decode cX6_gain 70 = .ok (.iload_n 1, 1) := by decide +kernel
theorem dX6_gain_71 : decode cX6_gain 71 = .ok (.iload 5, 2) := by decide +kernel
theorem dX6_gain_73 : decode cX6_gain 73 = .ok (.invokevirtual 208, 3) := by decide +kernel
theorem dX6_gain_76 : decode cX6_gain 76 = .ok (.ifCond .eq 41, 3) := by decide +kernel
theorem dX6_gain_79 : decode cX6_gain 79 = .ok (.aload_n 0, 1) := by decide +kernel
theorem dX6_gain_80 : decode cX6_gain 80 = .ok (.sipush 260, 3) := by decide +kernel
theorem dX6_gain_83 : decode cX6_gain 83 = .ok (.iload_n 1, 1) := by decide +kernel
theorem dX6_gain_84 : decode cX6_gain 84 = .ok (.invokevirtual 189, 3) := by decide +kernel
theorem dX6_gain_87 : decode cX6_gain 87 = .ok (.istore 6, 2) := by decide +kernel
theorem dX6_gain_89 : decode cX6_gain 89 = .ok (.iload 6, 2) := by decide +kernel
theorem dX6_gain_91 : decode cX6_gain 91 = .ok (.iload_n 3, 1) := by decide +kernel
theorem dX6_gain_92 : decode cX6_gain 92 = .ok (.if_icmp .le 8, 3) := by decide +kernel
theorem dX6_gain_95 : decode cX6_gain 95 = .ok (.iload 5, 2) := by decide +kernel
theorem dX6_gain_97 : decode cX6_gain 97 = .ok (.goto 5, 3) := by decide +kernel
theorem dX6_gain_100 : decode cX6_gain 100 = .ok (.iload 4, 2) := by decide +kernel
theorem dX6_gain_102 : decode cX6_gain 102 = .ok (.istore 4, 2) := by decide +kernel
theorem dX6_gain_104 : decode cX6_gain 104 = .ok (.iload 6, 2) := by decide +kernel
theorem dX6_gain_106 : decode cX6_gain 106 = .ok (.iload_n 3, 1) := by decide +kernel
theorem dX6_gain_107 : decode cX6_gain 107 = .ok (.if_icmp .le 8, 3) := by decide +kernel
theorem dX6_gain_110 : decode cX6_gain 110 = .ok (.iload 6, 2) := by decide +kernel
theorem dX6_gain_112 : decode cX6_gain 112 = .ok (.goto 4, 3) := by decide +kernel
theorem dX6_gain_115 : decode cX6_gain 115 = .ok (.iload_n 3, 1) := by decide +kernel
theorem dX6_gain_116 : decode cX6_gain 116 = .ok (.istore_n 3, 1) := by decide +kernel
theorem dX6_gain_117 : decode cX6_gain 117 = .ok (.iinc 5 1, 3) := by decide +kernel
theorem dX6_gain_120 : decode cX6_gain 120 = .ok (.goto (-74), 3) := by decide +kernel
theorem dX6_gain_123 : decode cX6_gain 123 = .ok (.iload 4, 2) := by decide +kernel
theorem dX6_gain_125 : decode cX6_gain 125 = .ok (.bipush (-4), 2) := by decide +kernel
theorem dX6_gain_127 : decode cX6_gain 127 = .ok (.if_icmp .eq 7, 3) := by decide +kernel
theorem dX6_gain_130 : decode cX6_gain 130 = .ok (.iload_n 2, 1) := by decide +kernel
theorem dX6_gain_131 : decode cX6_gain 131 = .ok (.ifCond .ne 8, 3) := by decide +kernel
theorem dX6_gain_134 : decode cX6_gain 134 = .ok (.iload 4, 2) := by decide +kernel
theorem dX6_gain_136 : decode cX6_gain 136 = .ok (.goto 4, 3) := by decide +kernel
theorem dX6_gain_139 : decode cX6_gain 139 = .ok (.iload_n 3, 1) := by decide +kernel
theorem dX6_gain_140 : decode cX6_gain 140 = .ok (.ireturn, 1) := by decide +kernel
theorem dX6_shut_0 : decode cX6_shut 0 = .ok (.aload_n 0, 1) := by decide +kernel
theorem dX6_shut_1 : decode cX6_shut 1 = .ok (.iload_n 1, 1) := by decide +kernel
theorem dX6_shut_2 : decode cX6_shut 2 = .ok (.invokevirtual 185, 3) := by decide +kernel
theorem dX6_shut_5 : decode cX6_shut 5 = .ok (.ifCond .eq 20, 3) := by decide +kernel
theorem dX6_shut_8 : decode cX6_shut 8 = .ok (.iload_n 2, 1) := by decide +kernel
theorem dX6_shut_9 : decode cX6_shut 9 = .ok (.invokestatic 197, 3) := by decide +kernel
theorem dX6_shut_12 : decode cX6_shut 12 = .ok (.ifCond .eq 13, 3) := by decide +kernel
theorem dX6_shut_15 : decode cX6_shut 15 = .ok (.iload_n 3, 1) := by decide +kernel
theorem dX6_shut_16 : decode cX6_shut 16 = .ok (.i2l, 1) := by decide +kernel
theorem dX6_shut_17 : decode cX6_shut 17 = .ok (.lconst 0, 1) := by decide +kernel
theorem dX6_shut_18 : decode cX6_shut 18 = .ok (.lconst 1, 1) := by decide +kernel
theorem dX6_shut_19 : decode cX6_shut 19 = .ok (.invokestatic 49, 3) := by decide +kernel
theorem dX6_shut_22 : decode cX6_shut 22 = .ok (.ifCond .ne 5, 3) := by decide +kernel
theorem dX6_shut_25 : decode cX6_shut 25 = .ok (.iconst (-1), 1) := by decide +kernel
theorem dX6_shut_26 : decode cX6_shut 26 = .ok (.ireturn, 1) := by decide +kernel
theorem dX6_shut_27 : decode cX6_shut 27 = .ok (.aload_n 0, 1) := by decide +kernel
theorem dX6_shut_28 : decode cX6_shut 28 = .ok (.getfield 7, 3) := by decide +kernel
theorem dX6_shut_31 : decode cX6_shut 31 = .ok (.bipush 10, 2) := by decide +kernel
theorem dX6_shut_33 : decode cX6_shut 33 = .ok (.iload_n 1, 1) := by decide +kernel
theorem dX6_shut_34 : decode cX6_shut 34 = .ok (.iadd, 1) := by decide +kernel
theorem dX6_shut_35 : decode cX6_shut 35 = .ok (.iaload, 1) := by decide +kernel
theorem dX6_shut_36 : decode cX6_shut 36 = .ok (.iload_n 2, 1) := by decide +kernel
theorem dX6_shut_37 : decode cX6_shut 37 = .ok (.if_icmp .ne 6, 3) := by decide +kernel
theorem dX6_shut_40 : decode cX6_shut 40 = .ok (.bipush (-2), 2) := by decide +kernel
theorem dX6_shut_42 : decode cX6_shut 42 = .ok (.ireturn, 1) := by decide +kernel
theorem dX6_shut_43 : decode cX6_shut 43 = .ok (.bipush 100, 2) := by decide +kernel
theorem dX6_shut_45 : decode cX6_shut 45 = .ok (.istore 4, 2) := by decide +kernel
theorem dX6_shut_47 : decode cX6_shut 47 = .ok (.iconst 0, 1) := by decide +kernel
theorem dX6_shut_48 : decode cX6_shut 48 = .ok (.istore 5, 2) := by decide +kernel
theorem dX6_shut_50 : decode cX6_shut 50 = .ok (.iconst 0, 1) := by decide +kernel
theorem dX6_shut_51 : decode cX6_shut 51 = .ok (.istore 6, 2) := by decide +kernel
theorem dX6_shut_53 : decode cX6_shut 53 = .ok (.iload 6, 2) := by decide +kernel
theorem dX6_shut_55 : decode cX6_shut 55 = .ok (.iconst 1, 1) := by decide +kernel
theorem dX6_shut_56 : decode cX6_shut 56 = .ok (.aload_n 0, 1) := by decide +kernel
theorem dX6_shut_57 : decode cX6_shut 57 = .ok (.getfield 7, 3) := by decide +kernel
theorem dX6_shut_60 : decode cX6_shut 60 = .ok (.bipush 25, 2) := by decide +kernel
theorem dX6_shut_62 : decode cX6_shut 62 = .ok (.iaload, 1) := by decide +kernel
theorem dX6_shut_63 : decode cX6_shut 63 = .ok (.ishl, 1) := by decide +kernel
theorem dX6_shut_64 : decode cX6_shut 64 = .ok (.if_icmp .ge 122, 3) := by decide +kernel
theorem dX6_shut_67 : decode cX6_shut 67 = .ok (.iload 6, 2) := by decide +kernel
theorem dX6_shut_69 : decode cX6_shut 69 = .ok (.invokestatic 172, 3) := by decide +kernel
theorem dX6_shut_72 : decode cX6_shut 72 = .ok (.iload 4, 2) := by decide +kernel
theorem dX6_shut_74 : decode cX6_shut 74 = .ok (.if_icmp .ge 106, 3) := by decide +kernel
theorem dX6_shut_77 : decode cX6_shut 77 = .ok (.aload_n 0, 1) := by decide +kernel
theorem dX6_shut_78 : decode cX6_shut 78 = .ok (.iconst 0, 1) := by decide +kernel
theorem dX6_shut_79 : decode cX6_shut 79 = .ok (.sipush 260, 3) := by decide +kernel
theorem dX6_shut_82 : decode cX6_shut 82 = .ok (.invokevirtual 220, 3) := by decide +kernel
theorem dX6_shut_85 : decode cX6_shut 85 = .ok (.iconst 0, 1) := by decide +kernel
theorem dX6_shut_86 : decode cX6_shut 86 = .ok (.istore 7, 2) := by decide +kernel
theorem dX6_shut_88 : decode cX6_shut 88 = .ok (.iload 7, 2) := by decide +kernel
theorem dX6_shut_90 : decode cX6_shut 90 = .ok (.aload_n 0, 1) := by decide +kernel
theorem dX6_shut_91 : decode cX6_shut 91 = .ok (.getfield 7, 3) := by decide +kernel
theorem dX6_shut_94 : decode cX6_shut 94 = .ok (.bipush 25, 2) := by decide +kernel
theorem dX6_shut_96 : decode cX6_shut 96 = .ok (.iaload, 1) := by decide +kernel
theorem dX6_shut_97 : decode cX6_shut 97 = .ok (.if_icmp .ge 30, 3) := by decide +kernel
theorem dX6_shut_100 : decode cX6_shut 100 = .ok (.iload 6, 2) := by decide +kernel
theorem dX6_shut_102 : decode cX6_shut 102 = .ok (.iload 7, 2) := by decide +kernel
theorem dX6_shut_104 : decode cX6_shut 104 = .ok (.ishr, 1) := by decide +kernel
theorem dX6_shut_105 : decode cX6_shut 105 = .ok (.iconst 1, 1) := by decide +kernel
theorem dX6_shut_106 : decode cX6_shut 106 = .ok (.iand, 1) := by decide +kernel
theorem dX6_shut_107 : decode cX6_shut 107 = .ok (.iconst 1, 1) := by decide +kernel
theorem dX6_shut_108 : decode cX6_shut 108 = .ok (.if_icmp .ne 13, 3) := by decide +kernel
theorem dX6_shut_111 : decode cX6_shut 111 = .ok (.aload_n 0, 1) := by decide +kernel
theorem dX6_shut_112 : decode cX6_shut 112 = .ok (.sipush 260, 3) := by decide +kernel
theorem dX6_shut_115 : decode cX6_shut 115 = .ok (.iload 7, 2) := by decide +kernel
theorem dX6_shut_117 : decode cX6_shut 117 = .ok (.invokevirtual 214, 3) := by decide +kernel
theorem dX6_shut_120 : decode cX6_shut 120 = .ok (.pop, 1) := by decide +kernel
theorem dX6_shut_121 : decode cX6_shut 121 = .ok (.iinc 7 1, 3) := by decide +kernel
theorem dX6_shut_124 : decode cX6_shut 124 = .ok (.goto (-36), 3) := by decide +kernel
theorem dX6_shut_127 : decode cX6_shut 127 = .ok (.aload_n 0, 1) := by decide +kernel
theorem dX6_shut_128 : decode cX6_shut 128 = .ok (.sipush 260, 3) := by decide +kernel
theorem dX6_shut_131 : decode cX6_shut 131 = .ok (.iload_n 1, 1) := by decide +kernel
theorem dX6_shut_132 : decode cX6_shut 132 = .ok (.invokevirtual 169, 3) := by decide +kernel
theorem dX6_shut_135 : decode cX6_shut 135 = .ok (.iload_n 2, 1) := by decide +kernel
theorem dX6_shut_136 : decode cX6_shut 136 = .ok (.ishr, 1) := by decide +kernel
theorem dX6_shut_137 : decode cX6_shut 137 = .ok (.iconst 1, 1) := by decide +kernel
theorem dX6_shut_138 : decode cX6_shut 138 = .ok (.iand, 1) := by decide +kernel
theorem dX6_shut_139 : decode cX6_shut 139 = .ok (.ifCond .ne 7, 3) := by decide +kernel
theorem dX6_shut_142 : decode cX6_shut 142 = .ok (.iconst 1, 1) := by decide +kernel
theorem dX6_shut_143 : decode cX6_shut 143 = .ok (.goto 4, 3) := by decide +kernel
theorem dX6_shut_146 : decode cX6_shut 146 = .ok (.iconst 0, 1) := by decide +kernel
theorem dX6_shut_147 : decode cX6_shut 147 = .ok (.istore 7, 2) := by decide +kernel
theorem dX6_shut_149 : decode cX6_shut 149 = .ok (.iload 7, 2) := by decide +kernel
theorem dX6_shut_151 : decode cX6_shut 151 = .ok (.ifCond .eq 8, 3) := by decide +kernel
theorem dX6_shut_154 : decode cX6_shut 154 = .ok (.iload 6, 2) := by decide +kernel
theorem dX6_shut_156 : decode cX6_shut 156 = .ok (.goto 5, 3) := by decide +kernel
theorem dX6_shut_159 : decode cX6_shut 159 = .ok (.iload 5, 2) := by decide +kernel
theorem dX6_shut_161 : decode cX6_shut 161 = .ok (.istore 5, 2) := by decide +kernel
theorem dX6_shut_163 : decode cX6_shut 163 = .ok (.iload 7, 2) := by decide +kernel
theorem dX6_shut_165 : decode cX6_shut 165 = .ok (.ifCond .eq 11, 3) := by decide +kernel
theorem dX6_shut_168 : decode cX6_shut 168 = .ok (.iload 6, 2) := by decide +kernel
theorem dX6_shut_170 : decode cX6_shut 170 = .ok (.invokestatic 172, 3) := by decide +kernel
theorem dX6_shut_173 : decode cX6_shut 173 = .ok (.goto 5, 3) := by decide +kernel
theorem dX6_shut_176 : decode cX6_shut 176 = .ok (.iload 4, 2) := by decide +kernel
theorem dX6_shut_178 : decode cX6_shut 178 = .ok (.istore 4, 2) := by decide +kernel
theorem dX6_shut_180 : decode cX6_shut 180 = .ok (.iinc 6 1, 3) := by decide +kernel
theorem dX6_shut_183 : decode cX6_shut 183 = .ok (.goto (-130), 3) := by decide +kernel
theorem dX6_shut_186 : decode cX6_shut 186 = .ok (.iload_n 3, 1) := by decide +kernel
theorem dX6_shut_187 : decode cX6_shut 187 = .ok (.ifCond .ne 8, 3) := by decide +kernel
theorem dX6_shut_190 : decode cX6_shut 190 = .ok (.iload 4, 2) := by decide +kernel
theorem dX6_shut_192 : decode cX6_shut 192 = .ok (.goto 5, 3) := by decide +kernel
theorem dX6_shut_195 : decode cX6_shut 195 = .ok (.iload 5, 2) := by decide +kernel
theorem dX6_shut_197 : decode cX6_shut 197 = .ok (.ireturn, 1) := by decide +kernel
theorem dX6_leave_0 : decode cX6_leave 0 = .ok (.iload_n 1, 1) := by decide +kernel
theorem dX6_leave_1 : decode cX6_leave 1 = .ok (.i2l, 1) := by decide +kernel
theorem dX6_leave_2 : decode cX6_leave 2 = .ok (.lconst 0, 1) := by decide +kernel
theorem dX6_leave_3 : decode cX6_leave 3 = .ok (.lconst 1, 1) := by decide +kernel
theorem dX6_leave_4 : decode cX6_leave 4 = .ok (.invokestatic 49, 3) := by decide +kernel
theorem dX6_leave_7 : decode cX6_leave 7 = .ok (.ifCond .ne 5, 3) := by decide +kernel
theorem dX6_leave_10 : decode cX6_leave 10 = .ok (.iconst (-1), 1) := by decide +kernel
theorem dX6_leave_11 : decode cX6_leave 11 = .ok (.ireturn, 1) := by decide +kernel
theorem dX6_leave_12 : decode cX6_leave 12 = .ok (.aload_n 0, 1) := by decide +kernel
theorem dX6_leave_13 : decode cX6_leave 13 = .ok (.bipush (-4), 2) := by decide +kernel
theorem dX6_leave_15 : decode cX6_leave 15 = .ok (.invokevirtual 230, 3) := by decide +kernel
theorem dX6_leave_18 : decode cX6_leave 18 = .ok (.aload_n 0, 1) := by decide +kernel
theorem dX6_leave_19 : decode cX6_leave 19 = .ok (.sipush 260, 3) := by decide +kernel
theorem dX6_leave_22 : decode cX6_leave 22 = .ok (.invokevirtual 233, 3) := by decide +kernel
theorem dX6_leave_25 : decode cX6_leave 25 = .ok (.istore_n 2, 1) := by decide +kernel
theorem dX6_leave_26 : decode cX6_leave 26 = .ok (.bipush (-4), 2) := by decide +kernel
theorem dX6_leave_28 : decode cX6_leave 28 = .ok (.istore_n 3, 1) := by decide +kernel
theorem dX6_leave_29 : decode cX6_leave 29 = .ok (.iconst 0, 1) := by decide +kernel
theorem dX6_leave_30 : decode cX6_leave 30 = .ok (.istore 4, 2) := by decide +kernel
theorem dX6_leave_32 : decode cX6_leave 32 = .ok (.iload 4, 2) := by decide +kernel
theorem dX6_leave_34 : decode cX6_leave 34 = .ok (.aload_n 0, 1) := by decide +kernel
theorem dX6_leave_35 : decode cX6_leave 35 = .ok (.getfield 7, 3) := by decide +kernel
theorem dX6_leave_38 : decode cX6_leave 38 = .ok (.bipush 52, 2) := by decide +kernel
theorem dX6_leave_40 : decode cX6_leave 40 = .ok (.iaload, 1) := by decide +kernel
theorem dX6_leave_41 : decode cX6_leave 41 = .ok (.if_icmp .ge 50, 3) := by decide +kernel
theorem dX6_leave_44 : decode cX6_leave 44 = .ok (.aload_n 0, 1) := by decide +kernel
theorem dX6_leave_45 : decode cX6_leave 45 = .ok (.iload 4, 2) := by decide +kernel
theorem dX6_leave_47 : decode cX6_leave 47 = .ok (.invokevirtual 230, 3) := by decide +kernel
theorem dX6_leave_50 : decode cX6_leave 50 = .ok (.aload_n 0, 1) := by decide +kernel
theorem dX6_leave_51 : decode cX6_leave 51 = .ok (.sipush 260, 3) := by decide +kernel
theorem dX6_leave_54 : decode cX6_leave 54 = .ok (.invokevirtual 233, 3) := by decide +kernel
theorem dX6_leave_57 : decode cX6_leave 57 = .ok (.istore 5, 2) := by decide +kernel
theorem dX6_leave_59 : decode cX6_leave 59 = .ok (.iload 5, 2) := by decide +kernel
theorem dX6_leave_61 : decode cX6_leave 61 = .ok (.iload_n 2, 1) := by decide +kernel
theorem dX6_leave_62 : decode cX6_leave 62 = .ok (.if_icmp .le 8, 3) := by decide +kernel
theorem dX6_leave_65 : decode cX6_leave 65 = .ok (.iload 4, 2) := by decide +kernel
theorem dX6_leave_67 : decode cX6_leave 67 = .ok (.goto 4, 3) := by decide +kernel
theorem dX6_leave_70 : decode cX6_leave 70 = .ok (.iload_n 3, 1) := by decide +kernel
theorem dX6_leave_71 : decode cX6_leave 71 = .ok (.istore_n 3, 1) := by decide +kernel
theorem dX6_leave_72 : decode cX6_leave 72 = .ok (.iload 5, 2) := by decide +kernel
theorem dX6_leave_74 : decode cX6_leave 74 = .ok (.iload_n 2, 1) := by decide +kernel
theorem dX6_leave_75 : decode cX6_leave 75 = .ok (.if_icmp .le 8, 3) := by decide +kernel
theorem dX6_leave_78 : decode cX6_leave 78 = .ok (.iload 5, 2) := by decide +kernel
theorem dX6_leave_80 : decode cX6_leave 80 = .ok (.goto 4, 3) := by decide +kernel
theorem dX6_leave_83 : decode cX6_leave 83 = .ok (.iload_n 2, 1) := by decide +kernel
theorem dX6_leave_84 : decode cX6_leave 84 = .ok (.istore_n 2, 1) := by decide +kernel
theorem dX6_leave_85 : decode cX6_leave 85 = .ok (.iinc 4 1, 3) := by decide +kernel
theorem dX6_leave_88 : decode cX6_leave 88 = .ok (.goto (-56), 3) := by decide +kernel
theorem dX6_leave_91 : decode cX6_leave 91 = .ok (.iload_n 3, 1) := by decide +kernel
theorem dX6_leave_92 : decode cX6_leave 92 = .ok (.bipush (-4), 2) := by decide +kernel
theorem dX6_leave_94 : decode cX6_leave 94 = .ok (.if_icmp .eq 7, 3) := by decide +kernel
theorem dX6_leave_97 : decode cX6_leave 97 = .ok (.iload_n 1, 1) := by decide +kernel
theorem dX6_leave_98 : decode cX6_leave 98 = .ok (.ifCond .ne 7, 3) := by decide +kernel
theorem dX6_leave_101 : decode cX6_leave 101 = .ok (.iload_n 3, 1) := by decide +kernel
theorem dX6_leave_102 : decode cX6_leave 102 = .ok (.goto 4, 3) := by decide +kernel
theorem dX6_leave_105 : decode cX6_leave 105 = .ok (.iload_n 2, 1) := by decide +kernel
theorem dX6_leave_106 : decode cX6_leave 106 = .ok (.ireturn, 1) := by decide +kernel
theorem dX6_kindly_0 : decode cX6_kindly 0 = .ok (.aload_n 0, 1) := by decide +kernel
theorem dX6_kindly_1 : decode cX6_kindly 1 = .ok (.iload_n 1, 1) := by decide +kernel
theorem dX6_kindly_2 : decode cX6_kindly 2 = .ok (.invokevirtual 185, 3) := by decide +kernel
theorem dX6_kindly_5 : decode cX6_kindly 5 = .ok (.ifCond .eq 13, 3) := by decide +kernel
theorem dX6_kindly_8 : decode cX6_kindly 8 = .ok (.iload_n 2, 1) := by decide +kernel
theorem dX6_kindly_9 : decode cX6_kindly 9 = .ok (.i2l, 1) := by decide +kernel
theorem dX6_kindly_10 : decode cX6_kindly 10 = .ok (.lconst 0, 1) := by decide +kernel
theorem dX6_kindly_11 : decode cX6_kindly 11 = .ok (.lconst 1, 1) := by decide +kernel
theorem dX6_kindly_12 : decode cX6_kindly 12 = .ok (.invokestatic 49, 3) := by decide +kernel
theorem dX6_kindly_15 : decode cX6_kindly 15 = .ok (.ifCond .ne 5, 3) := by decide +kernel
theorem dX6_kindly_18 : decode cX6_kindly 18 = .ok (.iconst (-1), 1) := by decide +kernel
theorem dX6_kindly_19 : decode cX6_kindly 19 = .ok (.ireturn, 1) := by decide +kernel
theorem dX6_kindly_20 : decode cX6_kindly 20 = .ok (.iconst (-1), 1) := by decide +kernel
theorem dX6_kindly_21 : decode cX6_kindly 21 = .ok (.istore_n 3, 1) := by decide +kernel
theorem dX6_kindly_22 : decode cX6_kindly 22 = .ok (.iconst 0, 1) := by decide +kernel
theorem dX6_kindly_23 : decode cX6_kindly 23 = .ok (.istore 4, 2) := by decide +kernel
theorem dX6_kindly_25 : decode cX6_kindly 25 = .ok (.aload_n 0, 1) := by decide +kernel
theorem dX6_kindly_26 : decode cX6_kindly 26 = .ok (.iconst 0, 1) := by decide +kernel
theorem dX6_kindly_27 : decode cX6_kindly 27 = .ok (.sipush 260, 3) := by decide +kernel
theorem dX6_kindly_30 : decode cX6_kindly 30 = .ok (.invokevirtual 220, 3) := by decide +kernel
theorem dX6_kindly_33 : decode cX6_kindly 33 = .ok (.iconst 0, 1) := by decide +kernel
theorem dX6_kindly_34 : decode cX6_kindly 34 = .ok (.istore 5, 2) := by decide +kernel
theorem dX6_kindly_36 : decode cX6_kindly 36 = .ok (.iload 5, 2) := by decide +kernel
theorem dX6_kindly_38 : decode cX6_kindly 38 = .ok (.iconst 4, 1) := by decide +kernel
theorem dX6_kindly_39 : decode cX6_kindly 39 = .ok (.if_icmp .ge 58, 3) := by decide +kernel
theorem dX6_kindly_42 : decode cX6_kindly 42 = .ok (.aload_n 0, 1) := by decide +kernel
theorem dX6_kindly_43 : decode cX6_kindly 43 = .ok (.getfield 7, 3) := by decide +kernel
theorem dX6_kindly_46 : decode cX6_kindly 46 = .ok (.sipush 260, 3) := by decide +kernel
theorem dX6_kindly_49 : decode cX6_kindly 49 = .ok (.iload_n 1, 1) := by decide +kernel
theorem dX6_kindly_50 : decode cX6_kindly 50 = .ok (.iadd, 1) := by decide +kernel
theorem dX6_kindly_51 : decode cX6_kindly 51 = .ok (.iload 5, 2) := by decide +kernel
theorem dX6_kindly_53 : decode cX6_kindly 53 = .ok (.iastore, 1) := by decide +kernel
theorem dX6_kindly_54 : decode cX6_kindly 54 = .ok (.aload_n 0, 1) := by decide +kernel
theorem dX6_kindly_55 : decode cX6_kindly 55 = .ok (.sipush 260, 3) := by decide +kernel
theorem dX6_kindly_58 : decode cX6_kindly 58 = .ok (.invokevirtual 233, 3) := by decide +kernel
theorem dX6_kindly_61 : decode cX6_kindly 61 = .ok (.istore 6, 2) := by decide +kernel
theorem dX6_kindly_63 : decode cX6_kindly 63 = .ok (.iload 6, 2) := by decide +kernel
theorem dX6_kindly_65 : decode cX6_kindly 65 = .ok (.iload_n 3, 1) := by decide +kernel
theorem dX6_kindly_66 : decode cX6_kindly 66 = .ok (.if_icmp .le 8, 3) := by decide +kernel
theorem dX6_kindly_69 : decode cX6_kindly 69 = .ok (.iload 5, 2) := by decide +kernel
theorem dX6_kindly_71 : decode cX6_kindly 71 = .ok (.goto 5, 3) := by decide +kernel
theorem dX6_kindly_74 : decode cX6_kindly 74 = .ok (.iload 4, 2) := by decide +kernel
theorem dX6_kindly_76 : decode cX6_kindly 76 = .ok (.istore 4, 2) := by decide +kernel
theorem dX6_kindly_78 : decode cX6_kindly 78 = .ok (.iload 6, 2) := by decide +kernel
theorem dX6_kindly_80 : decode cX6_kindly 80 = .ok (.iload_n 3, 1) := by decide +kernel
theorem dX6_kindly_81 : decode cX6_kindly 81 = .ok (.if_icmp .le 8, 3) := by decide +kernel
theorem dX6_kindly_84 : decode cX6_kindly 84 = .ok (.iload 6, 2) := by decide +kernel
theorem dX6_kindly_86 : decode cX6_kindly 86 = .ok (.goto 4, 3) := by decide +kernel
theorem dX6_kindly_89 : decode cX6_kindly 89 = .ok (.iload_n 3, 1) := by decide +kernel
theorem dX6_kindly_90 : decode cX6_kindly 90 = .ok (.istore_n 3, 1) := by decide +kernel
theorem dX6_kindly_91 : decode cX6_kindly 91 = .ok (.iinc 5 1, 3) := by decide +kernel
theorem dX6_kindly_94 : decode cX6_kindly 94 = .ok (.goto (-58), 3) := by decide +kernel
theorem dX6_kindly_97 : decode cX6_kindly 97 = .ok (.iload_n 2, 1) := by decide +kernel
theorem dX6_kindly_98 : decode cX6_kindly 98 = .ok (.ifCond .ne 8, 3) := by decide +kernel
theorem dX6_kindly_101 : decode cX6_kindly 101 = .ok (.iload 4, 2) := by decide +kernel
theorem dX6_kindly_103 : decode cX6_kindly 103 = .ok (.goto 4, 3) := by decide +kernel
theorem dX6_kindly_106 : decode cX6_kindly 106 = .ok (.iload_n 3, 1) := by decide +kernel
theorem dX6_kindly_107 : decode cX6_kindly 107 = .ok (.ireturn, 1) := by decide +kernel
theorem dX6_dear_0 : decode cX6_dear 0 = .ok (.aload_n 0, 1) := by decide +kernel
theorem dX6_dear_1 : decode cX6_dear 1 = .ok (.iload_n 1, 1) := by decide +kernel
theorem dX6_dear_2 : decode cX6_dear 2 = .ok (.invokevirtual 185, 3) := by decide +kernel
theorem dX6_dear_5 : decode cX6_dear 5 = .ok (.ifCond .eq 13, 3) := by decide +kernel
theorem dX6_dear_8 : decode cX6_dear 8 = .ok (.iload_n 2, 1) := by decide +kernel
theorem dX6_dear_9 : decode cX6_dear 9 = .ok (.i2l, 1) := by decide +kernel
theorem dX6_dear_10 : decode cX6_dear 10 = .ok (.lconst 0, 1) := by decide +kernel
theorem dX6_dear_11 : decode cX6_dear 11 = .ok (.lconst 1, 1) := by decide +kernel
theorem dX6_dear_12 : decode cX6_dear 12 = .ok (.invokestatic 49, 3) := by decide +kernel
theorem dX6_dear_15 : decode cX6_dear 15 = .ok (.ifCond .ne 5, 3) := by decide +kernel
theorem dX6_dear_18 : decode cX6_dear 18 = .ok (.iconst (-1), 1) := by decide +kernel
theorem dX6_dear_19 : decode cX6_dear 19 = .ok (.ireturn, 1) := by decide +kernel
theorem dX6_dear_20 : decode cX6_dear 20 = .ok (.aload_n 0, 1) := by decide +kernel
theorem dX6_dear_21 : decode cX6_dear 21 = .ok (.iconst 0, 1) := by decide +kernel
theorem dX6_dear_22 : decode cX6_dear 22 = .ok (.iload_n 1, 1) := by decide +kernel
theorem dX6_dear_23 : decode cX6_dear 23 = .ok (.invokevirtual 189, 3) := by decide +kernel
theorem dX6_dear_26 : decode cX6_dear 26 = .ok (.istore_n 3, 1) := by decide +kernel
theorem dX6_dear_27 : decode cX6_dear 27 = .ok (.iconst 0, 1) := by decide +kernel
theorem dX6_dear_28 : decode cX6_dear 28 = .ok (.istore 4, 2) := by decide +kernel
theorem dX6_dear_30 : decode cX6_dear 30 = .ok (.bipush (-4), 2) := by decide +kernel
theorem dX6_dear_32 : decode cX6_dear 32 = .ok (.istore 5, 2) := by decide +kernel
theorem dX6_dear_34 : decode cX6_dear 34 = .ok (.iconst 0, 1) := by decide +kernel
theorem dX6_dear_35 : decode cX6_dear 35 = .ok (.istore 6, 2) := by decide +kernel
theorem dX6_dear_37 : decode cX6_dear 37 = .ok (.iload 6, 2) := by decide +kernel
theorem dX6_dear_39 : decode cX6_dear 39 = .ok (.aload_n 0, 1) := by decide +kernel
theorem dX6_dear_40 : decode cX6_dear 40 = .ok (.getfield 7, 3) := by decide +kernel
theorem dX6_dear_43 : decode cX6_dear 43 = .ok (.bipush 25, 2) := by decide +kernel
theorem dX6_dear_45 : decode cX6_dear 45 = .ok (.iaload, 1) := by decide +kernel
theorem dX6_dear_46 : decode cX6_dear 46 = .ok (.if_icmp .ge 71, 3) := by decide +kernel
theorem dX6_dear_49 : decode cX6_dear 49 = .ok (.aload_n 0, 1) := by decide +kernel
theorem dX6_dear_50 : decode cX6_dear 50 = .ok (.iconst 0, 1) := by decide +kernel
theorem dX6_dear_51 : decode cX6_dear 51 = .ok (.sipush 260, 3) := by decide +kernel
theorem dX6_dear_54 : decode cX6_dear 54 = .ok (.invokevirtual 220, 3) := by decide +kernel
theorem dX6_dear_57 : decode cX6_dear 57 = .ok (.aload_n 0, 1) := by decide +kernel
theorem dX6_dear_58 : decode cX6_dear 58 = .ok (.sipush 260, 3) := by decide +kernel
theorem dX6_dear_61 : decode cX6_dear 61 = .ok (.iload 6, 2) := by decide +kernel
theorem dX6_dear_63 : decode cX6_dear 63 = .ok (.invokevirtual 214, 3) := by decide +kernel
theorem dX6_dear_66 : decode cX6_dear 66 = .ok (.pop, 1) := by decide +kernel
theorem dX6_dear_67 : decode cX6_dear 67 = .ok (.iload_n 3, 1) := by decide +kernel
theorem dX6_dear_68 : decode cX6_dear 68 = .ok (.aload_n 0, 1) := by decide +kernel
theorem dX6_dear_69 : decode cX6_dear 69 = .ok (.sipush 260, 3) := by decide +kernel
theorem dX6_dear_72 : decode cX6_dear 72 = .ok (.iload_n 1, 1) := by decide +kernel
theorem dX6_dear_73 : decode cX6_dear 73 = .ok (.invokevirtual 189, 3) := by decide +kernel
theorem dX6_dear_76 : decode cX6_dear 76 = .ok (.isub, 1) := by decide +kernel
theorem dX6_dear_77 : decode cX6_dear 77 = .ok (.istore 7, 2) := by decide +kernel
theorem dX6_dear_79 : decode cX6_dear 79 = .ok (.iload 7, 2) := by decide +kernel
theorem dX6_dear_81 : decode cX6_dear 81 = .ok (.iload 4, 2) := by decide +kernel
theorem dX6_dear_83 : decode cX6_dear 83 = .ok (.if_icmp .le 8, 3) := by decide +kernel
theorem dX6_dear_86 : decode cX6_dear 86 = .ok (.iload 6, 2) := by decide +kernel
theorem dX6_dear_88 : decode cX6_dear 88 = .ok (.goto 5, 3) := by decide +kernel
theorem dX6_dear_91 : decode cX6_dear 91 = .ok (.iload 5, 2) := by decide +kernel
theorem dX6_dear_93 : decode cX6_dear 93 = .ok (.istore 5, 2) := by decide +kernel
theorem dX6_dear_95 : decode cX6_dear 95 = .ok (.iload 7, 2) := by decide +kernel
theorem dX6_dear_97 : decode cX6_dear 97 = .ok (.iload 4, 2) := by decide +kernel
theorem dX6_dear_99 : decode cX6_dear 99 = .ok (.if_icmp .le 8, 3) := by decide +kernel
theorem dX6_dear_102 : decode cX6_dear 102 = .ok (.iload 7, 2) := by decide +kernel
theorem dX6_dear_104 : decode cX6_dear 104 = .ok (.goto 5, 3) := by decide +kernel
theorem dX6_dear_107 : decode cX6_dear 107 = .ok (.iload 4, 2) := by decide +kernel
theorem dX6_dear_109 : decode cX6_dear 109 = .ok (.istore 4, 2) := by decide +kernel
theorem dX6_dear_111 : decode cX6_dear 111 = .ok (.iinc 6 1, 3) := by decide +kernel
theorem dX6_dear_114 : decode cX6_dear 114 = .ok (.goto (-77), 3) := by decide +kernel
theorem dX6_dear_117 : decode cX6_dear 117 = .ok (.iload 5, 2) := by decide +kernel
theorem dX6_dear_119 : decode cX6_dear 119 = .ok (.bipush (-4), 2) := by decide +kernel
theorem dX6_dear_121 : decode cX6_dear 121 = .ok (.if_icmp .eq 7, 3) := by decide +kernel
theorem dX6_dear_124 : decode cX6_dear 124 = .ok (.iload_n 2, 1) := by decide +kernel
theorem dX6_dear_125 : decode cX6_dear 125 = .ok (.ifCond .ne 8, 3) := by decide +kernel
theorem dX6_dear_128 : decode cX6_dear 128 = .ok (.iload 5, 2) := by decide +kernel
theorem dX6_dear_130 : decode cX6_dear 130 = .ok (.goto 5, 3) := by decide +kernel
theorem dX6_dear_133 : decode cX6_dear 133 = .ok (.iload 4, 2) := by decide +kernel
theorem dX6_dear_135 : decode cX6_dear 135 = .ok (.ireturn, 1) := by decide +kernel
theorem dX6_lowest_0 : decode cX6_lowest 0 = .ok (.lload_n 0, 1) := by decide +kernel
theorem dX6_lowest_1 : decode cX6_lowest 1 = .ok (.lstore 5, 2) := by decide +kernel
theorem dX6_lowest_3 : decode cX6_lowest 3 = .ok (.lload_n 2, 1) := by decide +kernel
theorem dX6_lowest_4 : decode cX6_lowest 4 = .ok (.lstore 7, 2) := by decide +kernel
theorem dX6_lowest_6 : decode cX6_lowest 6 = .ok (.lload 7, 2) := by decide +kernel
theorem dX6_lowest_8 : decode cX6_lowest 8 = .ok (.lconst 0, 1) := by decide +kernel
theorem dX6_lowest_9 : decode cX6_lowest 9 = .ok (.lcmp, 1) := by decide +kernel
theorem dX6_lowest_10 : decode cX6_lowest 10 = .ok (.ifCond .eq 21, 3) := by decide +kernel
theorem dX6_lowest_13 : decode cX6_lowest 13 = .ok (.lload 5, 2) := by decide +kernel
theorem dX6_lowest_15 : decode cX6_lowest 15 = .ok (.lload 7, 2) := by decide +kernel
theorem dX6_lowest_17 : decode cX6_lowest 17 = .ok (.lrem, 1) := by decide +kernel
theorem dX6_lowest_18 : decode cX6_lowest 18 = .ok (.lstore 9, 2) := by decide +kernel
theorem dX6_lowest_20 : decode cX6_lowest 20 = .ok (.lload 7, 2) := by decide +kernel
theorem dX6_lowest_22 : decode cX6_lowest 22 = .ok (.lstore 5, 2) := by decide +kernel
theorem dX6_lowest_24 : decode cX6_lowest 24 = .ok (.lload 9, 2) := by decide +kernel
theorem dX6_lowest_26 : decode cX6_lowest 26 = .ok (.lstore 7, 2) := by decide +kernel
theorem dX6_lowest_28 : decode cX6_lowest 28 = .ok (.goto (-22), 3) := by decide +kernel
theorem dX6_lowest_31 : decode cX6_lowest 31 = .ok (.iload 4, 2) := by decide +kernel
theorem dX6_lowest_33 : decode cX6_lowest 33 = .ok (.ifCond .ne 7, 3) := by decide +kernel
theorem dX6_lowest_36 : decode cX6_lowest 36 = .ok (.lload_n 0, 1) := by decide +kernel
theorem dX6_lowest_37 : decode cX6_lowest 37 = .ok (.goto 4, 3) := by decide +kernel
theorem dX6_lowest_40 : decode cX6_lowest 40 = .ok (.lload_n 2, 1) := by decide +kernel
theorem dX6_lowest_41 : decode cX6_lowest 41 = .ok (.lload 5, 2) := by decide +kernel
theorem dX6_lowest_43 : decode cX6_lowest 43 = .ok (.ldiv, 1) := by decide +kernel
theorem dX6_lowest_44 : decode cX6_lowest 44 = .ok (.lreturn, 1) := by decide +kernel
theorem dX6_byJams_0 : decode cX6_byJams 0 = .ok (.lconst 0, 1) := by decide +kernel
theorem dX6_byJams_1 : decode cX6_byJams 1 = .ok (.lstore 5, 2) := by decide +kernel
theorem dX6_byJams_3 : decode cX6_byJams 3 = .ok (.lconst 1, 1) := by decide +kernel
theorem dX6_byJams_4 : decode cX6_byJams 4 = .ok (.lstore 7, 2) := by decide +kernel
theorem dX6_byJams_6 : decode cX6_byJams 6 = .ok (.iconst 0, 1) := by decide +kernel
theorem dX6_byJams_7 : decode cX6_byJams 7 = .ok (.istore 9, 2) := by decide +kernel
theorem dX6_byJams_9 : decode cX6_byJams 9 = .ok (.iconst 0, 1) := by decide +kernel
theorem dX6_byJams_10 : decode cX6_byJams 10 = .ok (.istore 10, 2) := by decide +kernel
theorem dX6_byJams_12 : decode cX6_byJams 12 = .ok (.iload 10, 2) := by decide +kernel
theorem dX6_byJams_14 : decode cX6_byJams 14 = .ok (.aload_n 0, 1) := by decide +kernel
theorem dX6_byJams_15 : decode cX6_byJams 15 = .ok (.getfield 144, 3) := by decide +kernel
theorem dX6_byJams_18 : decode cX6_byJams 18 = .ok (.if_icmp .ge 60, 3) := by decide +kernel
theorem dX6_byJams_21 : decode cX6_byJams 21 = .ok (.iload 9, 2) := by decide +kernel
theorem dX6_byJams_23 : decode cX6_byJams 23 = .ok (.aload_n 0, 1) := by decide +kernel
theorem dX6_byJams_24 : decode cX6_byJams 24 = .ok (.getfield 7, 3) := by decide +kernel
theorem dX6_byJams_27 : decode cX6_byJams 27 = .ok (.bipush 15, 2) := by decide +kernel
theorem dX6_byJams_29 : decode cX6_byJams 29 = .ok (.iload 10, 2) := by decide +kernel
theorem dX6_byJams_31 : decode cX6_byJams 31 = .ok (.iadd, 1) := by decide +kernel
theorem dX6_byJams_32 : decode cX6_byJams 32 = .ok (.iaload, 1) := by decide +kernel
theorem dX6_byJams_33 : decode cX6_byJams 33 = .ok (.ifCond .le 10, 3) := by decide +kernel
theorem dX6_byJams_36 : decode cX6_byJams 36 = .ok (.iconst 1, 1) := by decide +kernel
theorem dX6_byJams_37 : decode cX6_byJams 37 = .ok (.iload 10, 2) := by decide +kernel
theorem dX6_byJams_39 : decode cX6_byJams 39 = .ok (.ishl, 1) := by decide +kernel
theorem dX6_byJams_40 : decode cX6_byJams 40 = .ok (.goto 4, 3) := by decide +kernel
theorem dX6_byJams_43 : decode cX6_byJams 43 = .ok (.iconst 0, 1) := by decide +kernel
theorem dX6_byJams_44 : decode cX6_byJams 44 = .ok (.ior, 1) := by decide +kernel
theorem dX6_byJams_45 : decode cX6_byJams 45 = .ok (.istore 9, 2) := by decide +kernel
theorem dX6_byJams_47 : decode cX6_byJams 47 = .ok (.lload 7, 2) := by decide +kernel
theorem dX6_byJams_49 : decode cX6_byJams 49 = .ok (.aload_n 0, 1) := by decide +kernel
theorem dX6_byJams_50 : decode cX6_byJams 50 = .ok (.getfield 7, 3) := by decide +kernel
theorem dX6_byJams_53 : decode cX6_byJams 53 = .ok (.bipush 15, 2) := by decide +kernel
theorem dX6_byJams_55 : decode cX6_byJams 55 = .ok (.iload 10, 2) := by decide +kernel
theorem dX6_byJams_57 : decode cX6_byJams 57 = .ok (.iadd, 1) := by decide +kernel
theorem dX6_byJams_58 : decode cX6_byJams 58 = .ok (.iaload, 1) := by decide +kernel
theorem dX6_byJams_59 : decode cX6_byJams 59 = .ok (.ifCond .le 9, 3) := by decide +kernel
theorem dX6_byJams_62 : decode cX6_byJams 62 = .ok (.ldc2_w 240, 3) := by decide +kernel
theorem dX6_byJams_65 : decode cX6_byJams 65 = .ok (.goto 4, 3) := by decide +kernel
theorem dX6_byJams_68 : decode cX6_byJams 68 = .ok (.lconst 1, 1) := by decide +kernel
theorem dX6_byJams_69 : decode cX6_byJams 69 = .ok (.lmul, 1) := by decide +kernel
theorem dX6_byJams_70 : decode cX6_byJams 70 = .ok (.lstore 7, 2) := by decide +kernel
theorem dX6_byJams_72 : decode cX6_byJams 72 = .ok (.iinc 10 1, 3) := by decide +kernel
theorem dX6_byJams_75 : decode cX6_byJams 75 = .ok (.goto (-63), 3) := by decide +kernel
theorem dX6_byJams_78 : decode cX6_byJams 78 = .ok (.iconst 0, 1) := by decide +kernel
theorem dX6_byJams_79 : decode cX6_byJams 79 = .ok (.istore 10, 2) := by decide +kernel
theorem dX6_byJams_81 : decode cX6_byJams 81 = .ok (.iload 10, 2) := by decide +kernel
theorem dX6_byJams_83 : decode cX6_byJams 83 = .ok (.bipush 32, 2) := by decide +kernel
theorem dX6_byJams_85 : decode cX6_byJams 85 = .ok (.if_icmp .ge 123, 3) := by decide +kernel
theorem dX6_byJams_88 : decode cX6_byJams 88 = .ok (.iload 10, 2) := by decide +kernel
theorem dX6_byJams_90 : decode cX6_byJams 90 = .ok (.iload 9, 2) := by decide +kernel
theorem dX6_byJams_92 : decode cX6_byJams 92 = .ok (.iconst (-1), 1) := by decide +kernel
theorem dX6_byJams_93 : decode cX6_byJams 93 = .ok (.ixor, 1) := by decide +kernel
theorem dX6_byJams_94 : decode cX6_byJams 94 = .ok (.iand, 1) := by decide +kernel
theorem dX6_byJams_95 : decode cX6_byJams 95 = .ok (.ifCond .ne 107, 3) := by decide +kernel
theorem dX6_byJams_98 : decode cX6_byJams 98 = .ok (.lconst 1, 1) := by decide +kernel
theorem dX6_byJams_99 : decode cX6_byJams 99 = .ok (.lstore 11, 2) := by decide +kernel
theorem dX6_byJams_101 : decode cX6_byJams 101 = .ok (.iconst 0, 1) := by decide +kernel
theorem dX6_byJams_102 : decode cX6_byJams 102 = .ok (.istore 13, 2) := by decide +kernel
theorem dX6_byJams_104 : decode cX6_byJams 104 = .ok (.iload 13, 2) := by decide +kernel
theorem dX6_byJams_106 : decode cX6_byJams 106 = .ok (.aload_n 0, 1) := by decide +kernel
theorem dX6_byJams_107 : decode cX6_byJams 107 = .ok (.getfield 144, 3) := by decide +kernel
theorem dX6_byJams_110 : decode cX6_byJams 110 = .ok (.if_icmp .ge 49, 3) := by decide +kernel
theorem dX6_byJams_113 : decode cX6_byJams 113 = .ok (.lload 11, 2) := by decide +kernel
theorem dX6_byJams_115 : decode cX6_byJams 115 = .ok (.iload 9, 2) := by decide +kernel
theorem dX6_byJams_117 : decode cX6_byJams 117 = .ok (.iload 13, 2) := by decide +kernel
theorem dX6_byJams_119 : decode cX6_byJams 119 = .ok (.ishr, 1) := by decide +kernel
theorem dX6_byJams_120 : decode cX6_byJams 120 = .ok (.iconst 1, 1) := by decide +kernel
theorem dX6_byJams_121 : decode cX6_byJams 121 = .ok (.iand, 1) := by decide +kernel
theorem dX6_byJams_122 : decode cX6_byJams 122 = .ok (.ifCond .ne 7, 3) := by decide +kernel
theorem dX6_byJams_125 : decode cX6_byJams 125 = .ok (.lconst 1, 1) := by decide +kernel
theorem dX6_byJams_126 : decode cX6_byJams 126 = .ok (.goto 24, 3) := by decide +kernel
theorem dX6_byJams_129 : decode cX6_byJams 129 = .ok (.iload 10, 2) := by decide +kernel
theorem dX6_byJams_131 : decode cX6_byJams 131 = .ok (.iload 13, 2) := by decide +kernel
theorem dX6_byJams_133 : decode cX6_byJams 133 = .ok (.ishr, 1) := by decide +kernel
theorem dX6_byJams_134 : decode cX6_byJams 134 = .ok (.iconst 1, 1) := by decide +kernel
theorem dX6_byJams_135 : decode cX6_byJams 135 = .ok (.iand, 1) := by decide +kernel
theorem dX6_byJams_136 : decode cX6_byJams 136 = .ok (.iconst 1, 1) := by decide +kernel
theorem dX6_byJams_137 : decode cX6_byJams 137 = .ok (.if_icmp .ne 8, 3) := by decide +kernel
theorem dX6_byJams_140 : decode cX6_byJams 140 = .ok (.iload_n 1, 1) := by decide +kernel
theorem dX6_byJams_141 : decode cX6_byJams 141 = .ok (.i2l, 1) := by decide +kernel
theorem dX6_byJams_142 : decode cX6_byJams 142 = .ok (.goto 8, 3) := by decide +kernel
theorem dX6_byJams_145 : decode cX6_byJams 145 = .ok (.bipush 10, 2) := by decide +kernel
theorem dX6_byJams_147 : decode cX6_byJams 147 = .ok (.iload_n 1, 1) := by decide +kernel
theorem dX6_byJams_148 : decode cX6_byJams 148 = .ok (.isub, 1) := by decide +kernel
theorem dX6_byJams_149 : decode cX6_byJams 149 = .ok (.i2l, 1) := by decide +kernel
theorem dX6_byJams_150 : decode cX6_byJams 150 = .ok (.lmul, 1) := by decide +kernel
theorem dX6_byJams_151 : decode cX6_byJams 151 = .ok (.lstore 11, 2) := by decide +kernel
theorem dX6_byJams_153 : decode cX6_byJams 153 = .ok (.iinc 13 1, 3) := by decide +kernel
theorem dX6_byJams_156 : decode cX6_byJams 156 = .ok (.goto (-52), 3) := by decide +kernel
theorem dX6_byJams_159 : decode cX6_byJams 159 = .ok (.aload_n 0, 1) := by decide +kernel
theorem dX6_byJams_160 : decode cX6_byJams 160 = .ok (.iload 10, 2) := by decide +kernel
theorem dX6_byJams_162 : decode cX6_byJams 162 = .ok (.putfield 156, 3) := by decide +kernel
theorem dX6_byJams_165 : decode cX6_byJams 165 = .ok (.aload_n 0, 1) := by decide +kernel
theorem dX6_byJams_166 : decode cX6_byJams 166 = .ok (.iconst 0, 1) := by decide +kernel
theorem dX6_byJams_167 : decode cX6_byJams 167 = .ok (.iload_n 2, 1) := by decide +kernel
theorem dX6_byJams_168 : decode cX6_byJams 168 = .ok (.invokevirtual 169, 3) := by decide +kernel
theorem dX6_byJams_171 : decode cX6_byJams 171 = .ok (.istore 13, 2) := by decide +kernel
theorem dX6_byJams_173 : decode cX6_byJams 173 = .ok (.lload 5, 2) := by decide +kernel
theorem dX6_byJams_175 : decode cX6_byJams 175 = .ok (.lload 11, 2) := by decide +kernel
theorem dX6_byJams_177 : decode cX6_byJams 177 = .ok (.iload_n 3, 1) := by decide +kernel
theorem dX6_byJams_178 : decode cX6_byJams 178 = .ok (.bipush (-4), 2) := by decide +kernel
theorem dX6_byJams_180 : decode cX6_byJams 180 = .ok (.if_icmp .ne 11, 3) := by decide +kernel
theorem dX6_byJams_183 : decode cX6_byJams 183 = .ok (.iload 13, 2) := by decide +kernel
theorem dX6_byJams_185 : decode cX6_byJams 185 = .ok (.invokestatic 172, 3) := by decide +kernel
theorem dX6_byJams_188 : decode cX6_byJams 188 = .ok (.goto 9, 3) := by decide +kernel
theorem dX6_byJams_191 : decode cX6_byJams 191 = .ok (.iload 13, 2) := by decide +kernel
theorem dX6_byJams_193 : decode cX6_byJams 193 = .ok (.iload_n 3, 1) := by decide +kernel
theorem dX6_byJams_194 : decode cX6_byJams 194 = .ok (.ishr, 1) := by decide +kernel
theorem dX6_byJams_195 : decode cX6_byJams 195 = .ok (.iconst 1, 1) := by decide +kernel
theorem dX6_byJams_196 : decode cX6_byJams 196 = .ok (.iand, 1) := by decide +kernel
theorem dX6_byJams_197 : decode cX6_byJams 197 = .ok (.i2l, 1) := by decide +kernel
theorem dX6_byJams_198 : decode cX6_byJams 198 = .ok (.lmul, 1) := by decide +kernel
theorem dX6_byJams_199 : decode cX6_byJams 199 = .ok (.ladd, 1) := by decide +kernel
theorem dX6_byJams_200 : decode cX6_byJams 200 = .ok (.lstore 5, 2) := by decide +kernel
theorem dX6_byJams_202 : decode cX6_byJams 202 = .ok (.iinc 10 1, 3) := by decide +kernel
theorem dX6_byJams_205 : decode cX6_byJams 205 = .ok (.goto (-124), 3) := by decide +kernel
theorem dX6_byJams_208 : decode cX6_byJams 208 = .ok (.aload_n 0, 1) := by decide +kernel
theorem dX6_byJams_209 : decode cX6_byJams 209 = .ok (.iconst 0, 1) := by decide +kernel
theorem dX6_byJams_210 : decode cX6_byJams 210 = .ok (.putfield 156, 3) := by decide +kernel
theorem dX6_byJams_213 : decode cX6_byJams 213 = .ok (.lload 5, 2) := by decide +kernel
theorem dX6_byJams_215 : decode cX6_byJams 215 = .ok (.lload 7, 2) := by decide +kernel
theorem dX6_byJams_217 : decode cX6_byJams 217 = .ok (.iload 4, 2) := by decide +kernel
theorem dX6_byJams_219 : decode cX6_byJams 219 = .ok (.invokestatic 242, 3) := by decide +kernel
theorem dX6_byJams_222 : decode cX6_byJams 222 = .ok (.lreturn, 1) := by decide +kernel
theorem dX6_luck_0 : decode cX6_luck 0 = .ok (.iload_n 1, 1) := by decide +kernel
theorem dX6_luck_1 : decode cX6_luck 1 = .ok (.i2l, 1) := by decide +kernel
theorem dX6_luck_2 : decode cX6_luck 2 = .ok (.lconst 0, 1) := by decide +kernel
theorem dX6_luck_3 : decode cX6_luck 3 = .ok (.ldc2_w 240, 3) := by decide +kernel
theorem dX6_luck_6 : decode cX6_luck 6 = .ok (.invokestatic 49, 3) := by decide +kernel
theorem dX6_luck_9 : decode cX6_luck 9 = .ok (.ifCond .eq 41, 3) := by decide +kernel
theorem dX6_luck_12 : decode cX6_luck 12 = .ok (.aload_n 0, 1) := by decide +kernel
theorem dX6_luck_13 : decode cX6_luck 13 = .ok (.iload_n 2, 1) := by decide +kernel
theorem dX6_luck_14 : decode cX6_luck 14 = .ok (.invokevirtual 185, 3) := by decide +kernel
theorem dX6_luck_17 : decode cX6_luck 17 = .ok (.ifCond .eq 33, 3) := by decide +kernel
theorem dX6_luck_20 : decode cX6_luck 20 = .ok (.iload_n 3, 1) := by decide +kernel
theorem dX6_luck_21 : decode cX6_luck 21 = .ok (.invokestatic 197, 3) := by decide +kernel
theorem dX6_luck_24 : decode cX6_luck 24 = .ok (.ifCond .eq 26, 3) := by decide +kernel
theorem dX6_luck_27 : decode cX6_luck 27 = .ok (.iload 4, 2) := by decide +kernel
theorem dX6_luck_29 : decode cX6_luck 29 = .ok (.i2l, 1) := by decide +kernel
theorem dX6_luck_30 : decode cX6_luck 30 = .ok (.lconst 0, 1) := by decide +kernel
theorem dX6_luck_31 : decode cX6_luck 31 = .ok (.lconst 1, 1) := by decide +kernel
theorem dX6_luck_32 : decode cX6_luck 32 = .ok (.invokestatic 49, 3) := by decide +kernel
theorem dX6_luck_35 : decode cX6_luck 35 = .ok (.ifCond .eq 15, 3) := by decide +kernel
theorem dX6_luck_38 : decode cX6_luck 38 = .ok (.aload_n 0, 1) := by decide +kernel
theorem dX6_luck_39 : decode cX6_luck 39 = .ok (.iload_n 1, 1) := by decide +kernel
theorem dX6_luck_40 : decode cX6_luck 40 = .ok (.iload_n 2, 1) := by decide +kernel
theorem dX6_luck_41 : decode cX6_luck 41 = .ok (.iload_n 3, 1) := by decide +kernel
theorem dX6_luck_42 : decode cX6_luck 42 = .ok (.iload 4, 2) := by decide +kernel
theorem dX6_luck_44 : decode cX6_luck 44 = .ok (.invokevirtual 246, 3) := by decide +kernel
theorem dX6_luck_47 : decode cX6_luck 47 = .ok (.goto 6, 3) := by decide +kernel
theorem dX6_luck_50 : decode cX6_luck 50 = .ok (.ldc2_w 250, 3) := by decide +kernel
theorem dX6_luck_53 : decode cX6_luck 53 = .ok (.lreturn, 1) := by decide +kernel
theorem dX6_mean_0 : decode cX6_mean 0 = .ok (.iload_n 1, 1) := by decide +kernel
theorem dX6_mean_1 : decode cX6_mean 1 = .ok (.i2l, 1) := by decide +kernel
theorem dX6_mean_2 : decode cX6_mean 2 = .ok (.lconst 0, 1) := by decide +kernel
theorem dX6_mean_3 : decode cX6_mean 3 = .ok (.ldc2_w 240, 3) := by decide +kernel
theorem dX6_mean_6 : decode cX6_mean 6 = .ok (.invokestatic 49, 3) := by decide +kernel
theorem dX6_mean_9 : decode cX6_mean 9 = .ok (.ifCond .eq 33, 3) := by decide +kernel
theorem dX6_mean_12 : decode cX6_mean 12 = .ok (.aload_n 0, 1) := by decide +kernel
theorem dX6_mean_13 : decode cX6_mean 13 = .ok (.iload_n 2, 1) := by decide +kernel
theorem dX6_mean_14 : decode cX6_mean 14 = .ok (.invokevirtual 185, 3) := by decide +kernel
theorem dX6_mean_17 : decode cX6_mean 17 = .ok (.ifCond .eq 25, 3) := by decide +kernel
theorem dX6_mean_20 : decode cX6_mean 20 = .ok (.iload_n 3, 1) := by decide +kernel
theorem dX6_mean_21 : decode cX6_mean 21 = .ok (.i2l, 1) := by decide +kernel
theorem dX6_mean_22 : decode cX6_mean 22 = .ok (.lconst 0, 1) := by decide +kernel
theorem dX6_mean_23 : decode cX6_mean 23 = .ok (.lconst 1, 1) := by decide +kernel
theorem dX6_mean_24 : decode cX6_mean 24 = .ok (.invokestatic 49, 3) := by decide +kernel
theorem dX6_mean_27 : decode cX6_mean 27 = .ok (.ifCond .eq 15, 3) := by decide +kernel
theorem dX6_mean_30 : decode cX6_mean 30 = .ok (.aload_n 0, 1) := by decide +kernel
theorem dX6_mean_31 : decode cX6_mean 31 = .ok (.iload_n 1, 1) := by decide +kernel
theorem dX6_mean_32 : decode cX6_mean 32 = .ok (.iload_n 2, 1) := by decide +kernel
theorem dX6_mean_33 : decode cX6_mean 33 = .ok (.bipush (-4), 2) := by decide +kernel
theorem dX6_mean_35 : decode cX6_mean 35 = .ok (.iload_n 3, 1) := by decide +kernel
theorem dX6_mean_36 : decode cX6_mean 36 = .ok (.invokevirtual 246, 3) := by decide +kernel
theorem dX6_mean_39 : decode cX6_mean 39 = .ok (.goto 6, 3) := by decide +kernel
theorem dX6_mean_42 : decode cX6_mean 42 = .ok (.ldc2_w 250, 3) := by decide +kernel
theorem dX6_mean_45 : decode cX6_mean 45 = .ok (.lreturn, 1) := by decide +kernel
theorem dX6_see_0 : decode cX6_see 0 = .ok (.aload_n 0, 1) := by decide +kernel
theorem dX6_see_1 : decode cX6_see 1 = .ok (.iload_n 1, 1) := by decide +kernel
theorem dX6_see_2 : decode cX6_see 2 = .ok (.invokevirtual 185, 3) := by decide +kernel
theorem dX6_see_5 : decode cX6_see 5 = .ok (.ifCond .eq 10, 3) := by decide +kernel
theorem dX6_see_8 : decode cX6_see 8 = .ok (.iload_n 2, 1) := by decide +kernel
theorem dX6_see_9 : decode cX6_see 9 = .ok (.invokestatic 197, 3) := by decide +kernel
theorem dX6_see_12 : decode cX6_see 12 = .ok (.ifCond .ne 5, 3) := by decide +kernel
theorem dX6_see_15 : decode cX6_see 15 = .ok (.iconst (-1), 1) := by decide +kernel
theorem dX6_see_16 : decode cX6_see 16 = .ok (.ireturn, 1) := by decide +kernel
theorem dX6_see_17 : decode cX6_see 17 = .ok (.aload_n 0, 1) := by decide +kernel
theorem dX6_see_18 : decode cX6_see 18 = .ok (.getfield 147, 3) := by decide +kernel
theorem dX6_see_21 : decode cX6_see 21 = .ok (.bipush 6, 2) := by decide +kernel
theorem dX6_see_23 : decode cX6_see 23 = .ok (.if_icmp .ne 6, 3) := by decide +kernel
theorem dX6_see_26 : decode cX6_see 26 = .ok (.bipush (-3), 2) := by decide +kernel
theorem dX6_see_28 : decode cX6_see 28 = .ok (.ireturn, 1) := by decide +kernel
theorem dX6_see_29 : decode cX6_see 29 = .ok (.aload_n 0, 1) := by decide +kernel
theorem dX6_see_30 : decode cX6_see 30 = .ok (.getfield 28, 3) := by decide +kernel
theorem dX6_see_33 : decode cX6_see 33 = .ok (.iconst 3, 1) := by decide +kernel
theorem dX6_see_34 : decode cX6_see 34 = .ok (.aload_n 0, 1) := by decide +kernel
theorem dX6_see_35 : decode cX6_see 35 = .ok (.getfield 147, 3) := by decide +kernel
theorem dX6_see_38 : decode cX6_see 38 = .ok (.imul, 1) := by decide +kernel
theorem dX6_see_39 : decode cX6_see 39 = .ok (.iload_n 1, 1) := by decide +kernel
theorem dX6_see_40 : decode cX6_see 40 = .ok (.iastore, 1) := by decide +kernel
theorem dX6_see_41 : decode cX6_see 41 = .ok (.aload_n 0, 1) := by decide +kernel
theorem dX6_see_42 : decode cX6_see 42 = .ok (.getfield 28, 3) := by decide +kernel
theorem dX6_see_45 : decode cX6_see 45 = .ok (.iconst 3, 1) := by decide +kernel
theorem dX6_see_46 : decode cX6_see 46 = .ok (.aload_n 0, 1) := by decide +kernel
theorem dX6_see_47 : decode cX6_see 47 = .ok (.getfield 147, 3) := by decide +kernel
theorem dX6_see_50 : decode cX6_see 50 = .ok (.imul, 1) := by decide +kernel
theorem dX6_see_51 : decode cX6_see 51 = .ok (.iconst 1, 1) := by decide +kernel
theorem dX6_see_52 : decode cX6_see 52 = .ok (.iadd, 1) := by decide +kernel
theorem dX6_see_53 : decode cX6_see 53 = .ok (.iload_n 2, 1) := by decide +kernel
theorem dX6_see_54 : decode cX6_see 54 = .ok (.iastore, 1) := by decide +kernel
theorem dX6_see_55 : decode cX6_see 55 = .ok (.aload_n 0, 1) := by decide +kernel
theorem dX6_see_56 : decode cX6_see 56 = .ok (.getfield 28, 3) := by decide +kernel
theorem dX6_see_59 : decode cX6_see 59 = .ok (.iconst 3, 1) := by decide +kernel
theorem dX6_see_60 : decode cX6_see 60 = .ok (.aload_n 0, 1) := by decide +kernel
theorem dX6_see_61 : decode cX6_see 61 = .ok (.getfield 147, 3) := by decide +kernel
theorem dX6_see_64 : decode cX6_see 64 = .ok (.imul, 1) := by decide +kernel
theorem dX6_see_65 : decode cX6_see 65 = .ok (.iconst 2, 1) := by decide +kernel
theorem dX6_see_66 : decode cX6_see 66 = .ok (.iadd, 1) := by decide +kernel
theorem dX6_see_67 : decode cX6_see 67 = .ok (.iload_n 3, 1) := by decide +kernel
theorem dX6_see_68 : decode cX6_see 68 = .ok (.ifCond .eq 7, 3) := by decide +kernel
theorem dX6_see_71 : decode cX6_see 71 = .ok (.iconst 1, 1) := by decide +kernel
theorem dX6_see_72 : decode cX6_see 72 = .ok (.goto 4, 3) := by decide +kernel
theorem dX6_see_75 : decode cX6_see 75 = .ok (.iconst 0, 1) := by decide +kernel
theorem dX6_see_76 : decode cX6_see 76 = .ok (.iastore, 1) := by decide +kernel
theorem dX6_see_77 : decode cX6_see 77 = .ok (.aload_n 0, 1) := by decide +kernel
theorem dX6_see_78 : decode cX6_see 78 = .ok (.dup, 1) := by decide +kernel
theorem dX6_see_79 : decode cX6_see 79 = .ok (.getfield 147, 3) := by decide +kernel
theorem dX6_see_82 : decode cX6_see 82 = .ok (.iconst 1, 1) := by decide +kernel
theorem dX6_see_83 : decode cX6_see 83 = .ok (.iadd, 1) := by decide +kernel
theorem dX6_see_84 : decode cX6_see 84 = .ok (.putfield 147, 3) := by decide +kernel
theorem dX6_see_87 : decode cX6_see 87 = .ok (.aload_n 0, 1) := by decide +kernel
theorem dX6_see_88 : decode cX6_see 88 = .ok (.getfield 147, 3) := by decide +kernel
theorem dX6_see_91 : decode cX6_see 91 = .ok (.ireturn, 1) := by decide +kernel
theorem dX6_forget_0 : decode cX6_forget 0 = .ok (.iload_n 1, 1) := by decide +kernel
theorem dX6_forget_1 : decode cX6_forget 1 = .ok (.i2l, 1) := by decide +kernel
theorem dX6_forget_2 : decode cX6_forget 2 = .ok (.lconst 0, 1) := by decide +kernel
theorem dX6_forget_3 : decode cX6_forget 3 = .ok (.aload_n 0, 1) := by decide +kernel
theorem dX6_forget_4 : decode cX6_forget 4 = .ok (.getfield 147, 3) := by decide +kernel
theorem dX6_forget_7 : decode cX6_forget 7 = .ok (.i2l, 1) := by decide +kernel
theorem dX6_forget_8 : decode cX6_forget 8 = .ok (.invokestatic 49, 3) := by decide +kernel
theorem dX6_forget_11 : decode cX6_forget 11 = .ok (.ifCond .ne 5, 3) := by decide +kernel
theorem dX6_forget_14 : decode cX6_forget 14 = .ok (.iconst (-1), 1) := by decide +kernel
theorem dX6_forget_15 : decode cX6_forget 15 = .ok (.ireturn, 1) := by decide +kernel
theorem dX6_forget_16 : decode cX6_forget 16 = .ok (.aload_n 0, 1) := by decide +kernel
theorem dX6_forget_17 : decode cX6_forget 17 = .ok (.getfield 147, 3) := by decide +kernel
theorem dX6_forget_20 : decode cX6_forget 20 = .ok (.istore_n 2, 1) := by decide +kernel
theorem dX6_forget_21 : decode cX6_forget 21 = .ok (.aload_n 0, 1) := by decide +kernel
theorem dX6_forget_22 : decode cX6_forget 22 = .ok (.iload_n 1, 1) := by decide +kernel
theorem dX6_forget_23 : decode cX6_forget 23 = .ok (.putfield 147, 3) := by decide +kernel
theorem dX6_forget_26 : decode cX6_forget 26 = .ok (.iload_n 2, 1) := by decide +kernel
theorem dX6_forget_27 : decode cX6_forget 27 = .ok (.ireturn, 1) := by decide +kernel
theorem dX6_isAsSeen_0 : decode cX6_isAsSeen 0 = .ok (.iconst 1, 1) := by decide +kernel
theorem dX6_isAsSeen_1 : decode cX6_isAsSeen 1 = .ok (.istore_n 2, 1) := by decide +kernel
theorem dX6_isAsSeen_2 : decode cX6_isAsSeen 2 = .ok (.iconst 0, 1) := by decide +kernel
theorem dX6_isAsSeen_3 : decode cX6_isAsSeen 3 = .ok (.istore_n 3, 1) := by decide +kernel
theorem dX6_isAsSeen_4 : decode cX6_isAsSeen 4 = .ok (.iload_n 3, 1) := by decide +kernel
theorem dX6_isAsSeen_5 : decode cX6_isAsSeen 5 = .ok (.aload_n 0, 1) := by decide +kernel
theorem dX6_isAsSeen_6 : decode cX6_isAsSeen 6 = .ok (.getfield 147, 3) := by decide +kernel
theorem dX6_isAsSeen_9 : decode cX6_isAsSeen 9 = .ok (.if_icmp .ge 58, 3) := by decide +kernel
theorem dX6_isAsSeen_12 : decode cX6_isAsSeen 12 = .ok (.iload_n 2, 1) := by decide +kernel
theorem dX6_isAsSeen_13 : decode cX6_isAsSeen 13 = .ok (.ifCond .eq 46, 3) := by decide +kernel
theorem dX6_isAsSeen_16 : decode cX6_isAsSeen 16 = .ok (.aload_n 0, 1) := by decide +kernel
theorem dX6_isAsSeen_17 : decode cX6_isAsSeen 17 = .ok (.iload_n 1, 1) := by decide +kernel
theorem dX6_isAsSeen_18 : decode cX6_isAsSeen 18 = .ok (.aload_n 0, 1) := by decide +kernel
theorem dX6_isAsSeen_19 : decode cX6_isAsSeen 19 = .ok (.getfield 28, 3) := by decide +kernel
theorem dX6_isAsSeen_22 : decode cX6_isAsSeen 22 = .ok (.iconst 3, 1) := by decide +kernel
theorem dX6_isAsSeen_23 : decode cX6_isAsSeen 23 = .ok (.iload_n 3, 1) := by decide +kernel
theorem dX6_isAsSeen_24 : decode cX6_isAsSeen 24 = .ok (.imul, 1) := by decide +kernel
theorem dX6_isAsSeen_25 : decode cX6_isAsSeen 25 = .ok (.iaload, 1) := by decide +kernel
theorem dX6_isAsSeen_26 : decode cX6_isAsSeen 26 = .ok (.invokevirtual 169, 3) := by decide +kernel
theorem dX6_isAsSeen_29 : decode cX6_isAsSeen 29 = .ok (.aload_n 0, 1) := by decide +kernel
theorem dX6_isAsSeen_30 : decode cX6_isAsSeen 30 = .ok (.getfield 28, 3) := by decide +kernel
theorem dX6_isAsSeen_33 : decode cX6_isAsSeen 33 = .ok (.iconst 3, 1) := by decide +kernel
theorem dX6_isAsSeen_34 : decode cX6_isAsSeen 34 = .ok (.iload_n 3, 1) := by decide +kernel
theorem dX6_isAsSeen_35 : decode cX6_isAsSeen 35 = .ok (.imul, 1) := by decide +kernel
theorem dX6_isAsSeen_36 : decode cX6_isAsSeen 36 = .ok (.iconst 1, 1) := by decide +kernel
theorem dX6_isAsSeen_37 : decode cX6_isAsSeen 37 = .ok (.iadd, 1) := by decide +kernel
theorem dX6_isAsSeen_38 : decode cX6_isAsSeen 38 = .ok (.iaload, 1) := by decide +kernel
theorem dX6_isAsSeen_39 : decode cX6_isAsSeen 39 = .ok (.ishr, 1) := by decide +kernel
theorem dX6_isAsSeen_40 : decode cX6_isAsSeen 40 = .ok (.iconst 1, 1) := by decide +kernel
theorem dX6_isAsSeen_41 : decode cX6_isAsSeen 41 = .ok (.iand, 1) := by decide +kernel
theorem dX6_isAsSeen_42 : decode cX6_isAsSeen 42 = .ok (.aload_n 0, 1) := by decide +kernel
theorem dX6_isAsSeen_43 : decode cX6_isAsSeen 43 = .ok (.getfield 28, 3) := by decide +kernel
theorem dX6_isAsSeen_46 : decode cX6_isAsSeen 46 = .ok (.iconst 3, 1) := by decide +kernel
theorem dX6_isAsSeen_47 : decode cX6_isAsSeen 47 = .ok (.iload_n 3, 1) := by decide +kernel
theorem dX6_isAsSeen_48 : decode cX6_isAsSeen 48 = .ok (.imul, 1) := by decide +kernel
theorem dX6_isAsSeen_49 : decode cX6_isAsSeen 49 = .ok (.iconst 2, 1) := by decide +kernel
theorem dX6_isAsSeen_50 : decode cX6_isAsSeen 50 = .ok (.iadd, 1) := by decide +kernel
theorem dX6_isAsSeen_51 : decode cX6_isAsSeen 51 = .ok (.iaload, 1) := by decide +kernel
theorem dX6_isAsSeen_52 : decode cX6_isAsSeen 52 = .ok (.if_icmp .ne 7, 3) := by decide +kernel
theorem dX6_isAsSeen_55 : decode cX6_isAsSeen 55 = .ok (.iconst 1, 1) := by decide +kernel
theorem dX6_isAsSeen_56 : decode cX6_isAsSeen 56 = .ok (.goto 4, 3) := by decide +kernel
theorem dX6_isAsSeen_59 : decode cX6_isAsSeen 59 = .ok (.iconst 0, 1) := by decide +kernel
theorem dX6_isAsSeen_60 : decode cX6_isAsSeen 60 = .ok (.istore_n 2, 1) := by decide +kernel
theorem dX6_isAsSeen_61 : decode cX6_isAsSeen 61 = .ok (.iinc 3 1, 3) := by decide +kernel
theorem dX6_isAsSeen_64 : decode cX6_isAsSeen 64 = .ok (.goto (-60), 3) := by decide +kernel
theorem dX6_isAsSeen_67 : decode cX6_isAsSeen 67 = .ok (.iload_n 2, 1) := by decide +kernel
theorem dX6_isAsSeen_68 : decode cX6_isAsSeen 68 = .ok (.ireturn, 1) := by decide +kernel
theorem dX6_kinds_0 : decode cX6_kinds 0 = .ok (.aload_n 0, 1) := by decide +kernel
theorem dX6_kinds_1 : decode cX6_kinds 1 = .ok (.iload_n 1, 1) := by decide +kernel
theorem dX6_kinds_2 : decode cX6_kinds 2 = .ok (.invokevirtual 185, 3) := by decide +kernel
theorem dX6_kinds_5 : decode cX6_kinds 5 = .ok (.ifCond .ne 5, 3) := by decide +kernel
theorem dX6_kinds_8 : decode cX6_kinds 8 = .ok (.iconst (-1), 1) := by decide +kernel
theorem dX6_kinds_9 : decode cX6_kinds 9 = .ok (.ireturn, 1) := by decide +kernel
theorem dX6_kinds_10 : decode cX6_kinds 10 = .ok (.iconst 0, 1) := by decide +kernel
theorem dX6_kinds_11 : decode cX6_kinds 11 = .ok (.istore_n 2, 1) := by decide +kernel
theorem dX6_kinds_12 : decode cX6_kinds 12 = .ok (.aload_n 0, 1) := by decide +kernel
theorem dX6_kinds_13 : decode cX6_kinds 13 = .ok (.iconst 0, 1) := by decide +kernel
theorem dX6_kinds_14 : decode cX6_kinds 14 = .ok (.sipush 260, 3) := by decide +kernel
theorem dX6_kinds_17 : decode cX6_kinds 17 = .ok (.invokevirtual 220, 3) := by decide +kernel
theorem dX6_kinds_20 : decode cX6_kinds 20 = .ok (.iconst 0, 1) := by decide +kernel
theorem dX6_kinds_21 : decode cX6_kinds 21 = .ok (.istore_n 3, 1) := by decide +kernel
theorem dX6_kinds_22 : decode cX6_kinds 22 = .ok (.iload_n 3, 1) := by decide +kernel
theorem dX6_kinds_23 : decode cX6_kinds 23 = .ok (.iconst 4, 1) := by decide +kernel
theorem dX6_kinds_24 : decode cX6_kinds 24 = .ok (.if_icmp .ge 40, 3) := by decide +kernel
theorem dX6_kinds_27 : decode cX6_kinds 27 = .ok (.aload_n 0, 1) := by decide +kernel
theorem dX6_kinds_28 : decode cX6_kinds 28 = .ok (.getfield 7, 3) := by decide +kernel
theorem dX6_kinds_31 : decode cX6_kinds 31 = .ok (.sipush 260, 3) := by decide +kernel
theorem dX6_kinds_34 : decode cX6_kinds 34 = .ok (.iload_n 1, 1) := by decide +kernel
theorem dX6_kinds_35 : decode cX6_kinds 35 = .ok (.iadd, 1) := by decide +kernel
theorem dX6_kinds_36 : decode cX6_kinds 36 = .ok (.iload_n 3, 1) := by decide +kernel
theorem dX6_kinds_37 : decode cX6_kinds 37 = .ok (.iastore, 1) := by decide +kernel
theorem dX6_kinds_38 : decode cX6_kinds 38 = .ok (.iload_n 2, 1) := by decide +kernel
theorem dX6_kinds_39 : decode cX6_kinds 39 = .ok (.aload_n 0, 1) := by decide +kernel
theorem dX6_kinds_40 : decode cX6_kinds 40 = .ok (.sipush 260, 3) := by decide +kernel
theorem dX6_kinds_43 : decode cX6_kinds 43 = .ok (.invokevirtual 252, 3) := by decide +kernel
theorem dX6_kinds_46 : decode cX6_kinds 46 = .ok (.ifCond .eq 9, 3) := by decide +kernel
theorem dX6_kinds_49 : decode cX6_kinds 49 = .ok (.iconst 1, 1) := by decide +kernel
theorem dX6_kinds_50 : decode cX6_kinds 50 = .ok (.iload_n 3, 1) := by decide +kernel
theorem dX6_kinds_51 : decode cX6_kinds 51 = .ok (.ishl, 1) := by decide +kernel
theorem dX6_kinds_52 : decode cX6_kinds 52 = .ok (.goto 4, 3) := by decide +kernel
theorem dX6_kinds_55 : decode cX6_kinds 55 = .ok (.iconst 0, 1) := by decide +kernel
theorem dX6_kinds_56 : decode cX6_kinds 56 = .ok (.ior, 1) := by decide +kernel
theorem dX6_kinds_57 : decode cX6_kinds 57 = .ok (.istore_n 2, 1) := by decide +kernel
theorem dX6_kinds_58 : decode cX6_kinds 58 = .ok (.iinc 3 1, 3) := by decide +kernel
theorem dX6_kinds_61 : decode cX6_kinds 61 = .ok (.goto (-39), 3) := by decide +kernel
theorem dX6_kinds_64 : decode cX6_kinds 64 = .ok (.iload_n 2, 1) := by decide +kernel
theorem dX6_kinds_65 : decode cX6_kinds 65 = .ok (.ireturn, 1) := by decide +kernel
theorem dX6_wallsOf_0 : decode cX6_wallsOf 0 = .ok (.iconst 0, 1) := by decide +kernel
theorem dX6_wallsOf_1 : decode cX6_wallsOf 1 = .ok (.istore_n 2, 1) := by decide +kernel
theorem dX6_wallsOf_2 : decode cX6_wallsOf 2 = .ok (.aload_n 0, 1) := by decide +kernel
theorem dX6_wallsOf_3 : decode cX6_wallsOf 3 = .ok (.iconst 0, 1) := by decide +kernel
theorem dX6_wallsOf_4 : decode cX6_wallsOf 4 = .ok (.sipush 260, 3) := by decide +kernel
theorem dX6_wallsOf_7 : decode cX6_wallsOf 7 = .ok (.invokevirtual 220, 3) := by decide +kernel
theorem dX6_wallsOf_10 : decode cX6_wallsOf 10 = .ok (.iconst 0, 1) := by decide +kernel
theorem dX6_wallsOf_11 : decode cX6_wallsOf 11 = .ok (.istore_n 3, 1) := by decide +kernel
theorem dX6_wallsOf_12 : decode cX6_wallsOf 12 = .ok (.iload_n 3, 1) := by decide +kernel
theorem dX6_wallsOf_13 : decode cX6_wallsOf 13 = .ok (.aload_n 0, 1) := by decide +kernel
theorem dX6_wallsOf_14 : decode cX6_wallsOf 14 = .ok (.getfield 7, 3) := by decide +kernel
theorem dX6_wallsOf_17 : decode cX6_wallsOf 17 = .ok (.bipush 25, 2) := by decide +kernel
theorem dX6_wallsOf_19 : decode cX6_wallsOf 19 = .ok (.iaload, 1) := by decide +kernel
theorem dX6_wallsOf_20 : decode cX6_wallsOf 20 = .ok (.if_icmp .ge 101, 3) := by decide +kernel
theorem dX6_wallsOf_23 : decode cX6_wallsOf 23 = .ok (.aload_n 0, 1) := by decide +kernel
theorem dX6_wallsOf_24 : decode cX6_wallsOf 24 = .ok (.iconst 0, 1) := by decide +kernel
theorem dX6_wallsOf_25 : decode cX6_wallsOf 25 = .ok (.iload_n 3, 1) := by decide +kernel
theorem dX6_wallsOf_26 : decode cX6_wallsOf 26 = .ok (.invokevirtual 152, 3) := by decide +kernel
theorem dX6_wallsOf_29 : decode cX6_wallsOf 29 = .ok (.istore 4, 2) := by decide +kernel
theorem dX6_wallsOf_31 : decode cX6_wallsOf 31 = .ok (.iload 4, 2) := by decide +kernel
theorem dX6_wallsOf_33 : decode cX6_wallsOf 33 = .ok (.bipush (-4), 2) := by decide +kernel
theorem dX6_wallsOf_35 : decode cX6_wallsOf 35 = .ok (.if_icmp .eq 9, 3) := by decide +kernel
theorem dX6_wallsOf_38 : decode cX6_wallsOf 38 = .ok (.iload 4, 2) := by decide +kernel
theorem dX6_wallsOf_40 : decode cX6_wallsOf 40 = .ok (.iload_n 1, 1) := by decide +kernel
theorem dX6_wallsOf_41 : decode cX6_wallsOf 41 = .ok (.if_icmp .ne 74, 3) := by decide +kernel
theorem dX6_wallsOf_44 : decode cX6_wallsOf 44 = .ok (.aload_n 0, 1) := by decide +kernel
theorem dX6_wallsOf_45 : decode cX6_wallsOf 45 = .ok (.getfield 7, 3) := by decide +kernel
theorem dX6_wallsOf_48 : decode cX6_wallsOf 48 = .ok (.sipush 275, 3) := by decide +kernel
theorem dX6_wallsOf_51 : decode cX6_wallsOf 51 = .ok (.iload_n 1, 1) := by decide +kernel
theorem dX6_wallsOf_52 : decode cX6_wallsOf 52 = .ok (.iadd, 1) := by decide +kernel
theorem dX6_wallsOf_53 : decode cX6_wallsOf 53 = .ok (.iload_n 3, 1) := by decide +kernel
theorem dX6_wallsOf_54 : decode cX6_wallsOf 54 = .ok (.iconst 1, 1) := by decide +kernel
theorem dX6_wallsOf_55 : decode cX6_wallsOf 55 = .ok (.iadd, 1) := by decide +kernel
theorem dX6_wallsOf_56 : decode cX6_wallsOf 56 = .ok (.iastore, 1) := by decide +kernel
theorem dX6_wallsOf_57 : decode cX6_wallsOf 57 = .ok (.iload_n 2, 1) := by decide +kernel
theorem dX6_wallsOf_58 : decode cX6_wallsOf 58 = .ok (.aload_n 0, 1) := by decide +kernel
theorem dX6_wallsOf_59 : decode cX6_wallsOf 59 = .ok (.sipush 260, 3) := by decide +kernel
theorem dX6_wallsOf_62 : decode cX6_wallsOf 62 = .ok (.invokevirtual 252, 3) := by decide +kernel
theorem dX6_wallsOf_65 : decode cX6_wallsOf 65 = .ok (.ifCond .eq 9, 3) := by decide +kernel
theorem dX6_wallsOf_68 : decode cX6_wallsOf 68 = .ok (.iconst 1, 1) := by decide +kernel
theorem dX6_wallsOf_69 : decode cX6_wallsOf 69 = .ok (.iload_n 3, 1) := by decide +kernel
theorem dX6_wallsOf_70 : decode cX6_wallsOf 70 = .ok (.ishl, 1) := by decide +kernel
theorem dX6_wallsOf_71 : decode cX6_wallsOf 71 = .ok (.goto 4, 3) := by decide +kernel
theorem dX6_wallsOf_74 : decode cX6_wallsOf 74 = .ok (.iconst 0, 1) := by decide +kernel
theorem dX6_wallsOf_75 : decode cX6_wallsOf 75 = .ok (.ior, 1) := by decide +kernel
theorem dX6_wallsOf_76 : decode cX6_wallsOf 76 = .ok (.istore_n 2, 1) := by decide +kernel
theorem dX6_wallsOf_77 : decode cX6_wallsOf 77 = .ok (.iconst 0, 1) := by decide +kernel
theorem dX6_wallsOf_78 : decode cX6_wallsOf 78 = .ok (.istore 5, 2) := by decide +kernel
theorem dX6_wallsOf_80 : decode cX6_wallsOf 80 = .ok (.iload 5, 2) := by decide +kernel
theorem dX6_wallsOf_82 : decode cX6_wallsOf 82 = .ok (.aload_n 0, 1) := by decide +kernel
theorem dX6_wallsOf_83 : decode cX6_wallsOf 83 = .ok (.getfield 144, 3) := by decide +kernel
theorem dX6_wallsOf_86 : decode cX6_wallsOf 86 = .ok (.if_icmp .ge 29, 3) := by decide +kernel
theorem dX6_wallsOf_89 : decode cX6_wallsOf 89 = .ok (.aload_n 0, 1) := by decide +kernel
theorem dX6_wallsOf_90 : decode cX6_wallsOf 90 = .ok (.getfield 31, 3) := by decide +kernel
theorem dX6_wallsOf_93 : decode cX6_wallsOf 93 = .ok (.iconst 5, 1) := by decide +kernel
theorem dX6_wallsOf_94 : decode cX6_wallsOf 94 = .ok (.iload_n 3, 1) := by decide +kernel
theorem dX6_wallsOf_95 : decode cX6_wallsOf 95 = .ok (.imul, 1) := by decide +kernel
theorem dX6_wallsOf_96 : decode cX6_wallsOf 96 = .ok (.iload 5, 2) := by decide +kernel
theorem dX6_wallsOf_98 : decode cX6_wallsOf 98 = .ok (.iadd, 1) := by decide +kernel
theorem dX6_wallsOf_99 : decode cX6_wallsOf 99 = .ok (.aload_n 0, 1) := by decide +kernel
theorem dX6_wallsOf_100 : decode cX6_wallsOf 100 = .ok (.sipush 260, 3) := by decide +kernel
theorem dX6_wallsOf_103 : decode cX6_wallsOf 103 = .ok (.iload 5, 2) := by decide +kernel
theorem dX6_wallsOf_105 : decode cX6_wallsOf 105 = .ok (.invokevirtual 169, 3) := by decide +kernel
theorem dX6_wallsOf_108 : decode cX6_wallsOf 108 = .ok (.iastore, 1) := by decide +kernel
theorem dX6_wallsOf_109 : decode cX6_wallsOf 109 = .ok (.iinc 5 1, 3) := by decide +kernel
theorem dX6_wallsOf_112 : decode cX6_wallsOf 112 = .ok (.goto (-32), 3) := by decide +kernel
theorem dX6_wallsOf_115 : decode cX6_wallsOf 115 = .ok (.iinc 3 1, 3) := by decide +kernel
theorem dX6_wallsOf_118 : decode cX6_wallsOf 118 = .ok (.goto (-106), 3) := by decide +kernel
theorem dX6_wallsOf_121 : decode cX6_wallsOf 121 = .ok (.iload_n 2, 1) := by decide +kernel
theorem dX6_wallsOf_122 : decode cX6_wallsOf 122 = .ok (.ireturn, 1) := by decide +kernel
theorem dX6_walls_0 : decode cX6_walls 0 = .ok (.aload_n 0, 1) := by decide +kernel
theorem dX6_walls_1 : decode cX6_walls 1 = .ok (.iload_n 1, 1) := by decide +kernel
theorem dX6_walls_2 : decode cX6_walls 2 = .ok (.invokevirtual 185, 3) := by decide +kernel
theorem dX6_walls_5 : decode cX6_walls 5 = .ok (.ifCond .eq 11, 3) := by decide +kernel
theorem dX6_walls_8 : decode cX6_walls 8 = .ok (.aload_n 0, 1) := by decide +kernel
theorem dX6_walls_9 : decode cX6_walls 9 = .ok (.iload_n 1, 1) := by decide +kernel
theorem dX6_walls_10 : decode cX6_walls 10 = .ok (.invokevirtual 255, 3) := by decide +kernel
theorem dX6_walls_13 : decode cX6_walls 13 = .ok (.goto 4, 3) := by decide +kernel
theorem dX6_walls_16 : decode cX6_walls 16 = .ok (.iconst (-1), 1) := by decide +kernel
theorem dX6_walls_17 : decode cX6_walls 17 = .ok (.ireturn, 1) := by decide +kernel
theorem dX6_ask_0 : decode cX6_ask 0 = .ok (.aload_n 0, 1) := by decide +kernel
theorem dX6_ask_1 : decode cX6_ask 1 = .ok (.iload_n 1, 1) := by decide +kernel
theorem dX6_ask_2 : decode cX6_ask 2 = .ok (.invokevirtual 185, 3) := by decide +kernel
theorem dX6_ask_5 : decode cX6_ask 5 = .ok (.ifCond .eq 13, 3) := by decide +kernel
theorem dX6_ask_8 : decode cX6_ask 8 = .ok (.iload_n 2, 1) := by decide +kernel
theorem dX6_ask_9 : decode cX6_ask 9 = .ok (.i2l, 1) := by decide +kernel
theorem dX6_ask_10 : decode cX6_ask 10 = .ok (.lconst 0, 1) := by decide +kernel
theorem dX6_ask_11 : decode cX6_ask 11 = .ok (.lconst 1, 1) := by decide +kernel
theorem dX6_ask_12 : decode cX6_ask 12 = .ok (.invokestatic 49, 3) := by decide +kernel
theorem dX6_ask_15 : decode cX6_ask 15 = .ok (.ifCond .ne 5, 3) := by decide +kernel
theorem dX6_ask_18 : decode cX6_ask 18 = .ok (.iconst (-1), 1) := by decide +kernel
theorem dX6_ask_19 : decode cX6_ask 19 = .ok (.ireturn, 1) := by decide +kernel
theorem dX6_ask_20 : decode cX6_ask 20 = .ok (.aload_n 0, 1) := by decide +kernel
theorem dX6_ask_21 : decode cX6_ask 21 = .ok (.iload_n 1, 1) := by decide +kernel
theorem dX6_ask_22 : decode cX6_ask 22 = .ok (.invokevirtual 255, 3) := by decide +kernel
theorem dX6_ask_25 : decode cX6_ask 25 = .ok (.istore_n 3, 1) := by decide +kernel
theorem dX6_ask_26 : decode cX6_ask 26 = .ok (.iload_n 3, 1) := by decide +kernel
theorem dX6_ask_27 : decode cX6_ask 27 = .ok (.invokestatic 172, 3) := by decide +kernel
theorem dX6_ask_30 : decode cX6_ask 30 = .ok (.istore 4, 2) := by decide +kernel
theorem dX6_ask_32 : decode cX6_ask 32 = .ok (.iload 4, 2) := by decide +kernel
theorem dX6_ask_34 : decode cX6_ask 34 = .ok (.istore 5, 2) := by decide +kernel
theorem dX6_ask_36 : decode cX6_ask 36 = .ok (.bipush (-4), 2) := by decide +kernel
theorem dX6_ask_38 : decode cX6_ask 38 = .ok (.istore 6, 2) := by decide +kernel
theorem dX6_ask_40 : decode cX6_ask 40 = .ok (.iconst 0, 1) := by decide +kernel
theorem dX6_ask_41 : decode cX6_ask 41 = .ok (.istore 7, 2) := by decide +kernel
theorem dX6_ask_43 : decode cX6_ask 43 = .ok (.iload 7, 2) := by decide +kernel
theorem dX6_ask_45 : decode cX6_ask 45 = .ok (.aload_n 0, 1) := by decide +kernel
theorem dX6_ask_46 : decode cX6_ask 46 = .ok (.getfield 144, 3) := by decide +kernel
theorem dX6_ask_49 : decode cX6_ask 49 = .ok (.if_icmp .ge 145, 3) := by decide +kernel
theorem dX6_ask_52 : decode cX6_ask 52 = .ok (.iconst 0, 1) := by decide +kernel
theorem dX6_ask_53 : decode cX6_ask 53 = .ok (.istore 8, 2) := by decide +kernel
theorem dX6_ask_55 : decode cX6_ask 55 = .ok (.iload 8, 2) := by decide +kernel
theorem dX6_ask_57 : decode cX6_ask 57 = .ok (.bipush 8, 2) := by decide +kernel
theorem dX6_ask_59 : decode cX6_ask 59 = .ok (.if_icmp .ge 129, 3) := by decide +kernel
theorem dX6_ask_62 : decode cX6_ask 62 = .ok (.iconst 0, 1) := by decide +kernel
theorem dX6_ask_63 : decode cX6_ask 63 = .ok (.istore 9, 2) := by decide +kernel
theorem dX6_ask_65 : decode cX6_ask 65 = .ok (.iconst 0, 1) := by decide +kernel
theorem dX6_ask_66 : decode cX6_ask 66 = .ok (.istore 10, 2) := by decide +kernel
theorem dX6_ask_68 : decode cX6_ask 68 = .ok (.iload 10, 2) := by decide +kernel
theorem dX6_ask_70 : decode cX6_ask 70 = .ok (.aload_n 0, 1) := by decide +kernel
theorem dX6_ask_71 : decode cX6_ask 71 = .ok (.getfield 7, 3) := by decide +kernel
theorem dX6_ask_74 : decode cX6_ask 74 = .ok (.bipush 25, 2) := by decide +kernel
theorem dX6_ask_76 : decode cX6_ask 76 = .ok (.iaload, 1) := by decide +kernel
theorem dX6_ask_77 : decode cX6_ask 77 = .ok (.if_icmp .ge 45, 3) := by decide +kernel
theorem dX6_ask_80 : decode cX6_ask 80 = .ok (.iload 9, 2) := by decide +kernel
theorem dX6_ask_82 : decode cX6_ask 82 = .ok (.iload_n 3, 1) := by decide +kernel
theorem dX6_ask_83 : decode cX6_ask 83 = .ok (.iload 10, 2) := by decide +kernel
theorem dX6_ask_85 : decode cX6_ask 85 = .ok (.ishr, 1) := by decide +kernel
theorem dX6_ask_86 : decode cX6_ask 86 = .ok (.iconst 1, 1) := by decide +kernel
theorem dX6_ask_87 : decode cX6_ask 87 = .ok (.iand, 1) := by decide +kernel
theorem dX6_ask_88 : decode cX6_ask 88 = .ok (.iconst 1, 1) := by decide +kernel
theorem dX6_ask_89 : decode cX6_ask 89 = .ok (.if_icmp .ne 23, 3) := by decide +kernel
theorem dX6_ask_92 : decode cX6_ask 92 = .ok (.aload_n 0, 1) := by decide +kernel
theorem dX6_ask_93 : decode cX6_ask 93 = .ok (.getfield 31, 3) := by decide +kernel
theorem dX6_ask_96 : decode cX6_ask 96 = .ok (.iconst 5, 1) := by decide +kernel
theorem dX6_ask_97 : decode cX6_ask 97 = .ok (.iload 10, 2) := by decide +kernel
theorem dX6_ask_99 : decode cX6_ask 99 = .ok (.imul, 1) := by decide +kernel
theorem dX6_ask_100 : decode cX6_ask 100 = .ok (.iload 7, 2) := by decide +kernel
theorem dX6_ask_102 : decode cX6_ask 102 = .ok (.iadd, 1) := by decide +kernel
theorem dX6_ask_103 : decode cX6_ask 103 = .ok (.iaload, 1) := by decide +kernel
theorem dX6_ask_104 : decode cX6_ask 104 = .ok (.iload 8, 2) := by decide +kernel
theorem dX6_ask_106 : decode cX6_ask 106 = .ok (.ishr, 1) := by decide +kernel
theorem dX6_ask_107 : decode cX6_ask 107 = .ok (.iconst 1, 1) := by decide +kernel
theorem dX6_ask_108 : decode cX6_ask 108 = .ok (.iand, 1) := by decide +kernel
theorem dX6_ask_109 : decode cX6_ask 109 = .ok (.goto 4, 3) := by decide +kernel
theorem dX6_ask_112 : decode cX6_ask 112 = .ok (.iconst 0, 1) := by decide +kernel
theorem dX6_ask_113 : decode cX6_ask 113 = .ok (.iadd, 1) := by decide +kernel
theorem dX6_ask_114 : decode cX6_ask 114 = .ok (.istore 9, 2) := by decide +kernel
theorem dX6_ask_116 : decode cX6_ask 116 = .ok (.iinc 10 1, 3) := by decide +kernel
theorem dX6_ask_119 : decode cX6_ask 119 = .ok (.goto (-51), 3) := by decide +kernel
theorem dX6_ask_122 : decode cX6_ask 122 = .ok (.iload 9, 2) := by decide +kernel
theorem dX6_ask_124 : decode cX6_ask 124 = .ok (.iload 4, 2) := by decide +kernel
theorem dX6_ask_126 : decode cX6_ask 126 = .ok (.iload 9, 2) := by decide +kernel
theorem dX6_ask_128 : decode cX6_ask 128 = .ok (.isub, 1) := by decide +kernel
theorem dX6_ask_129 : decode cX6_ask 129 = .ok (.if_icmp .le 8, 3) := by decide +kernel
theorem dX6_ask_132 : decode cX6_ask 132 = .ok (.iload 9, 2) := by decide +kernel
theorem dX6_ask_134 : decode cX6_ask 134 = .ok (.goto 8, 3) := by decide +kernel
theorem dX6_ask_137 : decode cX6_ask 137 = .ok (.iload 4, 2) := by decide +kernel
theorem dX6_ask_139 : decode cX6_ask 139 = .ok (.iload 9, 2) := by decide +kernel
theorem dX6_ask_141 : decode cX6_ask 141 = .ok (.isub, 1) := by decide +kernel
theorem dX6_ask_142 : decode cX6_ask 142 = .ok (.istore 10, 2) := by decide +kernel
theorem dX6_ask_144 : decode cX6_ask 144 = .ok (.iload 10, 2) := by decide +kernel
theorem dX6_ask_146 : decode cX6_ask 146 = .ok (.iload 5, 2) := by decide +kernel
theorem dX6_ask_148 : decode cX6_ask 148 = .ok (.if_icmp .ge 14, 3) := by decide +kernel
theorem dX6_ask_151 : decode cX6_ask 151 = .ok (.bipush 10, 2) := by decide +kernel
theorem dX6_ask_153 : decode cX6_ask 153 = .ok (.iload 7, 2) := by decide +kernel
theorem dX6_ask_155 : decode cX6_ask 155 = .ok (.imul, 1) := by decide +kernel
theorem dX6_ask_156 : decode cX6_ask 156 = .ok (.iload 8, 2) := by decide +kernel
theorem dX6_ask_158 : decode cX6_ask 158 = .ok (.iadd, 1) := by decide +kernel
theorem dX6_ask_159 : decode cX6_ask 159 = .ok (.goto 5, 3) := by decide +kernel
theorem dX6_ask_162 : decode cX6_ask 162 = .ok (.iload 6, 2) := by decide +kernel
theorem dX6_ask_164 : decode cX6_ask 164 = .ok (.istore 6, 2) := by decide +kernel
theorem dX6_ask_166 : decode cX6_ask 166 = .ok (.iload 10, 2) := by decide +kernel
theorem dX6_ask_168 : decode cX6_ask 168 = .ok (.iload 5, 2) := by decide +kernel
theorem dX6_ask_170 : decode cX6_ask 170 = .ok (.if_icmp .ge 8, 3) := by decide +kernel
theorem dX6_ask_173 : decode cX6_ask 173 = .ok (.iload 10, 2) := by decide +kernel
theorem dX6_ask_175 : decode cX6_ask 175 = .ok (.goto 5, 3) := by decide +kernel
theorem dX6_ask_178 : decode cX6_ask 178 = .ok (.iload 5, 2) := by decide +kernel
theorem dX6_ask_180 : decode cX6_ask 180 = .ok (.istore 5, 2) := by decide +kernel
theorem dX6_ask_182 : decode cX6_ask 182 = .ok (.iinc 8 1, 3) := by decide +kernel
theorem dX6_ask_185 : decode cX6_ask 185 = .ok (.goto (-130), 3) := by decide +kernel
theorem dX6_ask_188 : decode cX6_ask 188 = .ok (.iinc 7 1, 3) := by decide +kernel
theorem dX6_ask_191 : decode cX6_ask 191 = .ok (.goto (-148), 3) := by decide +kernel
theorem dX6_ask_194 : decode cX6_ask 194 = .ok (.iload 6, 2) := by decide +kernel
theorem dX6_ask_196 : decode cX6_ask 196 = .ok (.bipush (-4), 2) := by decide +kernel
theorem dX6_ask_198 : decode cX6_ask 198 = .ok (.if_icmp .eq 7, 3) := by decide +kernel
theorem dX6_ask_201 : decode cX6_ask 201 = .ok (.iload_n 2, 1) := by decide +kernel
theorem dX6_ask_202 : decode cX6_ask 202 = .ok (.ifCond .ne 8, 3) := by decide +kernel
theorem dX6_ask_205 : decode cX6_ask 205 = .ok (.iload 6, 2) := by decide +kernel
theorem dX6_ask_207 : decode cX6_ask 207 = .ok (.goto 5, 3) := by decide +kernel
theorem dX6_ask_210 : decode cX6_ask 210 = .ok (.iload 5, 2) := by decide +kernel
theorem dX6_ask_212 : decode cX6_ask 212 = .ok (.ireturn, 1) := by decide +kernel
theorem dX6_drift_0 : decode cX6_drift 0 = .ok (.iload_n 2, 1) := by decide +kernel
theorem dX6_drift_1 : decode cX6_drift 1 = .ok (.i2l, 1) := by decide +kernel
theorem dX6_drift_2 : decode cX6_drift 2 = .ok (.lconst 1, 1) := by decide +kernel
theorem dX6_drift_3 : decode cX6_drift 3 = .ok (.ldc2_w 258, 3) := by decide +kernel
theorem dX6_drift_6 : decode cX6_drift 6 = .ok (.invokestatic 49, 3) := by decide +kernel
theorem dX6_drift_9 : decode cX6_drift 9 = .ok (.ifCond .eq 13, 3) := by decide +kernel
theorem dX6_drift_12 : decode cX6_drift 12 = .ok (.iload_n 3, 1) := by decide +kernel
theorem dX6_drift_13 : decode cX6_drift 13 = .ok (.i2l, 1) := by decide +kernel
theorem dX6_drift_14 : decode cX6_drift 14 = .ok (.lconst 0, 1) := by decide +kernel
theorem dX6_drift_15 : decode cX6_drift 15 = .ok (.lconst 1, 1) := by decide +kernel
theorem dX6_drift_16 : decode cX6_drift 16 = .ok (.invokestatic 49, 3) := by decide +kernel
theorem dX6_drift_19 : decode cX6_drift 19 = .ok (.ifCond .ne 5, 3) := by decide +kernel
theorem dX6_drift_22 : decode cX6_drift 22 = .ok (.iconst (-1), 1) := by decide +kernel
theorem dX6_drift_23 : decode cX6_drift 23 = .ok (.ireturn, 1) := by decide +kernel
theorem dX6_drift_24 : decode cX6_drift 24 = .ok (.aload_n 0, 1) := by decide +kernel
theorem dX6_drift_25 : decode cX6_drift 25 = .ok (.getfield 144, 3) := by decide +kernel
theorem dX6_drift_28 : decode cX6_drift 28 = .ok (.ifCond .eq 13, 3) := by decide +kernel
theorem dX6_drift_31 : decode cX6_drift 31 = .ok (.aload_n 0, 1) := by decide +kernel
theorem dX6_drift_32 : decode cX6_drift 32 = .ok (.getfield 7, 3) := by decide +kernel
theorem dX6_drift_35 : decode cX6_drift 35 = .ok (.bipush 25, 2) := by decide +kernel
theorem dX6_drift_37 : decode cX6_drift 37 = .ok (.iaload, 1) := by decide +kernel
theorem dX6_drift_38 : decode cX6_drift 38 = .ok (.ifCond .ne 6, 3) := by decide +kernel
theorem dX6_drift_41 : decode cX6_drift 41 = .ok (.bipush (-2), 2) := by decide +kernel
theorem dX6_drift_43 : decode cX6_drift 43 = .ok (.ireturn, 1) := by decide +kernel
theorem dX6_drift_44 : decode cX6_drift 44 = .ok (.aload_n 0, 1) := by decide +kernel
theorem dX6_drift_45 : decode cX6_drift 45 = .ok (.iconst 0, 1) := by decide +kernel
theorem dX6_drift_46 : decode cX6_drift 46 = .ok (.sipush 260, 3) := by decide +kernel
theorem dX6_drift_49 : decode cX6_drift 49 = .ok (.invokevirtual 220, 3) := by decide +kernel
theorem dX6_drift_52 : decode cX6_drift 52 = .ok (.iload_n 1, 1) := by decide +kernel
theorem dX6_drift_53 : decode cX6_drift 53 = .ok (.istore 4, 2) := by decide +kernel
theorem dX6_drift_55 : decode cX6_drift 55 = .ok (.iconst 0, 1) := by decide +kernel
theorem dX6_drift_56 : decode cX6_drift 56 = .ok (.istore 5, 2) := by decide +kernel
theorem dX6_drift_58 : decode cX6_drift 58 = .ok (.iload 5, 2) := by decide +kernel
theorem dX6_drift_60 : decode cX6_drift 60 = .ok (.iload_n 2, 1) := by decide +kernel
theorem dX6_drift_61 : decode cX6_drift 61 = .ok (.if_icmp .ge 96, 3) := by decide +kernel
theorem dX6_drift_64 : decode cX6_drift 64 = .ok (.iload 4, 2) := by decide +kernel
theorem dX6_drift_66 : decode cX6_drift 66 = .ok (.ldc_w 260, 3) := by decide +kernel
theorem dX6_drift_69 : decode cX6_drift 69 = .ok (.imul, 1) := by decide +kernel
theorem dX6_drift_70 : decode cX6_drift 70 = .ok (.sipush 12345, 3) := by decide +kernel
theorem dX6_drift_73 : decode cX6_drift 73 = .ok (.iadd, 1) := by decide +kernel
theorem dX6_drift_74 : decode cX6_drift 74 = .ok (.istore 4, 2) := by decide +kernel
theorem dX6_drift_76 : decode cX6_drift 76 = .ok (.iload 4, 2) := by decide +kernel
theorem dX6_drift_78 : decode cX6_drift 78 = .ok (.bipush 16, 2) := by decide +kernel
theorem dX6_drift_80 : decode cX6_drift 80 = .ok (.ishr, 1) := by decide +kernel
theorem dX6_drift_81 : decode cX6_drift 81 = .ok (.sipush 32767, 3) := by decide +kernel
theorem dX6_drift_84 : decode cX6_drift 84 = .ok (.iand, 1) := by decide +kernel
theorem dX6_drift_85 : decode cX6_drift 85 = .ok (.istore 6, 2) := by decide +kernel
theorem dX6_drift_87 : decode cX6_drift 87 = .ok (.iload 6, 2) := by decide +kernel
theorem dX6_drift_89 : decode cX6_drift 89 = .ok (.bipush 8, 2) := by decide +kernel
theorem dX6_drift_91 : decode cX6_drift 91 = .ok (.idiv, 1) := by decide +kernel
theorem dX6_drift_92 : decode cX6_drift 92 = .ok (.aload_n 0, 1) := by decide +kernel
theorem dX6_drift_93 : decode cX6_drift 93 = .ok (.getfield 7, 3) := by decide +kernel
theorem dX6_drift_96 : decode cX6_drift 96 = .ok (.bipush 25, 2) := by decide +kernel
theorem dX6_drift_98 : decode cX6_drift 98 = .ok (.iaload, 1) := by decide +kernel
theorem dX6_drift_99 : decode cX6_drift 99 = .ok (.irem, 1) := by decide +kernel
theorem dX6_drift_100 : decode cX6_drift 100 = .ok (.istore 7, 2) := by decide +kernel
theorem dX6_drift_102 : decode cX6_drift 102 = .ok (.aload_n 0, 1) := by decide +kernel
theorem dX6_drift_103 : decode cX6_drift 103 = .ok (.sipush 260, 3) := by decide +kernel
theorem dX6_drift_106 : decode cX6_drift 106 = .ok (.iload 6, 2) := by decide +kernel
theorem dX6_drift_108 : decode cX6_drift 108 = .ok (.aload_n 0, 1) := by decide +kernel
theorem dX6_drift_109 : decode cX6_drift 109 = .ok (.getfield 144, 3) := by decide +kernel
theorem dX6_drift_112 : decode cX6_drift 112 = .ok (.irem, 1) := by decide +kernel
theorem dX6_drift_113 : decode cX6_drift 113 = .ok (.iload 7, 2) := by decide +kernel
theorem dX6_drift_115 : decode cX6_drift 115 = .ok (.invokevirtual 208, 3) := by decide +kernel
theorem dX6_drift_118 : decode cX6_drift 118 = .ok (.ifCond .ne 33, 3) := by decide +kernel
theorem dX6_drift_121 : decode cX6_drift 121 = .ok (.aload_n 0, 1) := by decide +kernel
theorem dX6_drift_122 : decode cX6_drift 122 = .ok (.sipush 260, 3) := by decide +kernel
theorem dX6_drift_125 : decode cX6_drift 125 = .ok (.iload 7, 2) := by decide +kernel
theorem dX6_drift_127 : decode cX6_drift 127 = .ok (.invokevirtual 152, 3) := by decide +kernel
theorem dX6_drift_130 : decode cX6_drift 130 = .ok (.istore 8, 2) := by decide +kernel
theorem dX6_drift_132 : decode cX6_drift 132 = .ok (.iload 8, 2) := by decide +kernel
theorem dX6_drift_134 : decode cX6_drift 134 = .ok (.bipush (-4), 2) := by decide +kernel
theorem dX6_drift_136 : decode cX6_drift 136 = .ok (.if_icmp .eq 15, 3) := by decide +kernel
theorem dX6_drift_139 : decode cX6_drift 139 = .ok (.aload_n 0, 1) := by decide +kernel
theorem dX6_drift_140 : decode cX6_drift 140 = .ok (.getfield 7, 3) := by decide +kernel
theorem dX6_drift_143 : decode cX6_drift 143 = .ok (.sipush 275, 3) := by decide +kernel
theorem dX6_drift_146 : decode cX6_drift 146 = .ok (.iload 8, 2) := by decide +kernel
theorem dX6_drift_148 : decode cX6_drift 148 = .ok (.iadd, 1) := by decide +kernel
theorem dX6_drift_149 : decode cX6_drift 149 = .ok (.iconst 0, 1) := by decide +kernel
theorem dX6_drift_150 : decode cX6_drift 150 = .ok (.iastore, 1) := by decide +kernel
theorem dX6_drift_151 : decode cX6_drift 151 = .ok (.iinc 5 1, 3) := by decide +kernel
theorem dX6_drift_154 : decode cX6_drift 154 = .ok (.goto (-96), 3) := by decide +kernel
theorem dX6_drift_157 : decode cX6_drift 157 = .ok (.iload_n 3, 1) := by decide +kernel
theorem dX6_drift_158 : decode cX6_drift 158 = .ok (.ifCond .ne 13, 3) := by decide +kernel
theorem dX6_drift_161 : decode cX6_drift 161 = .ok (.aload_n 0, 1) := by decide +kernel
theorem dX6_drift_162 : decode cX6_drift 162 = .ok (.sipush 260, 3) := by decide +kernel
theorem dX6_drift_165 : decode cX6_drift 165 = .ok (.invokevirtual 233, 3) := by decide +kernel
theorem dX6_drift_168 : decode cX6_drift 168 = .ok (.goto 10, 3) := by decide +kernel
theorem dX6_drift_171 : decode cX6_drift 171 = .ok (.aload_n 0, 1) := by decide +kernel
theorem dX6_drift_172 : decode cX6_drift 172 = .ok (.sipush 260, 3) := by decide +kernel
theorem dX6_drift_175 : decode cX6_drift 175 = .ok (.invokevirtual 182, 3) := by decide +kernel
theorem dX6_drift_178 : decode cX6_drift 178 = .ok (.ireturn, 1) := by decide +kernel
theorem dX6_keep_0 : decode cX6_keep 0 = .ok (.iload_n 1, 1) := by decide +kernel
theorem dX6_keep_1 : decode cX6_keep 1 = .ok (.i2l, 1) := by decide +kernel
theorem dX6_keep_2 : decode cX6_keep 2 = .ok (.lconst 0, 1) := by decide +kernel
theorem dX6_keep_3 : decode cX6_keep 3 = .ok (.lconst 1, 1) := by decide +kernel
theorem dX6_keep_4 : decode cX6_keep 4 = .ok (.invokestatic 49, 3) := by decide +kernel
theorem dX6_keep_7 : decode cX6_keep 7 = .ok (.ifCond .ne 5, 3) := by decide +kernel
theorem dX6_keep_10 : decode cX6_keep 10 = .ok (.iconst (-1), 1) := by decide +kernel
theorem dX6_keep_11 : decode cX6_keep 11 = .ok (.ireturn, 1) := by decide +kernel
theorem dX6_keep_12 : decode cX6_keep 12 = .ok (.aload_n 0, 1) := by decide +kernel
theorem dX6_keep_13 : decode cX6_keep 13 = .ok (.iconst 0, 1) := by decide +kernel
theorem dX6_keep_14 : decode cX6_keep 14 = .ok (.bipush 65, 2) := by decide +kernel
theorem dX6_keep_16 : decode cX6_keep 16 = .ok (.iload_n 1, 1) := by decide +kernel
theorem dX6_keep_17 : decode cX6_keep 17 = .ok (.iconst 1, 1) := by decide +kernel
theorem dX6_keep_18 : decode cX6_keep 18 = .ok (.iadd, 1) := by decide +kernel
theorem dX6_keep_19 : decode cX6_keep 19 = .ok (.imul, 1) := by decide +kernel
theorem dX6_keep_20 : decode cX6_keep 20 = .ok (.invokevirtual 220, 3) := by decide +kernel
theorem dX6_keep_23 : decode cX6_keep 23 = .ok (.aload_n 0, 1) := by decide +kernel
theorem dX6_keep_24 : decode cX6_keep 24 = .ok (.getfield 34, 3) := by decide +kernel
theorem dX6_keep_27 : decode cX6_keep 27 = .ok (.iload_n 1, 1) := by decide +kernel
theorem dX6_keep_28 : decode cX6_keep 28 = .ok (.baload, 1) := by decide +kernel
theorem dX6_keep_29 : decode cX6_keep 29 = .ok (.ifCond .eq 7, 3) := by decide +kernel
theorem dX6_keep_32 : decode cX6_keep 32 = .ok (.iconst 1, 1) := by decide +kernel
theorem dX6_keep_33 : decode cX6_keep 33 = .ok (.goto 4, 3) := by decide +kernel
theorem dX6_keep_36 : decode cX6_keep 36 = .ok (.iconst 0, 1) := by decide +kernel
theorem dX6_keep_37 : decode cX6_keep 37 = .ok (.istore_n 2, 1) := by decide +kernel
theorem dX6_keep_38 : decode cX6_keep 38 = .ok (.aload_n 0, 1) := by decide +kernel
theorem dX6_keep_39 : decode cX6_keep 39 = .ok (.getfield 34, 3) := by decide +kernel
theorem dX6_keep_42 : decode cX6_keep 42 = .ok (.iload_n 1, 1) := by decide +kernel
theorem dX6_keep_43 : decode cX6_keep 43 = .ok (.iconst 1, 1) := by decide +kernel
theorem dX6_keep_44 : decode cX6_keep 44 = .ok (.bastore, 1) := by decide +kernel
theorem dX6_keep_45 : decode cX6_keep 45 = .ok (.iload_n 2, 1) := by decide +kernel
theorem dX6_keep_46 : decode cX6_keep 46 = .ok (.ireturn, 1) := by decide +kernel
theorem dX6_back_0 : decode cX6_back 0 = .ok (.iload_n 1, 1) := by decide +kernel
theorem dX6_back_1 : decode cX6_back 1 = .ok (.i2l, 1) := by decide +kernel
theorem dX6_back_2 : decode cX6_back 2 = .ok (.lconst 0, 1) := by decide +kernel
theorem dX6_back_3 : decode cX6_back 3 = .ok (.lconst 1, 1) := by decide +kernel
theorem dX6_back_4 : decode cX6_back 4 = .ok (.invokestatic 49, 3) := by decide +kernel
theorem dX6_back_7 : decode cX6_back 7 = .ok (.ifCond .ne 5, 3) := by decide +kernel
theorem dX6_back_10 : decode cX6_back 10 = .ok (.iconst (-1), 1) := by decide +kernel
theorem dX6_back_11 : decode cX6_back 11 = .ok (.ireturn, 1) := by decide +kernel
theorem dX6_back_12 : decode cX6_back 12 = .ok (.aload_n 0, 1) := by decide +kernel
theorem dX6_back_13 : decode cX6_back 13 = .ok (.getfield 34, 3) := by decide +kernel
theorem dX6_back_16 : decode cX6_back 16 = .ok (.iload_n 1, 1) := by decide +kernel
theorem dX6_back_17 : decode cX6_back 17 = .ok (.baload, 1) := by decide +kernel
theorem dX6_back_18 : decode cX6_back 18 = .ok (.ifCond .ne 6, 3) := by decide +kernel
theorem dX6_back_21 : decode cX6_back 21 = .ok (.bipush (-2), 2) := by decide +kernel
theorem dX6_back_23 : decode cX6_back 23 = .ok (.ireturn, 1) := by decide +kernel
theorem dX6_back_24 : decode cX6_back 24 = .ok (.aload_n 0, 1) := by decide +kernel
theorem dX6_back_25 : decode cX6_back 25 = .ok (.bipush 65, 2) := by decide +kernel
theorem dX6_back_27 : decode cX6_back 27 = .ok (.iload_n 1, 1) := by decide +kernel
theorem dX6_back_28 : decode cX6_back 28 = .ok (.iconst 1, 1) := by decide +kernel
theorem dX6_back_29 : decode cX6_back 29 = .ok (.iadd, 1) := by decide +kernel
theorem dX6_back_30 : decode cX6_back 30 = .ok (.imul, 1) := by decide +kernel
theorem dX6_back_31 : decode cX6_back 31 = .ok (.iconst 0, 1) := by decide +kernel
theorem dX6_back_32 : decode cX6_back 32 = .ok (.invokevirtual 220, 3) := by decide +kernel
theorem dX6_back_35 : decode cX6_back 35 = .ok (.aload_n 0, 1) := by decide +kernel
theorem dX6_back_36 : decode cX6_back 36 = .ok (.iconst 0, 1) := by decide +kernel
theorem dX6_back_37 : decode cX6_back 37 = .ok (.invokevirtual 182, 3) := by decide +kernel
theorem dX6_back_40 : decode cX6_back 40 = .ok (.ireturn, 1) := by decide +kernel
theorem dX6_sheet_0 : decode cX6_sheet 0 = .ok (.iload_n 1, 1) := by decide +kernel
theorem dX6_sheet_1 : decode cX6_sheet 1 = .ok (.i2l, 1) := by decide +kernel
theorem dX6_sheet_2 : decode cX6_sheet 2 = .ok (.lconst 0, 1) := by decide +kernel
theorem dX6_sheet_3 : decode cX6_sheet 3 = .ok (.ldc2_w 195, 3) := by decide +kernel
theorem dX6_sheet_6 : decode cX6_sheet 6 = .ok (.invokestatic 49, 3) := by decide +kernel
theorem dX6_sheet_9 : decode cX6_sheet 9 = .ok (.ifCond .eq 21, 3) := by decide +kernel
theorem dX6_sheet_12 : decode cX6_sheet 12 = .ok (.iload_n 2, 1) := by decide +kernel
theorem dX6_sheet_13 : decode cX6_sheet 13 = .ok (.i2l, 1) := by decide +kernel
theorem dX6_sheet_14 : decode cX6_sheet 14 = .ok (.lconst 0, 1) := by decide +kernel
theorem dX6_sheet_15 : decode cX6_sheet 15 = .ok (.ldc2_w 200, 3) := by decide +kernel
theorem dX6_sheet_18 : decode cX6_sheet 18 = .ok (.invokestatic 49, 3) := by decide +kernel
theorem dX6_sheet_21 : decode cX6_sheet 21 = .ok (.ifCond .eq 9, 3) := by decide +kernel
theorem dX6_sheet_24 : decode cX6_sheet 24 = .ok (.iload_n 3, 1) := by decide +kernel
theorem dX6_sheet_25 : decode cX6_sheet 25 = .ok (.bipush 40, 2) := by decide +kernel
theorem dX6_sheet_27 : decode cX6_sheet 27 = .ok (.if_icmp .le 5, 3) := by decide +kernel
theorem dX6_sheet_30 : decode cX6_sheet 30 = .ok (.iconst (-1), 1) := by decide +kernel
theorem dX6_sheet_31 : decode cX6_sheet 31 = .ok (.ireturn, 1) := by decide +kernel
theorem dX6_sheet_32 : decode cX6_sheet 32 = .ok (.iload_n 3, 1) := by decide +kernel
theorem dX6_sheet_33 : decode cX6_sheet 33 = .ok (.ifCond .ge 6, 3) := by decide +kernel
theorem dX6_sheet_36 : decode cX6_sheet 36 = .ok (.bipush (-14), 2) := by decide +kernel
theorem dX6_sheet_38 : decode cX6_sheet 38 = .ok (.ireturn, 1) := by decide +kernel
theorem dX6_sheet_39 : decode cX6_sheet 39 = .ok (.aload_n 0, 1) := by decide +kernel
theorem dX6_sheet_40 : decode cX6_sheet 40 = .ok (.getfield 38, 3) := by decide +kernel
theorem dX6_sheet_43 : decode cX6_sheet 43 = .ok (.iload_n 1, 1) := by decide +kernel
theorem dX6_sheet_44 : decode cX6_sheet 44 = .ok (.iload_n 2, 1) := by decide +kernel
theorem dX6_sheet_45 : decode cX6_sheet 45 = .ok (.iastore, 1) := by decide +kernel
theorem dX6_sheet_46 : decode cX6_sheet 46 = .ok (.aload_n 0, 1) := by decide +kernel
theorem dX6_sheet_47 : decode cX6_sheet 47 = .ok (.getfield 41, 3) := by decide +kernel
theorem dX6_sheet_50 : decode cX6_sheet 50 = .ok (.iload_n 1, 1) := by decide +kernel
theorem dX6_sheet_51 : decode cX6_sheet 51 = .ok (.iload_n 3, 1) := by decide +kernel
theorem dX6_sheet_52 : decode cX6_sheet 52 = .ok (.iastore, 1) := by decide +kernel
theorem dX6_sheet_53 : decode cX6_sheet 53 = .ok (.iconst 0, 1) := by decide +kernel
theorem dX6_sheet_54 : decode cX6_sheet 54 = .ok (.istore 4, 2) := by decide +kernel
theorem dX6_sheet_56 : decode cX6_sheet 56 = .ok (.iload 4, 2) := by decide +kernel
theorem dX6_sheet_58 : decode cX6_sheet 58 = .ok (.bipush 40, 2) := by decide +kernel
theorem dX6_sheet_60 : decode cX6_sheet 60 = .ok (.if_icmp .ge 22, 3) := by decide +kernel
theorem dX6_sheet_63 : decode cX6_sheet 63 = .ok (.aload_n 0, 1) := by decide +kernel
theorem dX6_sheet_64 : decode cX6_sheet 64 = .ok (.getfield 44, 3) := by decide +kernel
theorem dX6_sheet_67 : decode cX6_sheet 67 = .ok (.bipush 40, 2) := by decide +kernel
theorem dX6_sheet_69 : decode cX6_sheet 69 = .ok (.iload_n 1, 1) := by decide +kernel
theorem dX6_sheet_70 : decode cX6_sheet 70 = .ok (.imul, 1) := by decide +kernel
theorem dX6_sheet_71 : decode cX6_sheet 71 = .ok (.iload 4, 2) := by decide +kernel
theorem dX6_sheet_73 : decode cX6_sheet 73 = .ok (.iadd, 1) := by decide +kernel
theorem dX6_sheet_74 : decode cX6_sheet 74 = .ok (.iconst 0, 1) := by decide +kernel
theorem dX6_sheet_75 : decode cX6_sheet 75 = .ok (.iastore, 1) := by decide +kernel
theorem dX6_sheet_76 : decode cX6_sheet 76 = .ok (.iinc 4 1, 3) := by decide +kernel
theorem dX6_sheet_79 : decode cX6_sheet 79 = .ok (.goto (-23), 3) := by decide +kernel
theorem dX6_sheet_82 : decode cX6_sheet 82 = .ok (.iconst 1, 1) := by decide +kernel
theorem dX6_sheet_83 : decode cX6_sheet 83 = .ok (.ireturn, 1) := by decide +kernel
theorem dX6_lay_0 : decode cX6_lay 0 = .ok (.iload_n 1, 1) := by decide +kernel
theorem dX6_lay_1 : decode cX6_lay 1 = .ok (.i2l, 1) := by decide +kernel
theorem dX6_lay_2 : decode cX6_lay 2 = .ok (.lconst 0, 1) := by decide +kernel
theorem dX6_lay_3 : decode cX6_lay 3 = .ok (.ldc2_w 195, 3) := by decide +kernel
theorem dX6_lay_6 : decode cX6_lay 6 = .ok (.invokestatic 49, 3) := by decide +kernel
theorem dX6_lay_9 : decode cX6_lay 9 = .ok (.ifCond .ne 5, 3) := by decide +kernel
theorem dX6_lay_12 : decode cX6_lay 12 = .ok (.iconst (-1), 1) := by decide +kernel
theorem dX6_lay_13 : decode cX6_lay 13 = .ok (.ireturn, 1) := by decide +kernel
theorem dX6_lay_14 : decode cX6_lay 14 = .ok (.aload_n 0, 1) := by decide +kernel
theorem dX6_lay_15 : decode cX6_lay 15 = .ok (.getfield 38, 3) := by decide +kernel
theorem dX6_lay_18 : decode cX6_lay 18 = .ok (.iload_n 1, 1) := by decide +kernel
theorem dX6_lay_19 : decode cX6_lay 19 = .ok (.iaload, 1) := by decide +kernel
theorem dX6_lay_20 : decode cX6_lay 20 = .ok (.bipush (-4), 2) := by decide +kernel
theorem dX6_lay_22 : decode cX6_lay 22 = .ok (.if_icmp .ne 6, 3) := by decide +kernel
theorem dX6_lay_25 : decode cX6_lay 25 = .ok (.bipush (-11), 2) := by decide +kernel
theorem dX6_lay_27 : decode cX6_lay 27 = .ok (.ireturn, 1) := by decide +kernel
theorem dX6_lay_28 : decode cX6_lay 28 = .ok (.iload_n 2, 1) := by decide +kernel
theorem dX6_lay_29 : decode cX6_lay 29 = .ok (.i2l, 1) := by decide +kernel
theorem dX6_lay_30 : decode cX6_lay 30 = .ok (.lconst 0, 1) := by decide +kernel
theorem dX6_lay_31 : decode cX6_lay 31 = .ok (.aload_n 0, 1) := by decide +kernel
theorem dX6_lay_32 : decode cX6_lay 32 = .ok (.getfield 41, 3) := by decide +kernel
theorem dX6_lay_35 : decode cX6_lay 35 = .ok (.iload_n 1, 1) := by decide +kernel
theorem dX6_lay_36 : decode cX6_lay 36 = .ok (.iaload, 1) := by decide +kernel
theorem dX6_lay_37 : decode cX6_lay 37 = .ok (.iconst 1, 1) := by decide +kernel
theorem dX6_lay_38 : decode cX6_lay 38 = .ok (.isub, 1) := by decide +kernel
theorem dX6_lay_39 : decode cX6_lay 39 = .ok (.i2l, 1) := by decide +kernel
theorem dX6_lay_40 : decode cX6_lay 40 = .ok (.invokestatic 49, 3) := by decide +kernel
theorem dX6_lay_43 : decode cX6_lay 43 = .ok (.ifCond .ne 6, 3) := by decide +kernel
theorem dX6_lay_46 : decode cX6_lay 46 = .ok (.bipush (-12), 2) := by decide +kernel
theorem dX6_lay_48 : decode cX6_lay 48 = .ok (.ireturn, 1) := by decide +kernel
theorem dX6_lay_49 : decode cX6_lay 49 = .ok (.aload_n 0, 1) := by decide +kernel
theorem dX6_lay_50 : decode cX6_lay 50 = .ok (.getfield 44, 3) := by decide +kernel
theorem dX6_lay_53 : decode cX6_lay 53 = .ok (.bipush 40, 2) := by decide +kernel
theorem dX6_lay_55 : decode cX6_lay 55 = .ok (.iload_n 1, 1) := by decide +kernel
theorem dX6_lay_56 : decode cX6_lay 56 = .ok (.imul, 1) := by decide +kernel
theorem dX6_lay_57 : decode cX6_lay 57 = .ok (.iload_n 2, 1) := by decide +kernel
theorem dX6_lay_58 : decode cX6_lay 58 = .ok (.iadd, 1) := by decide +kernel
theorem dX6_lay_59 : decode cX6_lay 59 = .ok (.aload_n 0, 1) := by decide +kernel
theorem dX6_lay_60 : decode cX6_lay 60 = .ok (.getfield 38, 3) := by decide +kernel
theorem dX6_lay_63 : decode cX6_lay 63 = .ok (.iload_n 1, 1) := by decide +kernel
theorem dX6_lay_64 : decode cX6_lay 64 = .ok (.iaload, 1) := by decide +kernel
theorem dX6_lay_65 : decode cX6_lay 65 = .ok (.ifCond .ne 13, 3) := by decide +kernel
theorem dX6_lay_68 : decode cX6_lay 68 = .ok (.iload_n 3, 1) := by decide +kernel
theorem dX6_lay_69 : decode cX6_lay 69 = .ok (.bipush 24, 2) := by decide +kernel
theorem dX6_lay_71 : decode cX6_lay 71 = .ok (.ishl, 1) := by decide +kernel
theorem dX6_lay_72 : decode cX6_lay 72 = .ok (.bipush 24, 2) := by decide +kernel
theorem dX6_lay_74 : decode cX6_lay 74 = .ok (.ishr, 1) := by decide +kernel
theorem dX6_lay_75 : decode cX6_lay 75 = .ok (.goto 24, 3) := by decide +kernel
theorem dX6_lay_78 : decode cX6_lay 78 = .ok (.aload_n 0, 1) := by decide +kernel
theorem dX6_lay_79 : decode cX6_lay 79 = .ok (.getfield 38, 3) := by decide +kernel
theorem dX6_lay_82 : decode cX6_lay 82 = .ok (.iload_n 1, 1) := by decide +kernel
theorem dX6_lay_83 : decode cX6_lay 83 = .ok (.iaload, 1) := by decide +kernel
theorem dX6_lay_84 : decode cX6_lay 84 = .ok (.iconst 1, 1) := by decide +kernel
theorem dX6_lay_85 : decode cX6_lay 85 = .ok (.if_icmp .ne 13, 3) := by decide +kernel
theorem dX6_lay_88 : decode cX6_lay 88 = .ok (.iload_n 3, 1) := by decide +kernel
theorem dX6_lay_89 : decode cX6_lay 89 = .ok (.bipush 16, 2) := by decide +kernel
theorem dX6_lay_91 : decode cX6_lay 91 = .ok (.ishl, 1) := by decide +kernel
theorem dX6_lay_92 : decode cX6_lay 92 = .ok (.bipush 16, 2) := by decide +kernel
theorem dX6_lay_94 : decode cX6_lay 94 = .ok (.ishr, 1) := by decide +kernel
theorem dX6_lay_95 : decode cX6_lay 95 = .ok (.goto 4, 3) := by decide +kernel
theorem dX6_lay_98 : decode cX6_lay 98 = .ok (.iload_n 3, 1) := by decide +kernel
theorem dX6_lay_99 : decode cX6_lay 99 = .ok (.iastore, 1) := by decide +kernel
theorem dX6_lay_100 : decode cX6_lay 100 = .ok (.iconst 1, 1) := by decide +kernel
theorem dX6_lay_101 : decode cX6_lay 101 = .ok (.ireturn, 1) := by decide +kernel
theorem dX6_read_0 : decode cX6_read 0 = .ok (.iload_n 1, 1) := by decide +kernel
theorem dX6_read_1 : decode cX6_read 1 = .ok (.i2l, 1) := by decide +kernel
theorem dX6_read_2 : decode cX6_read 2 = .ok (.lconst 0, 1) := by decide +kernel
theorem dX6_read_3 : decode cX6_read 3 = .ok (.ldc2_w 195, 3) := by decide +kernel
theorem dX6_read_6 : decode cX6_read 6 = .ok (.invokestatic 49, 3) := by decide +kernel
theorem dX6_read_9 : decode cX6_read 9 = .ok (.ifCond .eq 28, 3) := by decide +kernel
theorem dX6_read_12 : decode cX6_read 12 = .ok (.iload_n 2, 1) := by decide +kernel
theorem dX6_read_13 : decode cX6_read 13 = .ok (.i2l, 1) := by decide +kernel
theorem dX6_read_14 : decode cX6_read 14 = .ok (.lconst 0, 1) := by decide +kernel
theorem dX6_read_15 : decode cX6_read 15 = .ok (.ldc2_w 200, 3) := by decide +kernel
theorem dX6_read_18 : decode cX6_read 18 = .ok (.invokestatic 49, 3) := by decide +kernel
theorem dX6_read_21 : decode cX6_read 21 = .ok (.ifCond .eq 16, 3) := by decide +kernel
theorem dX6_read_24 : decode cX6_read 24 = .ok (.iload 4, 2) := by decide +kernel
theorem dX6_read_26 : decode cX6_read 26 = .ok (.i2l, 1) := by decide +kernel
theorem dX6_read_27 : decode cX6_read 27 = .ok (.lconst 0, 1) := by decide +kernel
theorem dX6_read_28 : decode cX6_read 28 = .ok (.ldc2_w 261, 3) := by decide +kernel
theorem dX6_read_31 : decode cX6_read 31 = .ok (.invokestatic 49, 3) := by decide +kernel
theorem dX6_read_34 : decode cX6_read 34 = .ok (.ifCond .ne 5, 3) := by decide +kernel
theorem dX6_read_37 : decode cX6_read 37 = .ok (.iconst (-1), 1) := by decide +kernel
theorem dX6_read_38 : decode cX6_read 38 = .ok (.ireturn, 1) := by decide +kernel
theorem dX6_read_39 : decode cX6_read 39 = .ok (.aload_n 0, 1) := by decide +kernel
theorem dX6_read_40 : decode cX6_read 40 = .ok (.iconst 0, 1) := by decide +kernel
theorem dX6_read_41 : decode cX6_read 41 = .ok (.sipush 195, 3) := by decide +kernel
theorem dX6_read_44 : decode cX6_read 44 = .ok (.invokevirtual 220, 3) := by decide +kernel
theorem dX6_read_47 : decode cX6_read 47 = .ok (.iconst 0, 1) := by decide +kernel
theorem dX6_read_48 : decode cX6_read 48 = .ok (.istore 5, 2) := by decide +kernel
theorem dX6_read_50 : decode cX6_read 50 = .ok (.iconst 0, 1) := by decide +kernel
theorem dX6_read_51 : decode cX6_read 51 = .ok (.istore 6, 2) := by decide +kernel
theorem dX6_read_53 : decode cX6_read 53 = .ok (.iconst 0, 1) := by decide +kernel
theorem dX6_read_54 : decode cX6_read 54 = .ok (.istore 7, 2) := by decide +kernel
theorem dX6_read_56 : decode cX6_read 56 = .ok (.iload 7, 2) := by decide +kernel
theorem dX6_read_58 : decode cX6_read 58 = .ok (.iconst 2, 1) := by decide +kernel
theorem dX6_read_59 : decode cX6_read 59 = .ok (.iload 4, 2) := by decide +kernel
theorem dX6_read_61 : decode cX6_read 61 = .ok (.imul, 1) := by decide +kernel
theorem dX6_read_62 : decode cX6_read 62 = .ok (.if_icmp .ge 136, 3) := by decide +kernel
theorem dX6_read_65 : decode cX6_read 65 = .ok (.iload 5, 2) := by decide +kernel
theorem dX6_read_67 : decode cX6_read 67 = .ok (.ifCond .ne 131, 3) := by decide +kernel
theorem dX6_read_70 : decode cX6_read 70 = .ok (.aload_n 0, 1) := by decide +kernel
theorem dX6_read_71 : decode cX6_read 71 = .ok (.getfield 38, 3) := by decide +kernel
theorem dX6_read_74 : decode cX6_read 74 = .ok (.iload_n 1, 1) := by decide +kernel
theorem dX6_read_75 : decode cX6_read 75 = .ok (.iaload, 1) := by decide +kernel
theorem dX6_read_76 : decode cX6_read 76 = .ok (.bipush (-4), 2) := by decide +kernel
theorem dX6_read_78 : decode cX6_read 78 = .ok (.if_icmp .ne 7, 3) := by decide +kernel
theorem dX6_read_81 : decode cX6_read 81 = .ok (.iconst 1, 1) := by decide +kernel
theorem dX6_read_82 : decode cX6_read 82 = .ok (.goto 44, 3) := by decide +kernel
theorem dX6_read_85 : decode cX6_read 85 = .ok (.aload_n 0, 1) := by decide +kernel
theorem dX6_read_86 : decode cX6_read 86 = .ok (.getfield 38, 3) := by decide +kernel
theorem dX6_read_89 : decode cX6_read 89 = .ok (.iload_n 1, 1) := by decide +kernel
theorem dX6_read_90 : decode cX6_read 90 = .ok (.iaload, 1) := by decide +kernel
theorem dX6_read_91 : decode cX6_read 91 = .ok (.iload_n 2, 1) := by decide +kernel
theorem dX6_read_92 : decode cX6_read 92 = .ok (.if_icmp .eq 7, 3) := by decide +kernel
theorem dX6_read_95 : decode cX6_read 95 = .ok (.iconst 3, 1) := by decide +kernel
theorem dX6_read_96 : decode cX6_read 96 = .ok (.goto 30, 3) := by decide +kernel
theorem dX6_read_99 : decode cX6_read 99 = .ok (.iload_n 3, 1) := by decide +kernel
theorem dX6_read_100 : decode cX6_read 100 = .ok (.i2l, 1) := by decide +kernel
theorem dX6_read_101 : decode cX6_read 101 = .ok (.iload 7, 2) := by decide +kernel
theorem dX6_read_103 : decode cX6_read 103 = .ok (.i2l, 1) := by decide +kernel
theorem dX6_read_104 : decode cX6_read 104 = .ok (.ladd, 1) := by decide +kernel
theorem dX6_read_105 : decode cX6_read 105 = .ok (.lconst 0, 1) := by decide +kernel
theorem dX6_read_106 : decode cX6_read 106 = .ok (.aload_n 0, 1) := by decide +kernel
theorem dX6_read_107 : decode cX6_read 107 = .ok (.getfield 41, 3) := by decide +kernel
theorem dX6_read_110 : decode cX6_read 110 = .ok (.iload_n 1, 1) := by decide +kernel
theorem dX6_read_111 : decode cX6_read 111 = .ok (.iaload, 1) := by decide +kernel
theorem dX6_read_112 : decode cX6_read 112 = .ok (.iconst 1, 1) := by decide +kernel
theorem dX6_read_113 : decode cX6_read 113 = .ok (.isub, 1) := by decide +kernel
theorem dX6_read_114 : decode cX6_read 114 = .ok (.i2l, 1) := by decide +kernel
theorem dX6_read_115 : decode cX6_read 115 = .ok (.invokestatic 49, 3) := by decide +kernel
theorem dX6_read_118 : decode cX6_read 118 = .ok (.ifCond .ne 7, 3) := by decide +kernel
theorem dX6_read_121 : decode cX6_read 121 = .ok (.iconst 2, 1) := by decide +kernel
theorem dX6_read_122 : decode cX6_read 122 = .ok (.goto 4, 3) := by decide +kernel
theorem dX6_read_125 : decode cX6_read 125 = .ok (.iconst 0, 1) := by decide +kernel
theorem dX6_read_126 : decode cX6_read 126 = .ok (.istore 5, 2) := by decide +kernel
theorem dX6_read_128 : decode cX6_read 128 = .ok (.iload 5, 2) := by decide +kernel
theorem dX6_read_130 : decode cX6_read 130 = .ok (.ifCond .ne 62, 3) := by decide +kernel
theorem dX6_read_133 : decode cX6_read 133 = .ok (.iload 7, 2) := by decide +kernel
theorem dX6_read_135 : decode cX6_read 135 = .ok (.iconst 2, 1) := by decide +kernel
theorem dX6_read_136 : decode cX6_read 136 = .ok (.irem, 1) := by decide +kernel
theorem dX6_read_137 : decode cX6_read 137 = .ok (.iconst 1, 1) := by decide +kernel
theorem dX6_read_138 : decode cX6_read 138 = .ok (.if_icmp .ne 54, 3) := by decide +kernel
theorem dX6_read_141 : decode cX6_read 141 = .ok (.bipush 40, 2) := by decide +kernel
theorem dX6_read_143 : decode cX6_read 143 = .ok (.iload_n 1, 1) := by decide +kernel
theorem dX6_read_144 : decode cX6_read 144 = .ok (.imul, 1) := by decide +kernel
theorem dX6_read_145 : decode cX6_read 145 = .ok (.iload_n 3, 1) := by decide +kernel
theorem dX6_read_146 : decode cX6_read 146 = .ok (.iadd, 1) := by decide +kernel
theorem dX6_read_147 : decode cX6_read 147 = .ok (.iload 7, 2) := by decide +kernel
theorem dX6_read_149 : decode cX6_read 149 = .ok (.iadd, 1) := by decide +kernel
theorem dX6_read_150 : decode cX6_read 150 = .ok (.istore 8, 2) := by decide +kernel
theorem dX6_read_152 : decode cX6_read 152 = .ok (.aload_n 0, 1) := by decide +kernel
theorem dX6_read_153 : decode cX6_read 153 = .ok (.aload_n 0, 1) := by decide +kernel
theorem dX6_read_154 : decode cX6_read 154 = .ok (.getfield 44, 3) := by decide +kernel
theorem dX6_read_157 : decode cX6_read 157 = .ok (.iload 8, 2) := by decide +kernel
theorem dX6_read_159 : decode cX6_read 159 = .ok (.iconst 1, 1) := by decide +kernel
theorem dX6_read_160 : decode cX6_read 160 = .ok (.isub, 1) := by decide +kernel
theorem dX6_read_161 : decode cX6_read 161 = .ok (.iaload, 1) := by decide +kernel
theorem dX6_read_162 : decode cX6_read 162 = .ok (.aload_n 0, 1) := by decide +kernel
theorem dX6_read_163 : decode cX6_read 163 = .ok (.getfield 44, 3) := by decide +kernel
theorem dX6_read_166 : decode cX6_read 166 = .ok (.iload 8, 2) := by decide +kernel
theorem dX6_read_168 : decode cX6_read 168 = .ok (.iaload, 1) := by decide +kernel
theorem dX6_read_169 : decode cX6_read 169 = .ok (.invokevirtual 211, 3) := by decide +kernel
theorem dX6_read_172 : decode cX6_read 172 = .ok (.ifCond .ge 17, 3) := by decide +kernel
theorem dX6_read_175 : decode cX6_read 175 = .ok (.aload_n 0, 1) := by decide +kernel
theorem dX6_read_176 : decode cX6_read 176 = .ok (.sipush 195, 3) := by decide +kernel
theorem dX6_read_179 : decode cX6_read 179 = .ok (.iconst 0, 1) := by decide +kernel
theorem dX6_read_180 : decode cX6_read 180 = .ok (.invokevirtual 220, 3) := by decide +kernel
theorem dX6_read_183 : decode cX6_read 183 = .ok (.bipush (-20), 2) := by decide +kernel
theorem dX6_read_185 : decode cX6_read 185 = .ok (.iload 6, 2) := by decide +kernel
theorem dX6_read_187 : decode cX6_read 187 = .ok (.isub, 1) := by decide +kernel
theorem dX6_read_188 : decode cX6_read 188 = .ok (.ireturn, 1) := by decide +kernel
theorem dX6_read_189 : decode cX6_read 189 = .ok (.iinc 6 1, 3) := by decide +kernel
theorem dX6_read_192 : decode cX6_read 192 = .ok (.iinc 7 1, 3) := by decide +kernel
theorem dX6_read_195 : decode cX6_read 195 = .ok (.goto (-139), 3) := by decide +kernel
theorem dX6_read_198 : decode cX6_read 198 = .ok (.aload_n 0, 1) := by decide +kernel
theorem dX6_read_199 : decode cX6_read 199 = .ok (.iload 5, 2) := by decide +kernel
theorem dX6_read_201 : decode cX6_read 201 = .ok (.putfield 263, 3) := by decide +kernel
theorem dX6_read_204 : decode cX6_read 204 = .ok (.iload 6, 2) := by decide +kernel
theorem dX6_read_206 : decode cX6_read 206 = .ok (.ireturn, 1) := by decide +kernel
theorem dX6_torn_0 : decode cX6_torn 0 = .ok (.aload_n 0, 1) := by decide +kernel
theorem dX6_torn_1 : decode cX6_torn 1 = .ok (.getfield 263, 3) := by decide +kernel
theorem dX6_torn_4 : decode cX6_torn 4 = .ok (.ireturn, 1) := by decide +kernel
theorem dX6_count_0 : decode cX6_count 0 = .ok (.iconst 0, 1) := by decide +kernel
theorem dX6_count_1 : decode cX6_count 1 = .ok (.istore_n 2, 1) := by decide +kernel
theorem dX6_count_2 : decode cX6_count 2 = .ok (.iconst 0, 1) := by decide +kernel
theorem dX6_count_3 : decode cX6_count 3 = .ok (.istore_n 3, 1) := by decide +kernel
theorem dX6_count_4 : decode cX6_count 4 = .ok (.iconst 0, 1) := by decide +kernel
theorem dX6_count_5 : decode cX6_count 5 = .ok (.istore 4, 2) := by decide +kernel
theorem dX6_count_7 : decode cX6_count 7 = .ok (.iload 4, 2) := by decide +kernel
theorem dX6_count_9 : decode cX6_count 9 = .ok (.bipush 8, 2) := by decide +kernel
theorem dX6_count_11 : decode cX6_count 11 = .ok (.if_icmp .ge 22, 3) := by decide +kernel
theorem dX6_count_14 : decode cX6_count 14 = .ok (.iload_n 2, 1) := by decide +kernel
theorem dX6_count_15 : decode cX6_count 15 = .ok (.aload_n 0, 1) := by decide +kernel
theorem dX6_count_16 : decode cX6_count 16 = .ok (.getfield 7, 3) := by decide +kernel
theorem dX6_count_19 : decode cX6_count 19 = .ok (.bipush 44, 2) := by decide +kernel
theorem dX6_count_21 : decode cX6_count 21 = .ok (.iload 4, 2) := by decide +kernel
theorem dX6_count_23 : decode cX6_count 23 = .ok (.iadd, 1) := by decide +kernel
theorem dX6_count_24 : decode cX6_count 24 = .ok (.iaload, 1) := by decide +kernel
theorem dX6_count_25 : decode cX6_count 25 = .ok (.iadd, 1) := by decide +kernel
theorem dX6_count_26 : decode cX6_count 26 = .ok (.istore_n 2, 1) := by decide +kernel
theorem dX6_count_27 : decode cX6_count 27 = .ok (.iinc 4 1, 3) := by decide +kernel
theorem dX6_count_30 : decode cX6_count 30 = .ok (.goto (-23), 3) := by decide +kernel
theorem dX6_count_33 : decode cX6_count 33 = .ok (.iconst 0, 1) := by decide +kernel
theorem dX6_count_34 : decode cX6_count 34 = .ok (.istore 4, 2) := by decide +kernel
theorem dX6_count_36 : decode cX6_count 36 = .ok (.iload 4, 2) := by decide +kernel
theorem dX6_count_38 : decode cX6_count 38 = .ok (.aload_n 0, 1) := by decide +kernel
theorem dX6_count_39 : decode cX6_count 39 = .ok (.getfield 144, 3) := by decide +kernel
theorem dX6_count_42 : decode cX6_count 42 = .ok (.if_icmp .ge 22, 3) := by decide +kernel
theorem dX6_count_45 : decode cX6_count 45 = .ok (.iload_n 3, 1) := by decide +kernel
theorem dX6_count_46 : decode cX6_count 46 = .ok (.aload_n 0, 1) := by decide +kernel
theorem dX6_count_47 : decode cX6_count 47 = .ok (.getfield 7, 3) := by decide +kernel
theorem dX6_count_50 : decode cX6_count 50 = .ok (.bipush 20, 2) := by decide +kernel
theorem dX6_count_52 : decode cX6_count 52 = .ok (.iload 4, 2) := by decide +kernel
theorem dX6_count_54 : decode cX6_count 54 = .ok (.iadd, 1) := by decide +kernel
theorem dX6_count_55 : decode cX6_count 55 = .ok (.iaload, 1) := by decide +kernel
theorem dX6_count_56 : decode cX6_count 56 = .ok (.iadd, 1) := by decide +kernel
theorem dX6_count_57 : decode cX6_count 57 = .ok (.istore_n 3, 1) := by decide +kernel
theorem dX6_count_58 : decode cX6_count 58 = .ok (.iinc 4 1, 3) := by decide +kernel
theorem dX6_count_61 : decode cX6_count 61 = .ok (.goto (-25), 3) := by decide +kernel
theorem dX6_count_64 : decode cX6_count 64 = .ok (.iload_n 1, 1) := by decide +kernel
theorem dX6_count_65 : decode cX6_count 65 = .ok (.tableswitch 106 0 5 #[39, 44, 74, 79, 102, 104], 39) := by decide +kernel
theorem dX6_count_104 : decode cX6_count 104 = .ok (.aload_n 0, 1) := by decide +kernel
theorem dX6_count_105 : decode cX6_count 105 = .ok (.getfield 147, 3) := by decide +kernel
theorem dX6_count_108 : decode cX6_count 108 = .ok (.ireturn, 1) := by decide +kernel
theorem dX6_count_109 : decode cX6_count 109 = .ok (.aload_n 0, 1) := by decide +kernel
theorem dX6_count_110 : decode cX6_count 110 = .ok (.getfield 34, 3) := by decide +kernel
theorem dX6_count_113 : decode cX6_count 113 = .ok (.iconst 0, 1) := by decide +kernel
theorem dX6_count_114 : decode cX6_count 114 = .ok (.baload, 1) := by decide +kernel
theorem dX6_count_115 : decode cX6_count 115 = .ok (.ifCond .eq 7, 3) := by decide +kernel
theorem dX6_count_118 : decode cX6_count 118 = .ok (.iconst 1, 1) := by decide +kernel
theorem dX6_count_119 : decode cX6_count 119 = .ok (.goto 4, 3) := by decide +kernel
theorem dX6_count_122 : decode cX6_count 122 = .ok (.iconst 0, 1) := by decide +kernel
theorem dX6_count_123 : decode cX6_count 123 = .ok (.aload_n 0, 1) := by decide +kernel
theorem dX6_count_124 : decode cX6_count 124 = .ok (.getfield 34, 3) := by decide +kernel
theorem dX6_count_127 : decode cX6_count 127 = .ok (.iconst 1, 1) := by decide +kernel
theorem dX6_count_128 : decode cX6_count 128 = .ok (.baload, 1) := by decide +kernel
theorem dX6_count_129 : decode cX6_count 129 = .ok (.ifCond .eq 7, 3) := by decide +kernel
theorem dX6_count_132 : decode cX6_count 132 = .ok (.iconst 1, 1) := by decide +kernel
theorem dX6_count_133 : decode cX6_count 133 = .ok (.goto 4, 3) := by decide +kernel
theorem dX6_count_136 : decode cX6_count 136 = .ok (.iconst 0, 1) := by decide +kernel
theorem dX6_count_137 : decode cX6_count 137 = .ok (.iadd, 1) := by decide +kernel
theorem dX6_count_138 : decode cX6_count 138 = .ok (.ireturn, 1) := by decide +kernel
theorem dX6_count_139 : decode cX6_count 139 = .ok (.aload_n 0, 1) := by decide +kernel
theorem dX6_count_140 : decode cX6_count 140 = .ok (.getfield 53, 3) := by decide +kernel
theorem dX6_count_143 : decode cX6_count 143 = .ok (.ireturn, 1) := by decide +kernel
theorem dX6_count_144 : decode cX6_count 144 = .ok (.aload_n 0, 1) := by decide +kernel
theorem dX6_count_145 : decode cX6_count 145 = .ok (.getfield 38, 3) := by decide +kernel
theorem dX6_count_148 : decode cX6_count 148 = .ok (.iconst 0, 1) := by decide +kernel
theorem dX6_count_149 : decode cX6_count 149 = .ok (.iaload, 1) := by decide +kernel
theorem dX6_count_150 : decode cX6_count 150 = .ok (.bipush (-4), 2) := by decide +kernel
theorem dX6_count_152 : decode cX6_count 152 = .ok (.if_icmp .ne 8, 3) := by decide +kernel
theorem dX6_count_155 : decode cX6_count 155 = .ok (.bipush (-4), 2) := by decide +kernel
theorem dX6_count_157 : decode cX6_count 157 = .ok (.goto 9, 3) := by decide +kernel
theorem dX6_count_160 : decode cX6_count 160 = .ok (.aload_n 0, 1) := by decide +kernel
theorem dX6_count_161 : decode cX6_count 161 = .ok (.getfield 41, 3) := by decide +kernel
theorem dX6_count_164 : decode cX6_count 164 = .ok (.iconst 0, 1) := by decide +kernel
theorem dX6_count_165 : decode cX6_count 165 = .ok (.iaload, 1) := by decide +kernel
theorem dX6_count_166 : decode cX6_count 166 = .ok (.ireturn, 1) := by decide +kernel
theorem dX6_count_167 : decode cX6_count 167 = .ok (.iload_n 2, 1) := by decide +kernel
theorem dX6_count_168 : decode cX6_count 168 = .ok (.ireturn, 1) := by decide +kernel
theorem dX6_count_169 : decode cX6_count 169 = .ok (.iload_n 3, 1) := by decide +kernel
theorem dX6_count_170 : decode cX6_count 170 = .ok (.ireturn, 1) := by decide +kernel
theorem dX6_count_171 : decode cX6_count 171 = .ok (.iconst (-1), 1) := by decide +kernel
theorem dX6_count_172 : decode cX6_count 172 = .ok (.ireturn, 1) := by decide +kernel
end
section
theorem dJ6_bitCount_0f7a4_0 : decode cJ6_bitCount_0f7a4 0 = .ok (.iload_n 0, 1) := by decide +kernel
theorem dJ6_bitCount_0f7a4_1 : decode cJ6_bitCount_0f7a4 1 = .ok (.iload_n 0, 1) := by decide +kernel
theorem dJ6_bitCount_0f7a4_2 : decode cJ6_bitCount_0f7a4 2 = .ok (.iconst 1, 1) := by decide +kernel
theorem dJ6_bitCount_0f7a4_3 : decode cJ6_bitCount_0f7a4 3 = .ok (.iushr, 1) := by decide +kernel
theorem dJ6_bitCount_0f7a4_4 : decode cJ6_bitCount_0f7a4 4 = .ok (.ldc_w 265, 3) := by decide +kernel
theorem dJ6_bitCount_0f7a4_7 : decode cJ6_bitCount_0f7a4 7 = .ok (.iand, 1) := by decide +kernel
theorem dJ6_bitCount_0f7a4_8 : decode cJ6_bitCount_0f7a4 8 = .ok (.isub, 1) := by decide +kernel
theorem dJ6_bitCount_0f7a4_9 : decode cJ6_bitCount_0f7a4 9 = .ok (.istore_n 0, 1) := by decide +kernel
theorem dJ6_bitCount_0f7a4_10 : decode cJ6_bitCount_0f7a4 10 = .ok (.iload_n 0, 1) := by decide +kernel
theorem dJ6_bitCount_0f7a4_11 : decode cJ6_bitCount_0f7a4 11 = .ok (.ldc_w 266, 3) := by decide +kernel
theorem dJ6_bitCount_0f7a4_14 : decode cJ6_bitCount_0f7a4 14 = .ok (.iand, 1) := by decide +kernel
theorem dJ6_bitCount_0f7a4_15 : decode cJ6_bitCount_0f7a4 15 = .ok (.iload_n 0, 1) := by decide +kernel
theorem dJ6_bitCount_0f7a4_16 : decode cJ6_bitCount_0f7a4 16 = .ok (.iconst 2, 1) := by decide +kernel
theorem dJ6_bitCount_0f7a4_17 : decode cJ6_bitCount_0f7a4 17 = .ok (.iushr, 1) := by decide +kernel
theorem dJ6_bitCount_0f7a4_18 : decode cJ6_bitCount_0f7a4 18 = .ok (.ldc_w 266, 3) := by decide +kernel
theorem dJ6_bitCount_0f7a4_21 : decode cJ6_bitCount_0f7a4 21 = .ok (.iand, 1) := by decide +kernel
theorem dJ6_bitCount_0f7a4_22 : decode cJ6_bitCount_0f7a4 22 = .ok (.iadd, 1) := by decide +kernel
theorem dJ6_bitCount_0f7a4_23 : decode cJ6_bitCount_0f7a4 23 = .ok (.istore_n 0, 1) := by decide +kernel
theorem dJ6_bitCount_0f7a4_24 : decode cJ6_bitCount_0f7a4 24 = .ok (.iload_n 0, 1) := by decide +kernel
theorem dJ6_bitCount_0f7a4_25 : decode cJ6_bitCount_0f7a4 25 = .ok (.iload_n 0, 1) := by decide +kernel
theorem dJ6_bitCount_0f7a4_26 : decode cJ6_bitCount_0f7a4 26 = .ok (.iconst 4, 1) := by decide +kernel
theorem dJ6_bitCount_0f7a4_27 : decode cJ6_bitCount_0f7a4 27 = .ok (.iushr, 1) := by decide +kernel
theorem dJ6_bitCount_0f7a4_28 : decode cJ6_bitCount_0f7a4 28 = .ok (.iadd, 1) := by decide +kernel
theorem dJ6_bitCount_0f7a4_29 : decode cJ6_bitCount_0f7a4 29 = .ok (.ldc_w 267, 3) := by decide +kernel
theorem dJ6_bitCount_0f7a4_32 : decode cJ6_bitCount_0f7a4 32 = .ok (.iand, 1) := by decide +kernel
theorem dJ6_bitCount_0f7a4_33 : decode cJ6_bitCount_0f7a4 33 = .ok (.istore_n 0, 1) := by decide +kernel
theorem dJ6_bitCount_0f7a4_34 : decode cJ6_bitCount_0f7a4 34 = .ok (.iload_n 0, 1) := by decide +kernel
theorem dJ6_bitCount_0f7a4_35 : decode cJ6_bitCount_0f7a4 35 = .ok (.iload_n 0, 1) := by decide +kernel
theorem dJ6_bitCount_0f7a4_36 : decode cJ6_bitCount_0f7a4 36 = .ok (.bipush 8, 2) := by decide +kernel
theorem dJ6_bitCount_0f7a4_38 : decode cJ6_bitCount_0f7a4 38 = .ok (.iushr, 1) := by decide +kernel
theorem dJ6_bitCount_0f7a4_39 : decode cJ6_bitCount_0f7a4 39 = .ok (.iadd, 1) := by decide +kernel
theorem dJ6_bitCount_0f7a4_40 : decode cJ6_bitCount_0f7a4 40 = .ok (.istore_n 0, 1) := by decide +kernel
theorem dJ6_bitCount_0f7a4_41 : decode cJ6_bitCount_0f7a4 41 = .ok (.iload_n 0, 1) := by decide +kernel
theorem dJ6_bitCount_0f7a4_42 : decode cJ6_bitCount_0f7a4 42 = .ok (.iload_n 0, 1) := by decide +kernel
theorem dJ6_bitCount_0f7a4_43 : decode cJ6_bitCount_0f7a4 43 = .ok (.bipush 16, 2) := by decide +kernel
theorem dJ6_bitCount_0f7a4_45 : decode cJ6_bitCount_0f7a4 45 = .ok (.iushr, 1) := by decide +kernel
theorem dJ6_bitCount_0f7a4_46 : decode cJ6_bitCount_0f7a4 46 = .ok (.iadd, 1) := by decide +kernel
theorem dJ6_bitCount_0f7a4_47 : decode cJ6_bitCount_0f7a4 47 = .ok (.istore_n 0, 1) := by decide +kernel
theorem dJ6_bitCount_0f7a4_48 : decode cJ6_bitCount_0f7a4 48 = .ok (.iload_n 0, 1) := by decide +kernel
theorem dJ6_bitCount_0f7a4_49 : decode cJ6_bitCount_0f7a4 49 = .ok (.bipush 63, 2) := by decide +kernel
theorem dJ6_bitCount_0f7a4_51 : decode cJ6_bitCount_0f7a4 51 = .ok (.iand, 1) := by decide +kernel
theorem dJ6_bitCount_0f7a4_52 : decode cJ6_bitCount_0f7a4 52 = .ok (.ireturn, 1) := by decide +kernel
theorem dJ9_max_7cf53_0 : decode cJ9_max_7cf53 0 = .ok (.iload_n 0, 1) := by decide +kernel
theorem dJ9_max_7cf53_1 : decode cJ9_max_7cf53 1 = .ok (.iload_n 1, 1) := by decide +kernel
theorem dJ9_max_7cf53_2 : decode cJ9_max_7cf53 2 = .ok (.if_icmp .lt 7, 3) := by decide +kernel
theorem dJ9_max_7cf53_5 : decode cJ9_max_7cf53 5 = .ok (.iload_n 0, 1) := by decide +kernel
theorem dJ9_max_7cf53_6 : decode cJ9_max_7cf53 6 = .ok (.goto 4, 3) := by decide +kernel
theorem dJ9_max_7cf53_9 : decode cJ9_max_7cf53 9 = .ok (.iload_n 1, 1) := by decide +kernel
theorem dJ9_max_7cf53_10 : decode cJ9_max_7cf53 10 = .ok (.ireturn, 1) := by decide +kernel
theorem dJ0_length_8abf5_0 : decode cJ0_length_8abf5 0 = .ok (.aload_n 0, 1) := by decide +kernel
theorem dJ0_length_8abf5_1 : decode cJ0_length_8abf5 1 = .ok (.getfield 9, 3) := by decide +kernel
theorem dJ0_length_8abf5_4 : decode cJ0_length_8abf5 4 = .ok (.arraylength, 1) := by decide +kernel
theorem dJ0_length_8abf5_5 : decode cJ0_length_8abf5 5 = .ok (.aload_n 0, 1) := by decide +kernel
theorem dJ0_length_8abf5_6 : decode cJ0_length_8abf5 6 = .ok (.invokevirtual 335, 3) := by decide +kernel
theorem dJ0_length_8abf5_9 : decode cJ0_length_8abf5 9 = .ok (.ishr, 1) := by decide +kernel
theorem dJ0_length_8abf5_10 : decode cJ0_length_8abf5 10 = .ok (.ireturn, 1) := by decide +kernel
theorem dJ0_charAt_5068e_0 : decode cJ0_charAt_5068e 0 = .ok (.aload_n 0, 1) := by decide +kernel
theorem dJ0_charAt_5068e_1 : decode cJ0_charAt_5068e 1 = .ok (.invokevirtual 492, 3) := by decide +kernel
theorem dJ0_charAt_5068e_4 : decode cJ0_charAt_5068e 4 = .ok (.ifCond .eq 12, 3) := by decide +kernel
theorem dJ0_charAt_5068e_7 : decode cJ0_charAt_5068e 7 = .ok (.aload_n 0, 1) := by decide +kernel
theorem dJ0_charAt_5068e_8 : decode cJ0_charAt_5068e 8 = .ok (.getfield 9, 3) := by decide +kernel
theorem dJ0_charAt_5068e_11 : decode cJ0_charAt_5068e 11 = .ok (.iload_n 1, 1) := by decide +kernel
theorem dJ0_charAt_5068e_12 : decode cJ0_charAt_5068e 12 = .ok (.invokestatic 495, 3) := by decide +kernel
theorem dJ0_charAt_5068e_15 : decode cJ0_charAt_5068e 15 = .ok (.ireturn, 1) := by decide +kernel
theorem dJ0_charAt_5068e_16 : decode cJ0_charAt_5068e 16 = .ok (.aload_n 0, 1) := by decide +kernel
theorem dJ0_charAt_5068e_17 : decode cJ0_charAt_5068e 17 = .ok (.getfield 9, 3) := by decide +kernel
theorem dJ0_charAt_5068e_20 : decode cJ0_charAt_5068e 20 = .ok (.iload_n 1, 1) := by decide +kernel
theorem dJ0_charAt_5068e_21 : decode cJ0_charAt_5068e 21 = .ok (.invokestatic 498, 3) := by decide +kernel
theorem dJ0_charAt_5068e_24 : decode cJ0_charAt_5068e 24 = .ok (.ireturn, 1) := by decide +kernel
theorem dJ0_coder_7d493_0 : decode cJ0_coder_7d493 0 = .ok (.getstatic 38, 3) := by decide +kernel
theorem dJ0_coder_7d493_3 : decode cJ0_coder_7d493 3 = .ok (.ifCond .eq 10, 3) := by decide +kernel
theorem dJ0_coder_7d493_6 : decode cJ0_coder_7d493 6 = .ok (.aload_n 0, 1) := by decide +kernel
theorem dJ0_coder_7d493_7 : decode cJ0_coder_7d493 7 = .ok (.getfield 15, 3) := by decide +kernel
theorem dJ0_coder_7d493_10 : decode cJ0_coder_7d493 10 = .ok (.goto 4, 3) := by decide +kernel
theorem dJ0_coder_7d493_13 : decode cJ0_coder_7d493 13 = .ok (.iconst 1, 1) := by decide +kernel
theorem dJ0_coder_7d493_14 : decode cJ0_coder_7d493 14 = .ok (.ireturn, 1) := by decide +kernel
theorem dJ0_isLatin1_aae02_0 : decode cJ0_isLatin1_aae02 0 = .ok (.getstatic 38, 3) := by decide +kernel
theorem dJ0_isLatin1_aae02_3 : decode cJ0_isLatin1_aae02 3 = .ok (.ifCond .eq 14, 3) := by decide +kernel
theorem dJ0_isLatin1_aae02_6 : decode cJ0_isLatin1_aae02 6 = .ok (.aload_n 0, 1) := by decide +kernel
theorem dJ0_isLatin1_aae02_7 : decode cJ0_isLatin1_aae02 7 = .ok (.getfield 15, 3) := by decide +kernel
theorem dJ0_isLatin1_aae02_10 : decode cJ0_isLatin1_aae02 10 = .ok (.ifCond .ne 7, 3) := by decide +kernel
theorem dJ0_isLatin1_aae02_13 : decode cJ0_isLatin1_aae02 13 = .ok (.iconst 1, 1) := by decide +kernel
theorem dJ0_isLatin1_aae02_14 : decode cJ0_isLatin1_aae02 14 = .ok (.goto 4, 3) := by decide +kernel
theorem dJ0_isLatin1_aae02_17 : decode cJ0_isLatin1_aae02 17 = .ok (.iconst 0, 1) := by decide +kernel
theorem dJ0_isLatin1_aae02_18 : decode cJ0_isLatin1_aae02 18 = .ok (.ireturn, 1) := by decide +kernel
theorem dJ0_checkIndex_df160_0 : decode cJ0_checkIndex_df160 0 = .ok (.iload_n 0, 1) := by decide +kernel
theorem dJ0_checkIndex_df160_1 : decode cJ0_checkIndex_df160 1 = .ok (.iload_n 1, 1) := by decide +kernel
theorem dJ0_checkIndex_df160_2 : decode cJ0_checkIndex_df160 2 = .ok (.getstatic 1053, 3) := by decide +kernel
theorem dJ0_checkIndex_df160_5 : decode cJ0_checkIndex_df160 5 = .ok (.invokestatic 1059, 3) := by decide +kernel
theorem dJ0_checkIndex_df160_8 : decode cJ0_checkIndex_df160 8 = .ok (.pop, 1) := by decide +kernel
theorem dJ0_checkIndex_df160_9 : decode cJ0_checkIndex_df160 9 = .ok (.return_, 1) := by decide +kernel
theorem dJ1_charAt_3b067_0 : decode cJ1_charAt_3b067 0 = .ok (.iload_n 1, 1) := by decide +kernel
theorem dJ1_charAt_3b067_1 : decode cJ1_charAt_3b067 1 = .ok (.aload_n 0, 1) := by decide +kernel
theorem dJ1_charAt_3b067_2 : decode cJ1_charAt_3b067 2 = .ok (.arraylength, 1) := by decide +kernel
theorem dJ1_charAt_3b067_3 : decode cJ1_charAt_3b067 3 = .ok (.invokestatic 9, 3) := by decide +kernel
theorem dJ1_charAt_3b067_6 : decode cJ1_charAt_3b067 6 = .ok (.aload_n 0, 1) := by decide +kernel
theorem dJ1_charAt_3b067_7 : decode cJ1_charAt_3b067 7 = .ok (.iload_n 1, 1) := by decide +kernel
theorem dJ1_charAt_3b067_8 : decode cJ1_charAt_3b067 8 = .ok (.baload, 1) := by decide +kernel
theorem dJ1_charAt_3b067_9 : decode cJ1_charAt_3b067 9 = .ok (.sipush 255, 3) := by decide +kernel
theorem dJ1_charAt_3b067_12 : decode cJ1_charAt_3b067 12 = .ok (.iand, 1) := by decide +kernel
theorem dJ1_charAt_3b067_13 : decode cJ1_charAt_3b067 13 = .ok (.i2c, 1) := by decide +kernel
theorem dJ1_charAt_3b067_14 : decode cJ1_charAt_3b067 14 = .ok (.ireturn, 1) := by decide +kernel
theorem dJ2_getChar_3b067_0 : decode cJ2_getChar_3b067 0 = .ok (.getstatic 44, 3) := by decide +kernel
theorem dJ2_getChar_3b067_3 : decode cJ2_getChar_3b067 3 = .ok (.ifCond .ne 25, 3) := by decide +kernel
theorem dJ2_getChar_3b067_6 : decode cJ2_getChar_3b067 6 = .ok (.iload_n 1, 1) := by decide +kernel
theorem dJ2_getChar_3b067_7 : decode cJ2_getChar_3b067 7 = .ok (.ifCond .lt 11, 3) := by decide +kernel
theorem dJ2_getChar_3b067_10 : decode cJ2_getChar_3b067 10 = .ok (.iload_n 1, 1) := by decide +kernel
theorem dJ2_getChar_3b067_11 : decode cJ2_getChar_3b067 11 = .ok (.aload_n 0, 1) := by decide +kernel
theorem dJ2_getChar_3b067_12 : decode cJ2_getChar_3b067 12 = .ok (.invokestatic 48, 3) := by decide +kernel
theorem dJ2_getChar_3b067_15 : decode cJ2_getChar_3b067 15 = .ok (.if_icmp .lt 13, 3) := by decide +kernel
theorem dJ2_getChar_3b067_18 : decode cJ2_getChar_3b067 18 = .ok (.new 52, 3) := by decide +kernel
theorem dJ2_getChar_3b067_21 : decode cJ2_getChar_3b067 21 = .ok (.dup, 1) := by decide +kernel
theorem dJ2_getChar_3b067_22 : decode cJ2_getChar_3b067 22 = .ok (.ldc 54, 2) := by decide +kernel
theorem dJ2_getChar_3b067_24 : decode cJ2_getChar_3b067 24 = .ok (.invokespecial 56, 3) := by decide +kernel
theorem dJ2_getChar_3b067_27 : decode cJ2_getChar_3b067 27 = .ok (.athrow, 1) := by decide +kernel
theorem dJ2_getChar_3b067_28 : decode cJ2_getChar_3b067 28 = .ok (.iload_n 1, 1) := by decide +kernel
theorem dJ2_getChar_3b067_29 : decode cJ2_getChar_3b067 29 = .ok (.iconst 1, 1) := by decide +kernel
theorem dJ2_getChar_3b067_30 : decode cJ2_getChar_3b067 30 = .ok (.ishl, 1) := by decide +kernel
theorem dJ2_getChar_3b067_31 : decode cJ2_getChar_3b067 31 = .ok (.istore_n 1, 1) := by decide +kernel
theorem dJ2_getChar_3b067_32 : decode cJ2_getChar_3b067 32 = .ok (.aload_n 0, 1) := by decide +kernel
theorem dJ2_getChar_3b067_33 : decode cJ2_getChar_3b067 33 = .ok (.iload_n 1, 1) := by decide +kernel
theorem dJ2_getChar_3b067_34 : decode cJ2_getChar_3b067 34 = .ok (.iinc 1 1, 3) := by decide +kernel
theorem dJ2_getChar_3b067_37 : decode cJ2_getChar_3b067 37 = .ok (.baload, 1) := by decide +kernel
theorem dJ2_getChar_3b067_38 : decode cJ2_getChar_3b067 38 = .ok (.sipush 255, 3) := by decide +kernel
theorem dJ2_getChar_3b067_41 : decode cJ2_getChar_3b067 41 = .ok (.iand, 1) := by decide +kernel
theorem dJ2_getChar_3b067_42 : decode cJ2_getChar_3b067 42 = .ok (.getstatic 59, 3) := by decide +kernel
theorem dJ2_getChar_3b067_45 : decode cJ2_getChar_3b067 45 = .ok (.ishl, 1) := by decide +kernel
theorem dJ2_getChar_3b067_46 : decode cJ2_getChar_3b067 46 = .ok (.aload_n 0, 1) := by decide +kernel
theorem dJ2_getChar_3b067_47 : decode cJ2_getChar_3b067 47 = .ok (.iload_n 1, 1) := by decide +kernel
theorem dJ2_getChar_3b067_48 : decode cJ2_getChar_3b067 48 = .ok (.baload, 1) := by decide +kernel
theorem dJ2_getChar_3b067_49 : decode cJ2_getChar_3b067 49 = .ok (.sipush 255, 3) := by decide +kernel
theorem dJ2_getChar_3b067_52 : decode cJ2_getChar_3b067 52 = .ok (.iand, 1) := by decide +kernel
theorem dJ2_getChar_3b067_53 : decode cJ2_getChar_3b067 53 = .ok (.getstatic 63, 3) := by decide +kernel
theorem dJ2_getChar_3b067_56 : decode cJ2_getChar_3b067 56 = .ok (.ishl, 1) := by decide +kernel
theorem dJ2_getChar_3b067_57 : decode cJ2_getChar_3b067 57 = .ok (.ior, 1) := by decide +kernel
theorem dJ2_getChar_3b067_58 : decode cJ2_getChar_3b067 58 = .ok (.i2c, 1) := by decide +kernel
theorem dJ2_getChar_3b067_59 : decode cJ2_getChar_3b067 59 = .ok (.ireturn, 1) := by decide +kernel
theorem dJ2_length_9d52b_0 : decode cJ2_length_9d52b 0 = .ok (.aload_n 0, 1) := by decide +kernel
theorem dJ2_length_9d52b_1 : decode cJ2_length_9d52b 1 = .ok (.arraylength, 1) := by decide +kernel
theorem dJ2_length_9d52b_2 : decode cJ2_length_9d52b 2 = .ok (.iconst 1, 1) := by decide +kernel
theorem dJ2_length_9d52b_3 : decode cJ2_length_9d52b 3 = .ok (.ishr, 1) := by decide +kernel
theorem dJ2_length_9d52b_4 : decode cJ2_length_9d52b 4 = .ok (.ireturn, 1) := by decide +kernel
theorem dJ2_charAt_3b067_0 : decode cJ2_charAt_3b067 0 = .ok (.iload_n 1, 1) := by decide +kernel
theorem dJ2_charAt_3b067_1 : decode cJ2_charAt_3b067 1 = .ok (.aload_n 0, 1) := by decide +kernel
theorem dJ2_charAt_3b067_2 : decode cJ2_charAt_3b067 2 = .ok (.invokestatic 67, 3) := by decide +kernel
theorem dJ2_charAt_3b067_5 : decode cJ2_charAt_3b067 5 = .ok (.aload_n 0, 1) := by decide +kernel
theorem dJ2_charAt_3b067_6 : decode cJ2_charAt_3b067 6 = .ok (.iload_n 1, 1) := by decide +kernel
theorem dJ2_charAt_3b067_7 : decode cJ2_charAt_3b067 7 = .ok (.invokestatic 71, 3) := by decide +kernel
theorem dJ2_charAt_3b067_10 : decode cJ2_charAt_3b067 10 = .ok (.ireturn, 1) := by decide +kernel
theorem dJ2_checkIndex_2214a_0 : decode cJ2_checkIndex_2214a 0 = .ok (.iload_n 0, 1) := by decide +kernel
theorem dJ2_checkIndex_2214a_1 : decode cJ2_checkIndex_2214a 1 = .ok (.aload_n 1, 1) := by decide +kernel
theorem dJ2_checkIndex_2214a_2 : decode cJ2_checkIndex_2214a 2 = .ok (.invokestatic 48, 3) := by decide +kernel
theorem dJ2_checkIndex_2214a_5 : decode cJ2_checkIndex_2214a 5 = .ok (.invokestatic 414, 3) := by decide +kernel
theorem dJ2_checkIndex_2214a_8 : decode cJ2_checkIndex_2214a 8 = .ok (.return_, 1) := by decide +kernel
theorem dJ7_fill_53178_0 : decode cJ7_fill_53178 0 = .ok (.iconst 0, 1) := by decide +kernel
theorem dJ7_fill_53178_1 : decode cJ7_fill_53178 1 = .ok (.istore_n 2, 1) := by decide +kernel
theorem dJ7_fill_53178_2 : decode cJ7_fill_53178 2 = .ok (.aload_n 0, 1) := by decide +kernel
theorem dJ7_fill_53178_3 : decode cJ7_fill_53178 3 = .ok (.arraylength, 1) := by decide +kernel
theorem dJ7_fill_53178_4 : decode cJ7_fill_53178 4 = .ok (.istore_n 3, 1) := by decide +kernel
theorem dJ7_fill_53178_5 : decode cJ7_fill_53178 5 = .ok (.iload_n 2, 1) := by decide +kernel
theorem dJ7_fill_53178_6 : decode cJ7_fill_53178 6 = .ok (.iload_n 3, 1) := by decide +kernel
theorem dJ7_fill_53178_7 : decode cJ7_fill_53178 7 = .ok (.if_icmp .ge 13, 3) := by decide +kernel
theorem dJ7_fill_53178_10 : decode cJ7_fill_53178 10 = .ok (.aload_n 0, 1) := by decide +kernel
theorem dJ7_fill_53178_11 : decode cJ7_fill_53178 11 = .ok (.iload_n 2, 1) := by decide +kernel
theorem dJ7_fill_53178_12 : decode cJ7_fill_53178 12 = .ok (.iload_n 1, 1) := by decide +kernel
theorem dJ7_fill_53178_13 : decode cJ7_fill_53178 13 = .ok (.iastore, 1) := by decide +kernel
theorem dJ7_fill_53178_14 : decode cJ7_fill_53178 14 = .ok (.iinc 2 1, 3) := by decide +kernel
theorem dJ7_fill_53178_17 : decode cJ7_fill_53178 17 = .ok (.goto (-12), 3) := by decide +kernel
theorem dJ7_fill_53178_20 : decode cJ7_fill_53178 20 = .ok (.return_, 1) := by decide +kernel
theorem dJ3_checkIndex_8e157_0 : decode cJ3_checkIndex_8e157 0 = .ok (.iload_n 0, 1) := by decide +kernel
theorem dJ3_checkIndex_8e157_1 : decode cJ3_checkIndex_8e157 1 = .ok (.ifCond .lt 8, 3) := by decide +kernel
theorem dJ3_checkIndex_8e157_4 : decode cJ3_checkIndex_8e157 4 = .ok (.iload_n 0, 1) := by decide +kernel
theorem dJ3_checkIndex_8e157_5 : decode cJ3_checkIndex_8e157 5 = .ok (.iload_n 1, 1) := by decide +kernel
theorem dJ3_checkIndex_8e157_6 : decode cJ3_checkIndex_8e157 6 = .ok (.if_icmp .lt 10, 3) := by decide +kernel
theorem dJ3_checkIndex_8e157_9 : decode cJ3_checkIndex_8e157 9 = .ok (.aload_n 2, 1) := by decide +kernel
theorem dJ3_checkIndex_8e157_10 : decode cJ3_checkIndex_8e157 10 = .ok (.iload_n 0, 1) := by decide +kernel
theorem dJ3_checkIndex_8e157_11 : decode cJ3_checkIndex_8e157 11 = .ok (.iload_n 1, 1) := by decide +kernel
theorem dJ3_checkIndex_8e157_12 : decode cJ3_checkIndex_8e157 12 = .ok (.invokestatic 95, 3) := by decide +kernel
theorem dJ3_checkIndex_8e157_15 : decode cJ3_checkIndex_8e157 15 = .ok (.athrow, 1) := by decide +kernel
theorem dJ3_checkIndex_8e157_16 : decode cJ3_checkIndex_8e157 16 = .ok (.iload_n 0, 1) := by decide +kernel
theorem dJ3_checkIndex_8e157_17 : decode cJ3_checkIndex_8e157 17 = .ok (.ireturn, 1) := by decide +kernel
theorem dL_law_0 : decode cL_law 0 = .ok (.new 7, 3) := by decide +kernel
theorem dL_law_3 : decode cL_law 3 = .ok (.dup, 1) := by decide +kernel
theorem dL_law_4 : decode cL_law 4 = .ok (.invokespecial 9, 3) := by decide +kernel
theorem dL_law_7 : decode cL_law 7 = .ok (.astore_n 1, 1) := by decide +kernel
theorem dL_law_8 : decode cL_law 8 = .ok (.new 10, 3) := by decide +kernel
theorem dL_law_11 : decode cL_law 11 = .ok (.dup, 1) := by decide +kernel
theorem dL_law_12 : decode cL_law 12 = .ok (.invokespecial 12, 3) := by decide +kernel
theorem dL_law_15 : decode cL_law 15 = .ok (.astore_n 2, 1) := by decide +kernel
theorem dL_law_16 : decode cL_law 16 = .ok (.iconst 0, 1) := by decide +kernel
theorem dL_law_17 : decode cL_law 17 = .ok (.istore_n 3, 1) := by decide +kernel
theorem dL_law_18 : decode cL_law 18 = .ok (.iload_n 3, 1) := by decide +kernel
theorem dL_law_19 : decode cL_law 19 = .ok (.aload_n 0, 1) := by decide +kernel
theorem dL_law_20 : decode cL_law 20 = .ok (.arraylength, 1) := by decide +kernel
theorem dL_law_21 : decode cL_law 21 = .ok (.iconst 5, 1) := by decide +kernel
theorem dL_law_22 : decode cL_law 22 = .ok (.isub, 1) := by decide +kernel
theorem dL_law_23 : decode cL_law 23 = .ok (.if_icmp .gt 1580, 3) := by decide +kernel
theorem dL_law_26 : decode cL_law 26 = .ok (.aload_n 0, 1) := by decide +kernel
theorem dL_law_27 : decode cL_law 27 = .ok (.iload_n 3, 1) := by decide +kernel
theorem dL_law_28 : decode cL_law 28 = .ok (.iaload, 1) := by decide +kernel
theorem dL_law_29 : decode cL_law 29 = .ok (.bipush 63, 2) := by decide +kernel
theorem dL_law_31 : decode cL_law 31 = .ok (.iand, 1) := by decide +kernel
theorem dL_law_32 : decode cL_law 32 = .ok (.tableswitch 1565 0 42 #[188, 211, 234, 247, 260, 283, 316, 349, 382, 415, 458, 491, 524, 557, 580, 613, 636, 669, 712, 745, 768, 791, 834, 877, 910, 953, 976, 1009, 1042, 1096, 1140, 1199, 1222, 1245, 1268, 1301, 1344, 1367, 1390, 1433, 1476, 1529, 1542], 188) := by decide +kernel
theorem dL_law_220 : decode cL_law 220 = .ok (.aload_n 1, 1) := by decide +kernel
theorem dL_law_221 : decode cL_law 221 = .ok (.aload_n 0, 1) := by decide +kernel
theorem dL_law_222 : decode cL_law 222 = .ok (.iload_n 3, 1) := by decide +kernel
theorem dL_law_223 : decode cL_law 223 = .ok (.iconst 1, 1) := by decide +kernel
theorem dL_law_224 : decode cL_law 224 = .ok (.iadd, 1) := by decide +kernel
theorem dL_law_225 : decode cL_law 225 = .ok (.iaload, 1) := by decide +kernel
theorem dL_law_226 : decode cL_law 226 = .ok (.invokevirtual 13, 3) := by decide +kernel
theorem dL_law_229 : decode cL_law 229 = .ok (.aload_n 2, 1) := by decide +kernel
theorem dL_law_230 : decode cL_law 230 = .ok (.aload_n 0, 1) := by decide +kernel
theorem dL_law_231 : decode cL_law 231 = .ok (.iload_n 3, 1) := by decide +kernel
theorem dL_law_232 : decode cL_law 232 = .ok (.iconst 1, 1) := by decide +kernel
theorem dL_law_233 : decode cL_law 233 = .ok (.iadd, 1) := by decide +kernel
theorem dL_law_234 : decode cL_law 234 = .ok (.iaload, 1) := by decide +kernel
theorem dL_law_235 : decode cL_law 235 = .ok (.invokevirtual 17, 3) := by decide +kernel
theorem dL_law_238 : decode cL_law 238 = .ok (.if_icmp .eq 1359, 3) := by decide +kernel
theorem dL_law_241 : decode cL_law 241 = .ok (.iconst 0, 1) := by decide +kernel
theorem dL_law_242 : decode cL_law 242 = .ok (.ireturn, 1) := by decide +kernel
theorem dL_law_243 : decode cL_law 243 = .ok (.aload_n 1, 1) := by decide +kernel
theorem dL_law_244 : decode cL_law 244 = .ok (.aload_n 0, 1) := by decide +kernel
theorem dL_law_245 : decode cL_law 245 = .ok (.iload_n 3, 1) := by decide +kernel
theorem dL_law_246 : decode cL_law 246 = .ok (.iconst 1, 1) := by decide +kernel
theorem dL_law_247 : decode cL_law 247 = .ok (.iadd, 1) := by decide +kernel
theorem dL_law_248 : decode cL_law 248 = .ok (.iaload, 1) := by decide +kernel
theorem dL_law_249 : decode cL_law 249 = .ok (.invokevirtual 18, 3) := by decide +kernel
theorem dL_law_252 : decode cL_law 252 = .ok (.aload_n 2, 1) := by decide +kernel
theorem dL_law_253 : decode cL_law 253 = .ok (.aload_n 0, 1) := by decide +kernel
theorem dL_law_254 : decode cL_law 254 = .ok (.iload_n 3, 1) := by decide +kernel
theorem dL_law_255 : decode cL_law 255 = .ok (.iconst 1, 1) := by decide +kernel
theorem dL_law_256 : decode cL_law 256 = .ok (.iadd, 1) := by decide +kernel
theorem dL_law_257 : decode cL_law 257 = .ok (.iaload, 1) := by decide +kernel
theorem dL_law_258 : decode cL_law 258 = .ok (.invokevirtual 21, 3) := by decide +kernel
theorem dL_law_261 : decode cL_law 261 = .ok (.if_icmp .eq 1336, 3) := by decide +kernel
theorem dL_law_264 : decode cL_law 264 = .ok (.iconst 0, 1) := by decide +kernel
theorem dL_law_265 : decode cL_law 265 = .ok (.ireturn, 1) := by decide +kernel
theorem dL_law_266 : decode cL_law 266 = .ok (.aload_n 1, 1) := by decide +kernel
theorem dL_law_267 : decode cL_law 267 = .ok (.invokevirtual 22, 3) := by decide +kernel
theorem dL_law_270 : decode cL_law 270 = .ok (.aload_n 2, 1) := by decide +kernel
theorem dL_law_271 : decode cL_law 271 = .ok (.invokevirtual 26, 3) := by decide +kernel
theorem dL_law_274 : decode cL_law 274 = .ok (.if_icmp .eq 1323, 3) := by decide +kernel
theorem dL_law_277 : decode cL_law 277 = .ok (.iconst 0, 1) := by decide +kernel
theorem dL_law_278 : decode cL_law 278 = .ok (.ireturn, 1) := by decide +kernel
theorem dL_law_279 : decode cL_law 279 = .ok (.aload_n 1, 1) := by decide +kernel
theorem dL_law_280 : decode cL_law 280 = .ok (.invokevirtual 27, 3) := by decide +kernel
theorem dL_law_283 : decode cL_law 283 = .ok (.aload_n 2, 1) := by decide +kernel
theorem dL_law_284 : decode cL_law 284 = .ok (.invokevirtual 30, 3) := by decide +kernel
theorem dL_law_287 : decode cL_law 287 = .ok (.if_icmp .eq 1310, 3) := by decide +kernel
theorem dL_law_290 : decode cL_law 290 = .ok (.iconst 0, 1) := by decide +kernel
theorem dL_law_291 : decode cL_law 291 = .ok (.ireturn, 1) := by decide +kernel
theorem dL_law_292 : decode cL_law 292 = .ok (.aload_n 1, 1) := by decide +kernel
theorem dL_law_293 : decode cL_law 293 = .ok (.aload_n 0, 1) := by decide +kernel
theorem dL_law_294 : decode cL_law 294 = .ok (.iload_n 3, 1) := by decide +kernel
theorem dL_law_295 : decode cL_law 295 = .ok (.iconst 1, 1) := by decide +kernel
theorem dL_law_296 : decode cL_law 296 = .ok (.iadd, 1) := by decide +kernel
theorem dL_law_297 : decode cL_law 297 = .ok (.iaload, 1) := by decide +kernel
theorem dL_law_298 : decode cL_law 298 = .ok (.invokevirtual 31, 3) := by decide +kernel
theorem dL_law_301 : decode cL_law 301 = .ok (.aload_n 2, 1) := by decide +kernel
theorem dL_law_302 : decode cL_law 302 = .ok (.aload_n 0, 1) := by decide +kernel
theorem dL_law_303 : decode cL_law 303 = .ok (.iload_n 3, 1) := by decide +kernel
theorem dL_law_304 : decode cL_law 304 = .ok (.iconst 1, 1) := by decide +kernel
theorem dL_law_305 : decode cL_law 305 = .ok (.iadd, 1) := by decide +kernel
theorem dL_law_306 : decode cL_law 306 = .ok (.iaload, 1) := by decide +kernel
theorem dL_law_307 : decode cL_law 307 = .ok (.invokevirtual 34, 3) := by decide +kernel
theorem dL_law_310 : decode cL_law 310 = .ok (.if_icmp .eq 1287, 3) := by decide +kernel
theorem dL_law_313 : decode cL_law 313 = .ok (.iconst 0, 1) := by decide +kernel
theorem dL_law_314 : decode cL_law 314 = .ok (.ireturn, 1) := by decide +kernel
theorem dL_law_315 : decode cL_law 315 = .ok (.aload_n 1, 1) := by decide +kernel
theorem dL_law_316 : decode cL_law 316 = .ok (.aload_n 0, 1) := by decide +kernel
theorem dL_law_317 : decode cL_law 317 = .ok (.iload_n 3, 1) := by decide +kernel
theorem dL_law_318 : decode cL_law 318 = .ok (.iconst 1, 1) := by decide +kernel
theorem dL_law_319 : decode cL_law 319 = .ok (.iadd, 1) := by decide +kernel
theorem dL_law_320 : decode cL_law 320 = .ok (.iaload, 1) := by decide +kernel
theorem dL_law_321 : decode cL_law 321 = .ok (.aload_n 0, 1) := by decide +kernel
theorem dL_law_322 : decode cL_law 322 = .ok (.iload_n 3, 1) := by decide +kernel
theorem dL_law_323 : decode cL_law 323 = .ok (.iconst 2, 1) := by decide +kernel
theorem dL_law_324 : decode cL_law 324 = .ok (.iadd, 1) := by decide +kernel
theorem dL_law_325 : decode cL_law 325 = .ok (.iaload, 1) := by decide +kernel
theorem dL_law_326 : decode cL_law 326 = .ok (.invokevirtual 35, 3) := by decide +kernel
theorem dL_law_329 : decode cL_law 329 = .ok (.aload_n 2, 1) := by decide +kernel
theorem dL_law_330 : decode cL_law 330 = .ok (.aload_n 0, 1) := by decide +kernel
theorem dL_law_331 : decode cL_law 331 = .ok (.iload_n 3, 1) := by decide +kernel
theorem dL_law_332 : decode cL_law 332 = .ok (.iconst 1, 1) := by decide +kernel
theorem dL_law_333 : decode cL_law 333 = .ok (.iadd, 1) := by decide +kernel
theorem dL_law_334 : decode cL_law 334 = .ok (.iaload, 1) := by decide +kernel
theorem dL_law_335 : decode cL_law 335 = .ok (.aload_n 0, 1) := by decide +kernel
theorem dL_law_336 : decode cL_law 336 = .ok (.iload_n 3, 1) := by decide +kernel
theorem dL_law_337 : decode cL_law 337 = .ok (.iconst 2, 1) := by decide +kernel
theorem dL_law_338 : decode cL_law 338 = .ok (.iadd, 1) := by decide +kernel
theorem dL_law_339 : decode cL_law 339 = .ok (.iaload, 1) := by decide +kernel
theorem dL_law_340 : decode cL_law 340 = .ok (.invokevirtual 39, 3) := by decide +kernel
theorem dL_law_343 : decode cL_law 343 = .ok (.if_icmp .eq 1254, 3) := by decide +kernel
theorem dL_law_346 : decode cL_law 346 = .ok (.iconst 0, 1) := by decide +kernel
theorem dL_law_347 : decode cL_law 347 = .ok (.ireturn, 1) := by decide +kernel
theorem dL_law_348 : decode cL_law 348 = .ok (.aload_n 1, 1) := by decide +kernel
theorem dL_law_349 : decode cL_law 349 = .ok (.aload_n 0, 1) := by decide +kernel
theorem dL_law_350 : decode cL_law 350 = .ok (.iload_n 3, 1) := by decide +kernel
theorem dL_law_351 : decode cL_law 351 = .ok (.iconst 1, 1) := by decide +kernel
theorem dL_law_352 : decode cL_law 352 = .ok (.iadd, 1) := by decide +kernel
theorem dL_law_353 : decode cL_law 353 = .ok (.iaload, 1) := by decide +kernel
theorem dL_law_354 : decode cL_law 354 = .ok (.aload_n 0, 1) := by decide +kernel
theorem dL_law_355 : decode cL_law 355 = .ok (.iload_n 3, 1) := by decide +kernel
theorem dL_law_356 : decode cL_law 356 = .ok (.iconst 2, 1) := by decide +kernel
theorem dL_law_357 : decode cL_law 357 = .ok (.iadd, 1) := by decide +kernel
theorem dL_law_358 : decode cL_law 358 = .ok (.iaload, 1) := by decide +kernel
theorem dL_law_359 : decode cL_law 359 = .ok (.invokevirtual 40, 3) := by decide +kernel
theorem dL_law_362 : decode cL_law 362 = .ok (.aload_n 2, 1) := by decide +kernel
theorem dL_law_363 : decode cL_law 363 = .ok (.aload_n 0, 1) := by decide +kernel
theorem dL_law_364 : decode cL_law 364 = .ok (.iload_n 3, 1) := by decide +kernel
theorem dL_law_365 : decode cL_law 365 = .ok (.iconst 1, 1) := by decide +kernel
theorem dL_law_366 : decode cL_law 366 = .ok (.iadd, 1) := by decide +kernel
theorem dL_law_367 : decode cL_law 367 = .ok (.iaload, 1) := by decide +kernel
theorem dL_law_368 : decode cL_law 368 = .ok (.aload_n 0, 1) := by decide +kernel
theorem dL_law_369 : decode cL_law 369 = .ok (.iload_n 3, 1) := by decide +kernel
theorem dL_law_370 : decode cL_law 370 = .ok (.iconst 2, 1) := by decide +kernel
theorem dL_law_371 : decode cL_law 371 = .ok (.iadd, 1) := by decide +kernel
theorem dL_law_372 : decode cL_law 372 = .ok (.iaload, 1) := by decide +kernel
theorem dL_law_373 : decode cL_law 373 = .ok (.invokevirtual 43, 3) := by decide +kernel
theorem dL_law_376 : decode cL_law 376 = .ok (.if_icmp .eq 1221, 3) := by decide +kernel
theorem dL_law_379 : decode cL_law 379 = .ok (.iconst 0, 1) := by decide +kernel
theorem dL_law_380 : decode cL_law 380 = .ok (.ireturn, 1) := by decide +kernel
theorem dL_law_381 : decode cL_law 381 = .ok (.aload_n 1, 1) := by decide +kernel
theorem dL_law_382 : decode cL_law 382 = .ok (.aload_n 0, 1) := by decide +kernel
theorem dL_law_383 : decode cL_law 383 = .ok (.iload_n 3, 1) := by decide +kernel
theorem dL_law_384 : decode cL_law 384 = .ok (.iconst 1, 1) := by decide +kernel
theorem dL_law_385 : decode cL_law 385 = .ok (.iadd, 1) := by decide +kernel
theorem dL_law_386 : decode cL_law 386 = .ok (.iaload, 1) := by decide +kernel
theorem dL_law_387 : decode cL_law 387 = .ok (.aload_n 0, 1) := by decide +kernel
theorem dL_law_388 : decode cL_law 388 = .ok (.iload_n 3, 1) := by decide +kernel
theorem dL_law_389 : decode cL_law 389 = .ok (.iconst 2, 1) := by decide +kernel
theorem dL_law_390 : decode cL_law 390 = .ok (.iadd, 1) := by decide +kernel
theorem dL_law_391 : decode cL_law 391 = .ok (.iaload, 1) := by decide +kernel
theorem dL_law_392 : decode cL_law 392 = .ok (.invokevirtual 44, 3) := by decide +kernel
theorem dL_law_395 : decode cL_law 395 = .ok (.aload_n 2, 1) := by decide +kernel
theorem dL_law_396 : decode cL_law 396 = .ok (.aload_n 0, 1) := by decide +kernel
theorem dL_law_397 : decode cL_law 397 = .ok (.iload_n 3, 1) := by decide +kernel
theorem dL_law_398 : decode cL_law 398 = .ok (.iconst 1, 1) := by decide +kernel
theorem dL_law_399 : decode cL_law 399 = .ok (.iadd, 1) := by decide +kernel
theorem dL_law_400 : decode cL_law 400 = .ok (.iaload, 1) := by decide +kernel
theorem dL_law_401 : decode cL_law 401 = .ok (.aload_n 0, 1) := by decide +kernel
theorem dL_law_402 : decode cL_law 402 = .ok (.iload_n 3, 1) := by decide +kernel
theorem dL_law_403 : decode cL_law 403 = .ok (.iconst 2, 1) := by decide +kernel
theorem dL_law_404 : decode cL_law 404 = .ok (.iadd, 1) := by decide +kernel
theorem dL_law_405 : decode cL_law 405 = .ok (.iaload, 1) := by decide +kernel
theorem dL_law_406 : decode cL_law 406 = .ok (.invokevirtual 47, 3) := by decide +kernel
theorem dL_law_409 : decode cL_law 409 = .ok (.if_icmp .eq 1188, 3) := by decide +kernel
theorem dL_law_412 : decode cL_law 412 = .ok (.iconst 0, 1) := by decide +kernel
theorem dL_law_413 : decode cL_law 413 = .ok (.ireturn, 1) := by decide +kernel
theorem dL_law_414 : decode cL_law 414 = .ok (.aload_n 1, 1) := by decide +kernel
theorem dL_law_415 : decode cL_law 415 = .ok (.aload_n 0, 1) := by decide +kernel
theorem dL_law_416 : decode cL_law 416 = .ok (.iload_n 3, 1) := by decide +kernel
theorem dL_law_417 : decode cL_law 417 = .ok (.iconst 1, 1) := by decide +kernel
theorem dL_law_418 : decode cL_law 418 = .ok (.iadd, 1) := by decide +kernel
theorem dL_law_419 : decode cL_law 419 = .ok (.iaload, 1) := by decide +kernel
theorem dL_law_420 : decode cL_law 420 = .ok (.aload_n 0, 1) := by decide +kernel
theorem dL_law_421 : decode cL_law 421 = .ok (.iload_n 3, 1) := by decide +kernel
theorem dL_law_422 : decode cL_law 422 = .ok (.iconst 2, 1) := by decide +kernel
theorem dL_law_423 : decode cL_law 423 = .ok (.iadd, 1) := by decide +kernel
theorem dL_law_424 : decode cL_law 424 = .ok (.iaload, 1) := by decide +kernel
theorem dL_law_425 : decode cL_law 425 = .ok (.invokevirtual 48, 3) := by decide +kernel
theorem dL_law_428 : decode cL_law 428 = .ok (.aload_n 2, 1) := by decide +kernel
theorem dL_law_429 : decode cL_law 429 = .ok (.aload_n 0, 1) := by decide +kernel
theorem dL_law_430 : decode cL_law 430 = .ok (.iload_n 3, 1) := by decide +kernel
theorem dL_law_431 : decode cL_law 431 = .ok (.iconst 1, 1) := by decide +kernel
theorem dL_law_432 : decode cL_law 432 = .ok (.iadd, 1) := by decide +kernel
theorem dL_law_433 : decode cL_law 433 = .ok (.iaload, 1) := by decide +kernel
theorem dL_law_434 : decode cL_law 434 = .ok (.aload_n 0, 1) := by decide +kernel
theorem dL_law_435 : decode cL_law 435 = .ok (.iload_n 3, 1) := by decide +kernel
theorem dL_law_436 : decode cL_law 436 = .ok (.iconst 2, 1) := by decide +kernel
theorem dL_law_437 : decode cL_law 437 = .ok (.iadd, 1) := by decide +kernel
theorem dL_law_438 : decode cL_law 438 = .ok (.iaload, 1) := by decide +kernel
theorem dL_law_439 : decode cL_law 439 = .ok (.invokevirtual 51, 3) := by decide +kernel
theorem dL_law_442 : decode cL_law 442 = .ok (.if_icmp .eq 1155, 3) := by decide +kernel
theorem dL_law_445 : decode cL_law 445 = .ok (.iconst 0, 1) := by decide +kernel
theorem dL_law_446 : decode cL_law 446 = .ok (.ireturn, 1) := by decide +kernel
theorem dL_law_447 : decode cL_law 447 = .ok (.aload_n 1, 1) := by decide +kernel
theorem dL_law_448 : decode cL_law 448 = .ok (.aload_n 0, 1) := by decide +kernel
theorem dL_law_449 : decode cL_law 449 = .ok (.iload_n 3, 1) := by decide +kernel
theorem dL_law_450 : decode cL_law 450 = .ok (.iconst 1, 1) := by decide +kernel
theorem dL_law_451 : decode cL_law 451 = .ok (.iadd, 1) := by decide +kernel
theorem dL_law_452 : decode cL_law 452 = .ok (.iaload, 1) := by decide +kernel
theorem dL_law_453 : decode cL_law 453 = .ok (.aload_n 0, 1) := by decide +kernel
theorem dL_law_454 : decode cL_law 454 = .ok (.iload_n 3, 1) := by decide +kernel
theorem dL_law_455 : decode cL_law 455 = .ok (.iconst 2, 1) := by decide +kernel
theorem dL_law_456 : decode cL_law 456 = .ok (.iadd, 1) := by decide +kernel
theorem dL_law_457 : decode cL_law 457 = .ok (.iaload, 1) := by decide +kernel
theorem dL_law_458 : decode cL_law 458 = .ok (.aload_n 0, 1) := by decide +kernel
theorem dL_law_459 : decode cL_law 459 = .ok (.iload_n 3, 1) := by decide +kernel
theorem dL_law_460 : decode cL_law 460 = .ok (.iconst 3, 1) := by decide +kernel
theorem dL_law_461 : decode cL_law 461 = .ok (.iadd, 1) := by decide +kernel
theorem dL_law_462 : decode cL_law 462 = .ok (.iaload, 1) := by decide +kernel
theorem dL_law_463 : decode cL_law 463 = .ok (.invokevirtual 52, 3) := by decide +kernel
theorem dL_law_466 : decode cL_law 466 = .ok (.aload_n 2, 1) := by decide +kernel
theorem dL_law_467 : decode cL_law 467 = .ok (.aload_n 0, 1) := by decide +kernel
theorem dL_law_468 : decode cL_law 468 = .ok (.iload_n 3, 1) := by decide +kernel
theorem dL_law_469 : decode cL_law 469 = .ok (.iconst 1, 1) := by decide +kernel
theorem dL_law_470 : decode cL_law 470 = .ok (.iadd, 1) := by decide +kernel
theorem dL_law_471 : decode cL_law 471 = .ok (.iaload, 1) := by decide +kernel
theorem dL_law_472 : decode cL_law 472 = .ok (.aload_n 0, 1) := by decide +kernel
theorem dL_law_473 : decode cL_law 473 = .ok (.iload_n 3, 1) := by decide +kernel
theorem dL_law_474 : decode cL_law 474 = .ok (.iconst 2, 1) := by decide +kernel
theorem dL_law_475 : decode cL_law 475 = .ok (.iadd, 1) := by decide +kernel
theorem dL_law_476 : decode cL_law 476 = .ok (.iaload, 1) := by decide +kernel
theorem dL_law_477 : decode cL_law 477 = .ok (.aload_n 0, 1) := by decide +kernel
theorem dL_law_478 : decode cL_law 478 = .ok (.iload_n 3, 1) := by decide +kernel
theorem dL_law_479 : decode cL_law 479 = .ok (.iconst 3, 1) := by decide +kernel
theorem dL_law_480 : decode cL_law 480 = .ok (.iadd, 1) := by decide +kernel
theorem dL_law_481 : decode cL_law 481 = .ok (.iaload, 1) := by decide +kernel
theorem dL_law_482 : decode cL_law 482 = .ok (.invokevirtual 56, 3) := by decide +kernel
theorem dL_law_485 : decode cL_law 485 = .ok (.if_icmp .eq 1112, 3) := by decide +kernel
theorem dL_law_488 : decode cL_law 488 = .ok (.iconst 0, 1) := by decide +kernel
theorem dL_law_489 : decode cL_law 489 = .ok (.ireturn, 1) := by decide +kernel
theorem dL_law_490 : decode cL_law 490 = .ok (.aload_n 1, 1) := by decide +kernel
theorem dL_law_491 : decode cL_law 491 = .ok (.aload_n 0, 1) := by decide +kernel
theorem dL_law_492 : decode cL_law 492 = .ok (.iload_n 3, 1) := by decide +kernel
theorem dL_law_493 : decode cL_law 493 = .ok (.iconst 1, 1) := by decide +kernel
theorem dL_law_494 : decode cL_law 494 = .ok (.iadd, 1) := by decide +kernel
theorem dL_law_495 : decode cL_law 495 = .ok (.iaload, 1) := by decide +kernel
theorem dL_law_496 : decode cL_law 496 = .ok (.aload_n 0, 1) := by decide +kernel
theorem dL_law_497 : decode cL_law 497 = .ok (.iload_n 3, 1) := by decide +kernel
theorem dL_law_498 : decode cL_law 498 = .ok (.iconst 2, 1) := by decide +kernel
theorem dL_law_499 : decode cL_law 499 = .ok (.iadd, 1) := by decide +kernel
theorem dL_law_500 : decode cL_law 500 = .ok (.iaload, 1) := by decide +kernel
theorem dL_law_501 : decode cL_law 501 = .ok (.invokevirtual 57, 3) := by decide +kernel
theorem dL_law_504 : decode cL_law 504 = .ok (.aload_n 2, 1) := by decide +kernel
theorem dL_law_505 : decode cL_law 505 = .ok (.aload_n 0, 1) := by decide +kernel
theorem dL_law_506 : decode cL_law 506 = .ok (.iload_n 3, 1) := by decide +kernel
theorem dL_law_507 : decode cL_law 507 = .ok (.iconst 1, 1) := by decide +kernel
theorem dL_law_508 : decode cL_law 508 = .ok (.iadd, 1) := by decide +kernel
theorem dL_law_509 : decode cL_law 509 = .ok (.iaload, 1) := by decide +kernel
theorem dL_law_510 : decode cL_law 510 = .ok (.aload_n 0, 1) := by decide +kernel
theorem dL_law_511 : decode cL_law 511 = .ok (.iload_n 3, 1) := by decide +kernel
theorem dL_law_512 : decode cL_law 512 = .ok (.iconst 2, 1) := by decide +kernel
theorem dL_law_513 : decode cL_law 513 = .ok (.iadd, 1) := by decide +kernel
theorem dL_law_514 : decode cL_law 514 = .ok (.iaload, 1) := by decide +kernel
theorem dL_law_515 : decode cL_law 515 = .ok (.invokevirtual 60, 3) := by decide +kernel
theorem dL_law_518 : decode cL_law 518 = .ok (.if_icmp .eq 1079, 3) := by decide +kernel
theorem dL_law_521 : decode cL_law 521 = .ok (.iconst 0, 1) := by decide +kernel
theorem dL_law_522 : decode cL_law 522 = .ok (.ireturn, 1) := by decide +kernel
theorem dL_law_523 : decode cL_law 523 = .ok (.aload_n 1, 1) := by decide +kernel
theorem dL_law_524 : decode cL_law 524 = .ok (.aload_n 0, 1) := by decide +kernel
theorem dL_law_525 : decode cL_law 525 = .ok (.iload_n 3, 1) := by decide +kernel
theorem dL_law_526 : decode cL_law 526 = .ok (.iconst 1, 1) := by decide +kernel
theorem dL_law_527 : decode cL_law 527 = .ok (.iadd, 1) := by decide +kernel
theorem dL_law_528 : decode cL_law 528 = .ok (.iaload, 1) := by decide +kernel
theorem dL_law_529 : decode cL_law 529 = .ok (.aload_n 0, 1) := by decide +kernel
theorem dL_law_530 : decode cL_law 530 = .ok (.iload_n 3, 1) := by decide +kernel
theorem dL_law_531 : decode cL_law 531 = .ok (.iconst 2, 1) := by decide +kernel
theorem dL_law_532 : decode cL_law 532 = .ok (.iadd, 1) := by decide +kernel
theorem dL_law_533 : decode cL_law 533 = .ok (.iaload, 1) := by decide +kernel
theorem dL_law_534 : decode cL_law 534 = .ok (.invokevirtual 61, 3) := by decide +kernel
theorem dL_law_537 : decode cL_law 537 = .ok (.aload_n 2, 1) := by decide +kernel
theorem dL_law_538 : decode cL_law 538 = .ok (.aload_n 0, 1) := by decide +kernel
theorem dL_law_539 : decode cL_law 539 = .ok (.iload_n 3, 1) := by decide +kernel
theorem dL_law_540 : decode cL_law 540 = .ok (.iconst 1, 1) := by decide +kernel
theorem dL_law_541 : decode cL_law 541 = .ok (.iadd, 1) := by decide +kernel
theorem dL_law_542 : decode cL_law 542 = .ok (.iaload, 1) := by decide +kernel
theorem dL_law_543 : decode cL_law 543 = .ok (.aload_n 0, 1) := by decide +kernel
theorem dL_law_544 : decode cL_law 544 = .ok (.iload_n 3, 1) := by decide +kernel
theorem dL_law_545 : decode cL_law 545 = .ok (.iconst 2, 1) := by decide +kernel
theorem dL_law_546 : decode cL_law 546 = .ok (.iadd, 1) := by decide +kernel
theorem dL_law_547 : decode cL_law 547 = .ok (.iaload, 1) := by decide +kernel
theorem dL_law_548 : decode cL_law 548 = .ok (.invokevirtual 64, 3) := by decide +kernel
theorem dL_law_551 : decode cL_law 551 = .ok (.if_icmp .eq 1046, 3) := by decide +kernel
theorem dL_law_554 : decode cL_law 554 = .ok (.iconst 0, 1) := by decide +kernel
theorem dL_law_555 : decode cL_law 555 = .ok (.ireturn, 1) := by decide +kernel
theorem dL_law_556 : decode cL_law 556 = .ok (.aload_n 1, 1) := by decide +kernel
theorem dL_law_557 : decode cL_law 557 = .ok (.aload_n 0, 1) := by decide +kernel
theorem dL_law_558 : decode cL_law 558 = .ok (.iload_n 3, 1) := by decide +kernel
theorem dL_law_559 : decode cL_law 559 = .ok (.iconst 1, 1) := by decide +kernel
theorem dL_law_560 : decode cL_law 560 = .ok (.iadd, 1) := by decide +kernel
theorem dL_law_561 : decode cL_law 561 = .ok (.iaload, 1) := by decide +kernel
theorem dL_law_562 : decode cL_law 562 = .ok (.aload_n 0, 1) := by decide +kernel
theorem dL_law_563 : decode cL_law 563 = .ok (.iload_n 3, 1) := by decide +kernel
theorem dL_law_564 : decode cL_law 564 = .ok (.iconst 2, 1) := by decide +kernel
theorem dL_law_565 : decode cL_law 565 = .ok (.iadd, 1) := by decide +kernel
theorem dL_law_566 : decode cL_law 566 = .ok (.iaload, 1) := by decide +kernel
theorem dL_law_567 : decode cL_law 567 = .ok (.invokevirtual 65, 3) := by decide +kernel
theorem dL_law_570 : decode cL_law 570 = .ok (.aload_n 2, 1) := by decide +kernel
theorem dL_law_571 : decode cL_law 571 = .ok (.aload_n 0, 1) := by decide +kernel
theorem dL_law_572 : decode cL_law 572 = .ok (.iload_n 3, 1) := by decide +kernel
theorem dL_law_573 : decode cL_law 573 = .ok (.iconst 1, 1) := by decide +kernel
theorem dL_law_574 : decode cL_law 574 = .ok (.iadd, 1) := by decide +kernel
theorem dL_law_575 : decode cL_law 575 = .ok (.iaload, 1) := by decide +kernel
theorem dL_law_576 : decode cL_law 576 = .ok (.aload_n 0, 1) := by decide +kernel
theorem dL_law_577 : decode cL_law 577 = .ok (.iload_n 3, 1) := by decide +kernel
theorem dL_law_578 : decode cL_law 578 = .ok (.iconst 2, 1) := by decide +kernel
theorem dL_law_579 : decode cL_law 579 = .ok (.iadd, 1) := by decide +kernel
theorem dL_law_580 : decode cL_law 580 = .ok (.iaload, 1) := by decide +kernel
theorem dL_law_581 : decode cL_law 581 = .ok (.invokevirtual 68, 3) := by decide +kernel
theorem dL_law_584 : decode cL_law 584 = .ok (.if_icmp .eq 1013, 3) := by decide +kernel
theorem dL_law_587 : decode cL_law 587 = .ok (.iconst 0, 1) := by decide +kernel
theorem dL_law_588 : decode cL_law 588 = .ok (.ireturn, 1) := by decide +kernel
theorem dL_law_589 : decode cL_law 589 = .ok (.aload_n 1, 1) := by decide +kernel
theorem dL_law_590 : decode cL_law 590 = .ok (.aload_n 0, 1) := by decide +kernel
theorem dL_law_591 : decode cL_law 591 = .ok (.iload_n 3, 1) := by decide +kernel
theorem dL_law_592 : decode cL_law 592 = .ok (.iconst 1, 1) := by decide +kernel
theorem dL_law_593 : decode cL_law 593 = .ok (.iadd, 1) := by decide +kernel
theorem dL_law_594 : decode cL_law 594 = .ok (.iaload, 1) := by decide +kernel
theorem dL_law_595 : decode cL_law 595 = .ok (.invokevirtual 69, 3) := by decide +kernel
theorem dL_law_598 : decode cL_law 598 = .ok (.aload_n 2, 1) := by decide +kernel
theorem dL_law_599 : decode cL_law 599 = .ok (.aload_n 0, 1) := by decide +kernel
theorem dL_law_600 : decode cL_law 600 = .ok (.iload_n 3, 1) := by decide +kernel
theorem dL_law_601 : decode cL_law 601 = .ok (.iconst 1, 1) := by decide +kernel
theorem dL_law_602 : decode cL_law 602 = .ok (.iadd, 1) := by decide +kernel
theorem dL_law_603 : decode cL_law 603 = .ok (.iaload, 1) := by decide +kernel
theorem dL_law_604 : decode cL_law 604 = .ok (.invokevirtual 72, 3) := by decide +kernel
theorem dL_law_607 : decode cL_law 607 = .ok (.if_icmp .eq 990, 3) := by decide +kernel
theorem dL_law_610 : decode cL_law 610 = .ok (.iconst 0, 1) := by decide +kernel
theorem dL_law_611 : decode cL_law 611 = .ok (.ireturn, 1) := by decide +kernel
theorem dL_law_612 : decode cL_law 612 = .ok (.aload_n 1, 1) := by decide +kernel
theorem dL_law_613 : decode cL_law 613 = .ok (.aload_n 0, 1) := by decide +kernel
theorem dL_law_614 : decode cL_law 614 = .ok (.iload_n 3, 1) := by decide +kernel
theorem dL_law_615 : decode cL_law 615 = .ok (.iconst 1, 1) := by decide +kernel
theorem dL_law_616 : decode cL_law 616 = .ok (.iadd, 1) := by decide +kernel
theorem dL_law_617 : decode cL_law 617 = .ok (.iaload, 1) := by decide +kernel
theorem dL_law_618 : decode cL_law 618 = .ok (.aload_n 0, 1) := by decide +kernel
theorem dL_law_619 : decode cL_law 619 = .ok (.iload_n 3, 1) := by decide +kernel
theorem dL_law_620 : decode cL_law 620 = .ok (.iconst 2, 1) := by decide +kernel
theorem dL_law_621 : decode cL_law 621 = .ok (.iadd, 1) := by decide +kernel
theorem dL_law_622 : decode cL_law 622 = .ok (.iaload, 1) := by decide +kernel
theorem dL_law_623 : decode cL_law 623 = .ok (.invokevirtual 73, 3) := by decide +kernel
theorem dL_law_626 : decode cL_law 626 = .ok (.aload_n 2, 1) := by decide +kernel
theorem dL_law_627 : decode cL_law 627 = .ok (.aload_n 0, 1) := by decide +kernel
theorem dL_law_628 : decode cL_law 628 = .ok (.iload_n 3, 1) := by decide +kernel
theorem dL_law_629 : decode cL_law 629 = .ok (.iconst 1, 1) := by decide +kernel
theorem dL_law_630 : decode cL_law 630 = .ok (.iadd, 1) := by decide +kernel
theorem dL_law_631 : decode cL_law 631 = .ok (.iaload, 1) := by decide +kernel
theorem dL_law_632 : decode cL_law 632 = .ok (.aload_n 0, 1) := by decide +kernel
theorem dL_law_633 : decode cL_law 633 = .ok (.iload_n 3, 1) := by decide +kernel
theorem dL_law_634 : decode cL_law 634 = .ok (.iconst 2, 1) := by decide +kernel
theorem dL_law_635 : decode cL_law 635 = .ok (.iadd, 1) := by decide +kernel
theorem dL_law_636 : decode cL_law 636 = .ok (.iaload, 1) := by decide +kernel
theorem dL_law_637 : decode cL_law 637 = .ok (.invokevirtual 76, 3) := by decide +kernel
theorem dL_law_640 : decode cL_law 640 = .ok (.if_icmp .eq 957, 3) := by decide +kernel
theorem dL_law_643 : decode cL_law 643 = .ok (.iconst 0, 1) := by decide +kernel
theorem dL_law_644 : decode cL_law 644 = .ok (.ireturn, 1) := by decide +kernel
theorem dL_law_645 : decode cL_law 645 = .ok (.aload_n 1, 1) := by decide +kernel
theorem dL_law_646 : decode cL_law 646 = .ok (.aload_n 0, 1) := by decide +kernel
theorem dL_law_647 : decode cL_law 647 = .ok (.iload_n 3, 1) := by decide +kernel
theorem dL_law_648 : decode cL_law 648 = .ok (.iconst 1, 1) := by decide +kernel
theorem dL_law_649 : decode cL_law 649 = .ok (.iadd, 1) := by decide +kernel
theorem dL_law_650 : decode cL_law 650 = .ok (.iaload, 1) := by decide +kernel
theorem dL_law_651 : decode cL_law 651 = .ok (.invokevirtual 77, 3) := by decide +kernel
theorem dL_law_654 : decode cL_law 654 = .ok (.aload_n 2, 1) := by decide +kernel
theorem dL_law_655 : decode cL_law 655 = .ok (.aload_n 0, 1) := by decide +kernel
theorem dL_law_656 : decode cL_law 656 = .ok (.iload_n 3, 1) := by decide +kernel
theorem dL_law_657 : decode cL_law 657 = .ok (.iconst 1, 1) := by decide +kernel
theorem dL_law_658 : decode cL_law 658 = .ok (.iadd, 1) := by decide +kernel
theorem dL_law_659 : decode cL_law 659 = .ok (.iaload, 1) := by decide +kernel
theorem dL_law_660 : decode cL_law 660 = .ok (.invokevirtual 80, 3) := by decide +kernel
theorem dL_law_663 : decode cL_law 663 = .ok (.if_icmp .eq 934, 3) := by decide +kernel
theorem dL_law_666 : decode cL_law 666 = .ok (.iconst 0, 1) := by decide +kernel
theorem dL_law_667 : decode cL_law 667 = .ok (.ireturn, 1) := by decide +kernel
theorem dL_law_668 : decode cL_law 668 = .ok (.aload_n 1, 1) := by decide +kernel
theorem dL_law_669 : decode cL_law 669 = .ok (.aload_n 0, 1) := by decide +kernel
theorem dL_law_670 : decode cL_law 670 = .ok (.iload_n 3, 1) := by decide +kernel
theorem dL_law_671 : decode cL_law 671 = .ok (.iconst 1, 1) := by decide +kernel
theorem dL_law_672 : decode cL_law 672 = .ok (.iadd, 1) := by decide +kernel
theorem dL_law_673 : decode cL_law 673 = .ok (.iaload, 1) := by decide +kernel
theorem dL_law_674 : decode cL_law 674 = .ok (.aload_n 0, 1) := by decide +kernel
theorem dL_law_675 : decode cL_law 675 = .ok (.iload_n 3, 1) := by decide +kernel
theorem dL_law_676 : decode cL_law 676 = .ok (.iconst 2, 1) := by decide +kernel
theorem dL_law_677 : decode cL_law 677 = .ok (.iadd, 1) := by decide +kernel
theorem dL_law_678 : decode cL_law 678 = .ok (.iaload, 1) := by decide +kernel
theorem dL_law_679 : decode cL_law 679 = .ok (.invokevirtual 81, 3) := by decide +kernel
theorem dL_law_682 : decode cL_law 682 = .ok (.aload_n 2, 1) := by decide +kernel
theorem dL_law_683 : decode cL_law 683 = .ok (.aload_n 0, 1) := by decide +kernel
theorem dL_law_684 : decode cL_law 684 = .ok (.iload_n 3, 1) := by decide +kernel
theorem dL_law_685 : decode cL_law 685 = .ok (.iconst 1, 1) := by decide +kernel
theorem dL_law_686 : decode cL_law 686 = .ok (.iadd, 1) := by decide +kernel
theorem dL_law_687 : decode cL_law 687 = .ok (.iaload, 1) := by decide +kernel
theorem dL_law_688 : decode cL_law 688 = .ok (.aload_n 0, 1) := by decide +kernel
theorem dL_law_689 : decode cL_law 689 = .ok (.iload_n 3, 1) := by decide +kernel
theorem dL_law_690 : decode cL_law 690 = .ok (.iconst 2, 1) := by decide +kernel
theorem dL_law_691 : decode cL_law 691 = .ok (.iadd, 1) := by decide +kernel
theorem dL_law_692 : decode cL_law 692 = .ok (.iaload, 1) := by decide +kernel
theorem dL_law_693 : decode cL_law 693 = .ok (.invokevirtual 84, 3) := by decide +kernel
theorem dL_law_696 : decode cL_law 696 = .ok (.if_icmp .eq 901, 3) := by decide +kernel
theorem dL_law_699 : decode cL_law 699 = .ok (.iconst 0, 1) := by decide +kernel
theorem dL_law_700 : decode cL_law 700 = .ok (.ireturn, 1) := by decide +kernel
theorem dL_law_701 : decode cL_law 701 = .ok (.aload_n 1, 1) := by decide +kernel
theorem dL_law_702 : decode cL_law 702 = .ok (.aload_n 0, 1) := by decide +kernel
theorem dL_law_703 : decode cL_law 703 = .ok (.iload_n 3, 1) := by decide +kernel
theorem dL_law_704 : decode cL_law 704 = .ok (.iconst 1, 1) := by decide +kernel
theorem dL_law_705 : decode cL_law 705 = .ok (.iadd, 1) := by decide +kernel
theorem dL_law_706 : decode cL_law 706 = .ok (.iaload, 1) := by decide +kernel
theorem dL_law_707 : decode cL_law 707 = .ok (.aload_n 0, 1) := by decide +kernel
theorem dL_law_708 : decode cL_law 708 = .ok (.iload_n 3, 1) := by decide +kernel
theorem dL_law_709 : decode cL_law 709 = .ok (.iconst 2, 1) := by decide +kernel
theorem dL_law_710 : decode cL_law 710 = .ok (.iadd, 1) := by decide +kernel
theorem dL_law_711 : decode cL_law 711 = .ok (.iaload, 1) := by decide +kernel
theorem dL_law_712 : decode cL_law 712 = .ok (.aload_n 0, 1) := by decide +kernel
theorem dL_law_713 : decode cL_law 713 = .ok (.iload_n 3, 1) := by decide +kernel
theorem dL_law_714 : decode cL_law 714 = .ok (.iconst 3, 1) := by decide +kernel
theorem dL_law_715 : decode cL_law 715 = .ok (.iadd, 1) := by decide +kernel
theorem dL_law_716 : decode cL_law 716 = .ok (.iaload, 1) := by decide +kernel
theorem dL_law_717 : decode cL_law 717 = .ok (.invokevirtual 85, 3) := by decide +kernel
theorem dL_law_720 : decode cL_law 720 = .ok (.aload_n 2, 1) := by decide +kernel
theorem dL_law_721 : decode cL_law 721 = .ok (.aload_n 0, 1) := by decide +kernel
theorem dL_law_722 : decode cL_law 722 = .ok (.iload_n 3, 1) := by decide +kernel
theorem dL_law_723 : decode cL_law 723 = .ok (.iconst 1, 1) := by decide +kernel
theorem dL_law_724 : decode cL_law 724 = .ok (.iadd, 1) := by decide +kernel
theorem dL_law_725 : decode cL_law 725 = .ok (.iaload, 1) := by decide +kernel
theorem dL_law_726 : decode cL_law 726 = .ok (.aload_n 0, 1) := by decide +kernel
theorem dL_law_727 : decode cL_law 727 = .ok (.iload_n 3, 1) := by decide +kernel
theorem dL_law_728 : decode cL_law 728 = .ok (.iconst 2, 1) := by decide +kernel
theorem dL_law_729 : decode cL_law 729 = .ok (.iadd, 1) := by decide +kernel
theorem dL_law_730 : decode cL_law 730 = .ok (.iaload, 1) := by decide +kernel
theorem dL_law_731 : decode cL_law 731 = .ok (.aload_n 0, 1) := by decide +kernel
theorem dL_law_732 : decode cL_law 732 = .ok (.iload_n 3, 1) := by decide +kernel
theorem dL_law_733 : decode cL_law 733 = .ok (.iconst 3, 1) := by decide +kernel
theorem dL_law_734 : decode cL_law 734 = .ok (.iadd, 1) := by decide +kernel
theorem dL_law_735 : decode cL_law 735 = .ok (.iaload, 1) := by decide +kernel
theorem dL_law_736 : decode cL_law 736 = .ok (.invokevirtual 88, 3) := by decide +kernel
theorem dL_law_739 : decode cL_law 739 = .ok (.if_icmp .eq 858, 3) := by decide +kernel
theorem dL_law_742 : decode cL_law 742 = .ok (.iconst 0, 1) := by decide +kernel
theorem dL_law_743 : decode cL_law 743 = .ok (.ireturn, 1) := by decide +kernel
theorem dL_law_744 : decode cL_law 744 = .ok (.aload_n 1, 1) := by decide +kernel
theorem dL_law_745 : decode cL_law 745 = .ok (.aload_n 0, 1) := by decide +kernel
theorem dL_law_746 : decode cL_law 746 = .ok (.iload_n 3, 1) := by decide +kernel
theorem dL_law_747 : decode cL_law 747 = .ok (.iconst 1, 1) := by decide +kernel
theorem dL_law_748 : decode cL_law 748 = .ok (.iadd, 1) := by decide +kernel
theorem dL_law_749 : decode cL_law 749 = .ok (.iaload, 1) := by decide +kernel
theorem dL_law_750 : decode cL_law 750 = .ok (.aload_n 0, 1) := by decide +kernel
theorem dL_law_751 : decode cL_law 751 = .ok (.iload_n 3, 1) := by decide +kernel
theorem dL_law_752 : decode cL_law 752 = .ok (.iconst 2, 1) := by decide +kernel
theorem dL_law_753 : decode cL_law 753 = .ok (.iadd, 1) := by decide +kernel
theorem dL_law_754 : decode cL_law 754 = .ok (.iaload, 1) := by decide +kernel
theorem dL_law_755 : decode cL_law 755 = .ok (.invokevirtual 89, 3) := by decide +kernel
theorem dL_law_758 : decode cL_law 758 = .ok (.aload_n 2, 1) := by decide +kernel
theorem dL_law_759 : decode cL_law 759 = .ok (.aload_n 0, 1) := by decide +kernel
theorem dL_law_760 : decode cL_law 760 = .ok (.iload_n 3, 1) := by decide +kernel
theorem dL_law_761 : decode cL_law 761 = .ok (.iconst 1, 1) := by decide +kernel
theorem dL_law_762 : decode cL_law 762 = .ok (.iadd, 1) := by decide +kernel
theorem dL_law_763 : decode cL_law 763 = .ok (.iaload, 1) := by decide +kernel
theorem dL_law_764 : decode cL_law 764 = .ok (.aload_n 0, 1) := by decide +kernel
theorem dL_law_765 : decode cL_law 765 = .ok (.iload_n 3, 1) := by decide +kernel
theorem dL_law_766 : decode cL_law 766 = .ok (.iconst 2, 1) := by decide +kernel
theorem dL_law_767 : decode cL_law 767 = .ok (.iadd, 1) := by decide +kernel
theorem dL_law_768 : decode cL_law 768 = .ok (.iaload, 1) := by decide +kernel
theorem dL_law_769 : decode cL_law 769 = .ok (.invokevirtual 92, 3) := by decide +kernel
theorem dL_law_772 : decode cL_law 772 = .ok (.if_icmp .eq 825, 3) := by decide +kernel
theorem dL_law_775 : decode cL_law 775 = .ok (.iconst 0, 1) := by decide +kernel
theorem dL_law_776 : decode cL_law 776 = .ok (.ireturn, 1) := by decide +kernel
theorem dL_law_777 : decode cL_law 777 = .ok (.aload_n 1, 1) := by decide +kernel
theorem dL_law_778 : decode cL_law 778 = .ok (.aload_n 0, 1) := by decide +kernel
theorem dL_law_779 : decode cL_law 779 = .ok (.iload_n 3, 1) := by decide +kernel
theorem dL_law_780 : decode cL_law 780 = .ok (.iconst 1, 1) := by decide +kernel
theorem dL_law_781 : decode cL_law 781 = .ok (.iadd, 1) := by decide +kernel
theorem dL_law_782 : decode cL_law 782 = .ok (.iaload, 1) := by decide +kernel
theorem dL_law_783 : decode cL_law 783 = .ok (.invokevirtual 93, 3) := by decide +kernel
theorem dL_law_786 : decode cL_law 786 = .ok (.aload_n 2, 1) := by decide +kernel
theorem dL_law_787 : decode cL_law 787 = .ok (.aload_n 0, 1) := by decide +kernel
theorem dL_law_788 : decode cL_law 788 = .ok (.iload_n 3, 1) := by decide +kernel
theorem dL_law_789 : decode cL_law 789 = .ok (.iconst 1, 1) := by decide +kernel
theorem dL_law_790 : decode cL_law 790 = .ok (.iadd, 1) := by decide +kernel
theorem dL_law_791 : decode cL_law 791 = .ok (.iaload, 1) := by decide +kernel
theorem dL_law_792 : decode cL_law 792 = .ok (.invokevirtual 96, 3) := by decide +kernel
theorem dL_law_795 : decode cL_law 795 = .ok (.if_icmp .eq 802, 3) := by decide +kernel
theorem dL_law_798 : decode cL_law 798 = .ok (.iconst 0, 1) := by decide +kernel
theorem dL_law_799 : decode cL_law 799 = .ok (.ireturn, 1) := by decide +kernel
theorem dL_law_800 : decode cL_law 800 = .ok (.aload_n 1, 1) := by decide +kernel
theorem dL_law_801 : decode cL_law 801 = .ok (.aload_n 0, 1) := by decide +kernel
theorem dL_law_802 : decode cL_law 802 = .ok (.iload_n 3, 1) := by decide +kernel
theorem dL_law_803 : decode cL_law 803 = .ok (.iconst 1, 1) := by decide +kernel
theorem dL_law_804 : decode cL_law 804 = .ok (.iadd, 1) := by decide +kernel
theorem dL_law_805 : decode cL_law 805 = .ok (.iaload, 1) := by decide +kernel
theorem dL_law_806 : decode cL_law 806 = .ok (.invokevirtual 97, 3) := by decide +kernel
theorem dL_law_809 : decode cL_law 809 = .ok (.aload_n 2, 1) := by decide +kernel
theorem dL_law_810 : decode cL_law 810 = .ok (.aload_n 0, 1) := by decide +kernel
theorem dL_law_811 : decode cL_law 811 = .ok (.iload_n 3, 1) := by decide +kernel
theorem dL_law_812 : decode cL_law 812 = .ok (.iconst 1, 1) := by decide +kernel
theorem dL_law_813 : decode cL_law 813 = .ok (.iadd, 1) := by decide +kernel
theorem dL_law_814 : decode cL_law 814 = .ok (.iaload, 1) := by decide +kernel
theorem dL_law_815 : decode cL_law 815 = .ok (.invokevirtual 100, 3) := by decide +kernel
theorem dL_law_818 : decode cL_law 818 = .ok (.if_icmp .eq 779, 3) := by decide +kernel
theorem dL_law_821 : decode cL_law 821 = .ok (.iconst 0, 1) := by decide +kernel
theorem dL_law_822 : decode cL_law 822 = .ok (.ireturn, 1) := by decide +kernel
theorem dL_law_823 : decode cL_law 823 = .ok (.aload_n 1, 1) := by decide +kernel
theorem dL_law_824 : decode cL_law 824 = .ok (.aload_n 0, 1) := by decide +kernel
theorem dL_law_825 : decode cL_law 825 = .ok (.iload_n 3, 1) := by decide +kernel
theorem dL_law_826 : decode cL_law 826 = .ok (.iconst 1, 1) := by decide +kernel
theorem dL_law_827 : decode cL_law 827 = .ok (.iadd, 1) := by decide +kernel
theorem dL_law_828 : decode cL_law 828 = .ok (.iaload, 1) := by decide +kernel
theorem dL_law_829 : decode cL_law 829 = .ok (.aload_n 0, 1) := by decide +kernel
theorem dL_law_830 : decode cL_law 830 = .ok (.iload_n 3, 1) := by decide +kernel
theorem dL_law_831 : decode cL_law 831 = .ok (.iconst 2, 1) := by decide +kernel
theorem dL_law_832 : decode cL_law 832 = .ok (.iadd, 1) := by decide +kernel
theorem dL_law_833 : decode cL_law 833 = .ok (.iaload, 1) := by decide +kernel
theorem dL_law_834 : decode cL_law 834 = .ok (.aload_n 0, 1) := by decide +kernel
theorem dL_law_835 : decode cL_law 835 = .ok (.iload_n 3, 1) := by decide +kernel
theorem dL_law_836 : decode cL_law 836 = .ok (.iconst 3, 1) := by decide +kernel
theorem dL_law_837 : decode cL_law 837 = .ok (.iadd, 1) := by decide +kernel
theorem dL_law_838 : decode cL_law 838 = .ok (.iaload, 1) := by decide +kernel
theorem dL_law_839 : decode cL_law 839 = .ok (.invokevirtual 101, 3) := by decide +kernel
theorem dL_law_842 : decode cL_law 842 = .ok (.aload_n 2, 1) := by decide +kernel
theorem dL_law_843 : decode cL_law 843 = .ok (.aload_n 0, 1) := by decide +kernel
theorem dL_law_844 : decode cL_law 844 = .ok (.iload_n 3, 1) := by decide +kernel
theorem dL_law_845 : decode cL_law 845 = .ok (.iconst 1, 1) := by decide +kernel
theorem dL_law_846 : decode cL_law 846 = .ok (.iadd, 1) := by decide +kernel
theorem dL_law_847 : decode cL_law 847 = .ok (.iaload, 1) := by decide +kernel
theorem dL_law_848 : decode cL_law 848 = .ok (.aload_n 0, 1) := by decide +kernel
theorem dL_law_849 : decode cL_law 849 = .ok (.iload_n 3, 1) := by decide +kernel
theorem dL_law_850 : decode cL_law 850 = .ok (.iconst 2, 1) := by decide +kernel
theorem dL_law_851 : decode cL_law 851 = .ok (.iadd, 1) := by decide +kernel
theorem dL_law_852 : decode cL_law 852 = .ok (.iaload, 1) := by decide +kernel
theorem dL_law_853 : decode cL_law 853 = .ok (.aload_n 0, 1) := by decide +kernel
theorem dL_law_854 : decode cL_law 854 = .ok (.iload_n 3, 1) := by decide +kernel
theorem dL_law_855 : decode cL_law 855 = .ok (.iconst 3, 1) := by decide +kernel
theorem dL_law_856 : decode cL_law 856 = .ok (.iadd, 1) := by decide +kernel
theorem dL_law_857 : decode cL_law 857 = .ok (.iaload, 1) := by decide +kernel
theorem dL_law_858 : decode cL_law 858 = .ok (.invokevirtual 104, 3) := by decide +kernel
theorem dL_law_861 : decode cL_law 861 = .ok (.if_icmp .eq 736, 3) := by decide +kernel
theorem dL_law_864 : decode cL_law 864 = .ok (.iconst 0, 1) := by decide +kernel
theorem dL_law_865 : decode cL_law 865 = .ok (.ireturn, 1) := by decide +kernel
theorem dL_law_866 : decode cL_law 866 = .ok (.aload_n 1, 1) := by decide +kernel
theorem dL_law_867 : decode cL_law 867 = .ok (.aload_n 0, 1) := by decide +kernel
theorem dL_law_868 : decode cL_law 868 = .ok (.iload_n 3, 1) := by decide +kernel
theorem dL_law_869 : decode cL_law 869 = .ok (.iconst 1, 1) := by decide +kernel
theorem dL_law_870 : decode cL_law 870 = .ok (.iadd, 1) := by decide +kernel
theorem dL_law_871 : decode cL_law 871 = .ok (.iaload, 1) := by decide +kernel
theorem dL_law_872 : decode cL_law 872 = .ok (.aload_n 0, 1) := by decide +kernel
theorem dL_law_873 : decode cL_law 873 = .ok (.iload_n 3, 1) := by decide +kernel
theorem dL_law_874 : decode cL_law 874 = .ok (.iconst 2, 1) := by decide +kernel
theorem dL_law_875 : decode cL_law 875 = .ok (.iadd, 1) := by decide +kernel
theorem dL_law_876 : decode cL_law 876 = .ok (.iaload, 1) := by decide +kernel
theorem dL_law_877 : decode cL_law 877 = .ok (.aload_n 0, 1) := by decide +kernel
theorem dL_law_878 : decode cL_law 878 = .ok (.iload_n 3, 1) := by decide +kernel
theorem dL_law_879 : decode cL_law 879 = .ok (.iconst 3, 1) := by decide +kernel
theorem dL_law_880 : decode cL_law 880 = .ok (.iadd, 1) := by decide +kernel
theorem dL_law_881 : decode cL_law 881 = .ok (.iaload, 1) := by decide +kernel
theorem dL_law_882 : decode cL_law 882 = .ok (.invokevirtual 105, 3) := by decide +kernel
theorem dL_law_885 : decode cL_law 885 = .ok (.aload_n 2, 1) := by decide +kernel
theorem dL_law_886 : decode cL_law 886 = .ok (.aload_n 0, 1) := by decide +kernel
theorem dL_law_887 : decode cL_law 887 = .ok (.iload_n 3, 1) := by decide +kernel
theorem dL_law_888 : decode cL_law 888 = .ok (.iconst 1, 1) := by decide +kernel
theorem dL_law_889 : decode cL_law 889 = .ok (.iadd, 1) := by decide +kernel
theorem dL_law_890 : decode cL_law 890 = .ok (.iaload, 1) := by decide +kernel
theorem dL_law_891 : decode cL_law 891 = .ok (.aload_n 0, 1) := by decide +kernel
theorem dL_law_892 : decode cL_law 892 = .ok (.iload_n 3, 1) := by decide +kernel
theorem dL_law_893 : decode cL_law 893 = .ok (.iconst 2, 1) := by decide +kernel
theorem dL_law_894 : decode cL_law 894 = .ok (.iadd, 1) := by decide +kernel
theorem dL_law_895 : decode cL_law 895 = .ok (.iaload, 1) := by decide +kernel
theorem dL_law_896 : decode cL_law 896 = .ok (.aload_n 0, 1) := by decide +kernel
theorem dL_law_897 : decode cL_law 897 = .ok (.iload_n 3, 1) := by decide +kernel
theorem dL_law_898 : decode cL_law 898 = .ok (.iconst 3, 1) := by decide +kernel
theorem dL_law_899 : decode cL_law 899 = .ok (.iadd, 1) := by decide +kernel
theorem dL_law_900 : decode cL_law 900 = .ok (.iaload, 1) := by decide +kernel
theorem dL_law_901 : decode cL_law 901 = .ok (.invokevirtual 108, 3) := by decide +kernel
theorem dL_law_904 : decode cL_law 904 = .ok (.if_icmp .eq 693, 3) := by decide +kernel
theorem dL_law_907 : decode cL_law 907 = .ok (.iconst 0, 1) := by decide +kernel
theorem dL_law_908 : decode cL_law 908 = .ok (.ireturn, 1) := by decide +kernel
theorem dL_law_909 : decode cL_law 909 = .ok (.aload_n 1, 1) := by decide +kernel
theorem dL_law_910 : decode cL_law 910 = .ok (.aload_n 0, 1) := by decide +kernel
theorem dL_law_911 : decode cL_law 911 = .ok (.iload_n 3, 1) := by decide +kernel
theorem dL_law_912 : decode cL_law 912 = .ok (.iconst 1, 1) := by decide +kernel
theorem dL_law_913 : decode cL_law 913 = .ok (.iadd, 1) := by decide +kernel
theorem dL_law_914 : decode cL_law 914 = .ok (.iaload, 1) := by decide +kernel
theorem dL_law_915 : decode cL_law 915 = .ok (.aload_n 0, 1) := by decide +kernel
theorem dL_law_916 : decode cL_law 916 = .ok (.iload_n 3, 1) := by decide +kernel
theorem dL_law_917 : decode cL_law 917 = .ok (.iconst 2, 1) := by decide +kernel
theorem dL_law_918 : decode cL_law 918 = .ok (.iadd, 1) := by decide +kernel
theorem dL_law_919 : decode cL_law 919 = .ok (.iaload, 1) := by decide +kernel
theorem dL_law_920 : decode cL_law 920 = .ok (.invokevirtual 109, 3) := by decide +kernel
theorem dL_law_923 : decode cL_law 923 = .ok (.aload_n 2, 1) := by decide +kernel
theorem dL_law_924 : decode cL_law 924 = .ok (.aload_n 0, 1) := by decide +kernel
theorem dL_law_925 : decode cL_law 925 = .ok (.iload_n 3, 1) := by decide +kernel
theorem dL_law_926 : decode cL_law 926 = .ok (.iconst 1, 1) := by decide +kernel
theorem dL_law_927 : decode cL_law 927 = .ok (.iadd, 1) := by decide +kernel
theorem dL_law_928 : decode cL_law 928 = .ok (.iaload, 1) := by decide +kernel
theorem dL_law_929 : decode cL_law 929 = .ok (.aload_n 0, 1) := by decide +kernel
theorem dL_law_930 : decode cL_law 930 = .ok (.iload_n 3, 1) := by decide +kernel
theorem dL_law_931 : decode cL_law 931 = .ok (.iconst 2, 1) := by decide +kernel
theorem dL_law_932 : decode cL_law 932 = .ok (.iadd, 1) := by decide +kernel
theorem dL_law_933 : decode cL_law 933 = .ok (.iaload, 1) := by decide +kernel
theorem dL_law_934 : decode cL_law 934 = .ok (.invokevirtual 112, 3) := by decide +kernel
theorem dL_law_937 : decode cL_law 937 = .ok (.if_icmp .eq 660, 3) := by decide +kernel
theorem dL_law_940 : decode cL_law 940 = .ok (.iconst 0, 1) := by decide +kernel
theorem dL_law_941 : decode cL_law 941 = .ok (.ireturn, 1) := by decide +kernel
theorem dL_law_942 : decode cL_law 942 = .ok (.aload_n 1, 1) := by decide +kernel
theorem dL_law_943 : decode cL_law 943 = .ok (.aload_n 0, 1) := by decide +kernel
theorem dL_law_944 : decode cL_law 944 = .ok (.iload_n 3, 1) := by decide +kernel
theorem dL_law_945 : decode cL_law 945 = .ok (.iconst 1, 1) := by decide +kernel
theorem dL_law_946 : decode cL_law 946 = .ok (.iadd, 1) := by decide +kernel
theorem dL_law_947 : decode cL_law 947 = .ok (.iaload, 1) := by decide +kernel
theorem dL_law_948 : decode cL_law 948 = .ok (.aload_n 0, 1) := by decide +kernel
theorem dL_law_949 : decode cL_law 949 = .ok (.iload_n 3, 1) := by decide +kernel
theorem dL_law_950 : decode cL_law 950 = .ok (.iconst 2, 1) := by decide +kernel
theorem dL_law_951 : decode cL_law 951 = .ok (.iadd, 1) := by decide +kernel
theorem dL_law_952 : decode cL_law 952 = .ok (.iaload, 1) := by decide +kernel
theorem dL_law_953 : decode cL_law 953 = .ok (.aload_n 0, 1) := by decide +kernel
theorem dL_law_954 : decode cL_law 954 = .ok (.iload_n 3, 1) := by decide +kernel
theorem dL_law_955 : decode cL_law 955 = .ok (.iconst 3, 1) := by decide +kernel
theorem dL_law_956 : decode cL_law 956 = .ok (.iadd, 1) := by decide +kernel
theorem dL_law_957 : decode cL_law 957 = .ok (.iaload, 1) := by decide +kernel
theorem dL_law_958 : decode cL_law 958 = .ok (.invokevirtual 113, 3) := by decide +kernel
theorem dL_law_961 : decode cL_law 961 = .ok (.aload_n 2, 1) := by decide +kernel
theorem dL_law_962 : decode cL_law 962 = .ok (.aload_n 0, 1) := by decide +kernel
theorem dL_law_963 : decode cL_law 963 = .ok (.iload_n 3, 1) := by decide +kernel
theorem dL_law_964 : decode cL_law 964 = .ok (.iconst 1, 1) := by decide +kernel
theorem dL_law_965 : decode cL_law 965 = .ok (.iadd, 1) := by decide +kernel
theorem dL_law_966 : decode cL_law 966 = .ok (.iaload, 1) := by decide +kernel
theorem dL_law_967 : decode cL_law 967 = .ok (.aload_n 0, 1) := by decide +kernel
theorem dL_law_968 : decode cL_law 968 = .ok (.iload_n 3, 1) := by decide +kernel
theorem dL_law_969 : decode cL_law 969 = .ok (.iconst 2, 1) := by decide +kernel
theorem dL_law_970 : decode cL_law 970 = .ok (.iadd, 1) := by decide +kernel
theorem dL_law_971 : decode cL_law 971 = .ok (.iaload, 1) := by decide +kernel
theorem dL_law_972 : decode cL_law 972 = .ok (.aload_n 0, 1) := by decide +kernel
theorem dL_law_973 : decode cL_law 973 = .ok (.iload_n 3, 1) := by decide +kernel
theorem dL_law_974 : decode cL_law 974 = .ok (.iconst 3, 1) := by decide +kernel
theorem dL_law_975 : decode cL_law 975 = .ok (.iadd, 1) := by decide +kernel
theorem dL_law_976 : decode cL_law 976 = .ok (.iaload, 1) := by decide +kernel
theorem dL_law_977 : decode cL_law 977 = .ok (.invokevirtual 116, 3) := by decide +kernel
theorem dL_law_980 : decode cL_law 980 = .ok (.if_icmp .eq 617, 3) := by decide +kernel
theorem dL_law_983 : decode cL_law 983 = .ok (.iconst 0, 1) := by decide +kernel
theorem dL_law_984 : decode cL_law 984 = .ok (.ireturn, 1) := by decide +kernel
theorem dL_law_985 : decode cL_law 985 = .ok (.aload_n 1, 1) := by decide +kernel
theorem dL_law_986 : decode cL_law 986 = .ok (.aload_n 0, 1) := by decide +kernel
theorem dL_law_987 : decode cL_law 987 = .ok (.iload_n 3, 1) := by decide +kernel
theorem dL_law_988 : decode cL_law 988 = .ok (.iconst 1, 1) := by decide +kernel
theorem dL_law_989 : decode cL_law 989 = .ok (.iadd, 1) := by decide +kernel
theorem dL_law_990 : decode cL_law 990 = .ok (.iaload, 1) := by decide +kernel
theorem dL_law_991 : decode cL_law 991 = .ok (.invokevirtual 117, 3) := by decide +kernel
theorem dL_law_994 : decode cL_law 994 = .ok (.aload_n 2, 1) := by decide +kernel
theorem dL_law_995 : decode cL_law 995 = .ok (.aload_n 0, 1) := by decide +kernel
theorem dL_law_996 : decode cL_law 996 = .ok (.iload_n 3, 1) := by decide +kernel
theorem dL_law_997 : decode cL_law 997 = .ok (.iconst 1, 1) := by decide +kernel
theorem dL_law_998 : decode cL_law 998 = .ok (.iadd, 1) := by decide +kernel
theorem dL_law_999 : decode cL_law 999 = .ok (.iaload, 1) := by decide +kernel
theorem dL_law_1000 : decode cL_law 1000 = .ok (.invokevirtual 120, 3) := by decide +kernel
theorem dL_law_1003 : decode cL_law 1003 = .ok (.if_icmp .eq 594, 3) := by decide +kernel
theorem dL_law_1006 : decode cL_law 1006 = .ok (.iconst 0, 1) := by decide +kernel
theorem dL_law_1007 : decode cL_law 1007 = .ok (.ireturn, 1) := by decide +kernel
theorem dL_law_1008 : decode cL_law 1008 = .ok (.aload_n 1, 1) := by decide +kernel
theorem dL_law_1009 : decode cL_law 1009 = .ok (.aload_n 0, 1) := by decide +kernel
theorem dL_law_1010 : decode cL_law 1010 = .ok (.iload_n 3, 1) := by decide +kernel
theorem dL_law_1011 : decode cL_law 1011 = .ok (.iconst 1, 1) := by decide +kernel
theorem dL_law_1012 : decode cL_law 1012 = .ok (.iadd, 1) := by decide +kernel
theorem dL_law_1013 : decode cL_law 1013 = .ok (.iaload, 1) := by decide +kernel
theorem dL_law_1014 : decode cL_law 1014 = .ok (.aload_n 0, 1) := by decide +kernel
theorem dL_law_1015 : decode cL_law 1015 = .ok (.iload_n 3, 1) := by decide +kernel
theorem dL_law_1016 : decode cL_law 1016 = .ok (.iconst 2, 1) := by decide +kernel
theorem dL_law_1017 : decode cL_law 1017 = .ok (.iadd, 1) := by decide +kernel
theorem dL_law_1018 : decode cL_law 1018 = .ok (.iaload, 1) := by decide +kernel
theorem dL_law_1019 : decode cL_law 1019 = .ok (.invokevirtual 121, 3) := by decide +kernel
theorem dL_law_1022 : decode cL_law 1022 = .ok (.aload_n 2, 1) := by decide +kernel
theorem dL_law_1023 : decode cL_law 1023 = .ok (.aload_n 0, 1) := by decide +kernel
theorem dL_law_1024 : decode cL_law 1024 = .ok (.iload_n 3, 1) := by decide +kernel
theorem dL_law_1025 : decode cL_law 1025 = .ok (.iconst 1, 1) := by decide +kernel
theorem dL_law_1026 : decode cL_law 1026 = .ok (.iadd, 1) := by decide +kernel
theorem dL_law_1027 : decode cL_law 1027 = .ok (.iaload, 1) := by decide +kernel
theorem dL_law_1028 : decode cL_law 1028 = .ok (.aload_n 0, 1) := by decide +kernel
theorem dL_law_1029 : decode cL_law 1029 = .ok (.iload_n 3, 1) := by decide +kernel
theorem dL_law_1030 : decode cL_law 1030 = .ok (.iconst 2, 1) := by decide +kernel
theorem dL_law_1031 : decode cL_law 1031 = .ok (.iadd, 1) := by decide +kernel
theorem dL_law_1032 : decode cL_law 1032 = .ok (.iaload, 1) := by decide +kernel
theorem dL_law_1033 : decode cL_law 1033 = .ok (.invokevirtual 124, 3) := by decide +kernel
theorem dL_law_1036 : decode cL_law 1036 = .ok (.if_icmp .eq 561, 3) := by decide +kernel
theorem dL_law_1039 : decode cL_law 1039 = .ok (.iconst 0, 1) := by decide +kernel
theorem dL_law_1040 : decode cL_law 1040 = .ok (.ireturn, 1) := by decide +kernel
theorem dL_law_1041 : decode cL_law 1041 = .ok (.aload_n 1, 1) := by decide +kernel
theorem dL_law_1042 : decode cL_law 1042 = .ok (.aload_n 0, 1) := by decide +kernel
theorem dL_law_1043 : decode cL_law 1043 = .ok (.iload_n 3, 1) := by decide +kernel
theorem dL_law_1044 : decode cL_law 1044 = .ok (.iconst 1, 1) := by decide +kernel
theorem dL_law_1045 : decode cL_law 1045 = .ok (.iadd, 1) := by decide +kernel
theorem dL_law_1046 : decode cL_law 1046 = .ok (.iaload, 1) := by decide +kernel
theorem dL_law_1047 : decode cL_law 1047 = .ok (.aload_n 0, 1) := by decide +kernel
theorem dL_law_1048 : decode cL_law 1048 = .ok (.iload_n 3, 1) := by decide +kernel
theorem dL_law_1049 : decode cL_law 1049 = .ok (.iconst 2, 1) := by decide +kernel
theorem dL_law_1050 : decode cL_law 1050 = .ok (.iadd, 1) := by decide +kernel
theorem dL_law_1051 : decode cL_law 1051 = .ok (.iaload, 1) := by decide +kernel
theorem dL_law_1052 : decode cL_law 1052 = .ok (.invokevirtual 125, 3) := by decide +kernel
theorem dL_law_1055 : decode cL_law 1055 = .ok (.aload_n 2, 1) := by decide +kernel
theorem dL_law_1056 : decode cL_law 1056 = .ok (.aload_n 0, 1) := by decide +kernel
theorem dL_law_1057 : decode cL_law 1057 = .ok (.iload_n 3, 1) := by decide +kernel
theorem dL_law_1058 : decode cL_law 1058 = .ok (.iconst 1, 1) := by decide +kernel
theorem dL_law_1059 : decode cL_law 1059 = .ok (.iadd, 1) := by decide +kernel
theorem dL_law_1060 : decode cL_law 1060 = .ok (.iaload, 1) := by decide +kernel
theorem dL_law_1061 : decode cL_law 1061 = .ok (.aload_n 0, 1) := by decide +kernel
theorem dL_law_1062 : decode cL_law 1062 = .ok (.iload_n 3, 1) := by decide +kernel
theorem dL_law_1063 : decode cL_law 1063 = .ok (.iconst 2, 1) := by decide +kernel
theorem dL_law_1064 : decode cL_law 1064 = .ok (.iadd, 1) := by decide +kernel
theorem dL_law_1065 : decode cL_law 1065 = .ok (.iaload, 1) := by decide +kernel
theorem dL_law_1066 : decode cL_law 1066 = .ok (.invokevirtual 128, 3) := by decide +kernel
theorem dL_law_1069 : decode cL_law 1069 = .ok (.if_icmp .eq 528, 3) := by decide +kernel
theorem dL_law_1072 : decode cL_law 1072 = .ok (.iconst 0, 1) := by decide +kernel
theorem dL_law_1073 : decode cL_law 1073 = .ok (.ireturn, 1) := by decide +kernel
theorem dL_law_1074 : decode cL_law 1074 = .ok (.aload_n 1, 1) := by decide +kernel
theorem dL_law_1075 : decode cL_law 1075 = .ok (.aload_n 0, 1) := by decide +kernel
theorem dL_law_1076 : decode cL_law 1076 = .ok (.iload_n 3, 1) := by decide +kernel
theorem dL_law_1077 : decode cL_law 1077 = .ok (.iconst 1, 1) := by decide +kernel
theorem dL_law_1078 : decode cL_law 1078 = .ok (.iadd, 1) := by decide +kernel
theorem dL_law_1079 : decode cL_law 1079 = .ok (.iaload, 1) := by decide +kernel
theorem dL_law_1080 : decode cL_law 1080 = .ok (.aload_n 0, 1) := by decide +kernel
theorem dL_law_1081 : decode cL_law 1081 = .ok (.iload_n 3, 1) := by decide +kernel
theorem dL_law_1082 : decode cL_law 1082 = .ok (.iconst 2, 1) := by decide +kernel
theorem dL_law_1083 : decode cL_law 1083 = .ok (.iadd, 1) := by decide +kernel
theorem dL_law_1084 : decode cL_law 1084 = .ok (.iaload, 1) := by decide +kernel
theorem dL_law_1085 : decode cL_law 1085 = .ok (.aload_n 0, 1) := by decide +kernel
theorem dL_law_1086 : decode cL_law 1086 = .ok (.iload_n 3, 1) := by decide +kernel
theorem dL_law_1087 : decode cL_law 1087 = .ok (.iconst 3, 1) := by decide +kernel
theorem dL_law_1088 : decode cL_law 1088 = .ok (.iadd, 1) := by decide +kernel
theorem dL_law_1089 : decode cL_law 1089 = .ok (.iaload, 1) := by decide +kernel
theorem dL_law_1090 : decode cL_law 1090 = .ok (.aload_n 0, 1) := by decide +kernel
theorem dL_law_1091 : decode cL_law 1091 = .ok (.iload_n 3, 1) := by decide +kernel
theorem dL_law_1092 : decode cL_law 1092 = .ok (.iconst 4, 1) := by decide +kernel
theorem dL_law_1093 : decode cL_law 1093 = .ok (.iadd, 1) := by decide +kernel
theorem dL_law_1094 : decode cL_law 1094 = .ok (.iaload, 1) := by decide +kernel
theorem dL_law_1095 : decode cL_law 1095 = .ok (.invokevirtual 129, 3) := by decide +kernel
theorem dL_law_1098 : decode cL_law 1098 = .ok (.aload_n 2, 1) := by decide +kernel
theorem dL_law_1099 : decode cL_law 1099 = .ok (.aload_n 0, 1) := by decide +kernel
theorem dL_law_1100 : decode cL_law 1100 = .ok (.iload_n 3, 1) := by decide +kernel
theorem dL_law_1101 : decode cL_law 1101 = .ok (.iconst 1, 1) := by decide +kernel
theorem dL_law_1102 : decode cL_law 1102 = .ok (.iadd, 1) := by decide +kernel
theorem dL_law_1103 : decode cL_law 1103 = .ok (.iaload, 1) := by decide +kernel
theorem dL_law_1104 : decode cL_law 1104 = .ok (.aload_n 0, 1) := by decide +kernel
theorem dL_law_1105 : decode cL_law 1105 = .ok (.iload_n 3, 1) := by decide +kernel
theorem dL_law_1106 : decode cL_law 1106 = .ok (.iconst 2, 1) := by decide +kernel
theorem dL_law_1107 : decode cL_law 1107 = .ok (.iadd, 1) := by decide +kernel
theorem dL_law_1108 : decode cL_law 1108 = .ok (.iaload, 1) := by decide +kernel
theorem dL_law_1109 : decode cL_law 1109 = .ok (.aload_n 0, 1) := by decide +kernel
theorem dL_law_1110 : decode cL_law 1110 = .ok (.iload_n 3, 1) := by decide +kernel
theorem dL_law_1111 : decode cL_law 1111 = .ok (.iconst 3, 1) := by decide +kernel
theorem dL_law_1112 : decode cL_law 1112 = .ok (.iadd, 1) := by decide +kernel
theorem dL_law_1113 : decode cL_law 1113 = .ok (.iaload, 1) := by decide +kernel
theorem dL_law_1114 : decode cL_law 1114 = .ok (.aload_n 0, 1) := by decide +kernel
theorem dL_law_1115 : decode cL_law 1115 = .ok (.iload_n 3, 1) := by decide +kernel
theorem dL_law_1116 : decode cL_law 1116 = .ok (.iconst 4, 1) := by decide +kernel
theorem dL_law_1117 : decode cL_law 1117 = .ok (.iadd, 1) := by decide +kernel
theorem dL_law_1118 : decode cL_law 1118 = .ok (.iaload, 1) := by decide +kernel
theorem dL_law_1119 : decode cL_law 1119 = .ok (.invokevirtual 133, 3) := by decide +kernel
theorem dL_law_1122 : decode cL_law 1122 = .ok (.lcmp, 1) := by decide +kernel
theorem dL_law_1123 : decode cL_law 1123 = .ok (.ifCond .eq 474, 3) := by decide +kernel
theorem dL_law_1126 : decode cL_law 1126 = .ok (.iconst 0, 1) := by decide +kernel
theorem dL_law_1127 : decode cL_law 1127 = .ok (.ireturn, 1) := by decide +kernel
theorem dL_law_1128 : decode cL_law 1128 = .ok (.aload_n 1, 1) := by decide +kernel
theorem dL_law_1129 : decode cL_law 1129 = .ok (.aload_n 0, 1) := by decide +kernel
theorem dL_law_1130 : decode cL_law 1130 = .ok (.iload_n 3, 1) := by decide +kernel
theorem dL_law_1131 : decode cL_law 1131 = .ok (.iconst 1, 1) := by decide +kernel
theorem dL_law_1132 : decode cL_law 1132 = .ok (.iadd, 1) := by decide +kernel
theorem dL_law_1133 : decode cL_law 1133 = .ok (.iaload, 1) := by decide +kernel
theorem dL_law_1134 : decode cL_law 1134 = .ok (.aload_n 0, 1) := by decide +kernel
theorem dL_law_1135 : decode cL_law 1135 = .ok (.iload_n 3, 1) := by decide +kernel
theorem dL_law_1136 : decode cL_law 1136 = .ok (.iconst 2, 1) := by decide +kernel
theorem dL_law_1137 : decode cL_law 1137 = .ok (.iadd, 1) := by decide +kernel
theorem dL_law_1138 : decode cL_law 1138 = .ok (.iaload, 1) := by decide +kernel
theorem dL_law_1139 : decode cL_law 1139 = .ok (.aload_n 0, 1) := by decide +kernel
theorem dL_law_1140 : decode cL_law 1140 = .ok (.iload_n 3, 1) := by decide +kernel
theorem dL_law_1141 : decode cL_law 1141 = .ok (.iconst 3, 1) := by decide +kernel
theorem dL_law_1142 : decode cL_law 1142 = .ok (.iadd, 1) := by decide +kernel
theorem dL_law_1143 : decode cL_law 1143 = .ok (.iaload, 1) := by decide +kernel
theorem dL_law_1144 : decode cL_law 1144 = .ok (.invokevirtual 134, 3) := by decide +kernel
theorem dL_law_1147 : decode cL_law 1147 = .ok (.aload_n 2, 1) := by decide +kernel
theorem dL_law_1148 : decode cL_law 1148 = .ok (.aload_n 0, 1) := by decide +kernel
theorem dL_law_1149 : decode cL_law 1149 = .ok (.iload_n 3, 1) := by decide +kernel
theorem dL_law_1150 : decode cL_law 1150 = .ok (.iconst 1, 1) := by decide +kernel
theorem dL_law_1151 : decode cL_law 1151 = .ok (.iadd, 1) := by decide +kernel
theorem dL_law_1152 : decode cL_law 1152 = .ok (.iaload, 1) := by decide +kernel
theorem dL_law_1153 : decode cL_law 1153 = .ok (.aload_n 0, 1) := by decide +kernel
theorem dL_law_1154 : decode cL_law 1154 = .ok (.iload_n 3, 1) := by decide +kernel
theorem dL_law_1155 : decode cL_law 1155 = .ok (.iconst 2, 1) := by decide +kernel
theorem dL_law_1156 : decode cL_law 1156 = .ok (.iadd, 1) := by decide +kernel
theorem dL_law_1157 : decode cL_law 1157 = .ok (.iaload, 1) := by decide +kernel
theorem dL_law_1158 : decode cL_law 1158 = .ok (.aload_n 0, 1) := by decide +kernel
theorem dL_law_1159 : decode cL_law 1159 = .ok (.iload_n 3, 1) := by decide +kernel
theorem dL_law_1160 : decode cL_law 1160 = .ok (.iconst 3, 1) := by decide +kernel
theorem dL_law_1161 : decode cL_law 1161 = .ok (.iadd, 1) := by decide +kernel
theorem dL_law_1162 : decode cL_law 1162 = .ok (.iaload, 1) := by decide +kernel
theorem dL_law_1163 : decode cL_law 1163 = .ok (.invokevirtual 138, 3) := by decide +kernel
theorem dL_law_1166 : decode cL_law 1166 = .ok (.lcmp, 1) := by decide +kernel
theorem dL_law_1167 : decode cL_law 1167 = .ok (.ifCond .eq 430, 3) := by decide +kernel
theorem dL_law_1170 : decode cL_law 1170 = .ok (.iconst 0, 1) := by decide +kernel
theorem dL_law_1171 : decode cL_law 1171 = .ok (.ireturn, 1) := by decide +kernel
theorem dL_law_1172 : decode cL_law 1172 = .ok (.aload_n 1, 1) := by decide +kernel
theorem dL_law_1173 : decode cL_law 1173 = .ok (.aload_n 0, 1) := by decide +kernel
theorem dL_law_1174 : decode cL_law 1174 = .ok (.iload_n 3, 1) := by decide +kernel
theorem dL_law_1175 : decode cL_law 1175 = .ok (.iconst 1, 1) := by decide +kernel
theorem dL_law_1176 : decode cL_law 1176 = .ok (.iadd, 1) := by decide +kernel
theorem dL_law_1177 : decode cL_law 1177 = .ok (.iaload, 1) := by decide +kernel
theorem dL_law_1178 : decode cL_law 1178 = .ok (.aload_n 0, 1) := by decide +kernel
theorem dL_law_1179 : decode cL_law 1179 = .ok (.iload_n 3, 1) := by decide +kernel
theorem dL_law_1180 : decode cL_law 1180 = .ok (.iconst 2, 1) := by decide +kernel
theorem dL_law_1181 : decode cL_law 1181 = .ok (.iadd, 1) := by decide +kernel
theorem dL_law_1182 : decode cL_law 1182 = .ok (.iaload, 1) := by decide +kernel
theorem dL_law_1183 : decode cL_law 1183 = .ok (.aload_n 0, 1) := by decide +kernel
theorem dL_law_1184 : decode cL_law 1184 = .ok (.iload_n 3, 1) := by decide +kernel
theorem dL_law_1185 : decode cL_law 1185 = .ok (.iconst 3, 1) := by decide +kernel
theorem dL_law_1186 : decode cL_law 1186 = .ok (.iadd, 1) := by decide +kernel
theorem dL_law_1187 : decode cL_law 1187 = .ok (.iaload, 1) := by decide +kernel
theorem dL_law_1188 : decode cL_law 1188 = .ok (.ifCond .eq 7, 3) := by decide +kernel
theorem dL_law_1191 : decode cL_law 1191 = .ok (.iconst 1, 1) := by decide +kernel
theorem dL_law_1192 : decode cL_law 1192 = .ok (.goto 4, 3) := by decide +kernel
theorem dL_law_1195 : decode cL_law 1195 = .ok (.iconst 0, 1) := by decide +kernel
theorem dL_law_1196 : decode cL_law 1196 = .ok (.invokevirtual 139, 3) := by decide +kernel
theorem dL_law_1199 : decode cL_law 1199 = .ok (.aload_n 2, 1) := by decide +kernel
theorem dL_law_1200 : decode cL_law 1200 = .ok (.aload_n 0, 1) := by decide +kernel
theorem dL_law_1201 : decode cL_law 1201 = .ok (.iload_n 3, 1) := by decide +kernel
theorem dL_law_1202 : decode cL_law 1202 = .ok (.iconst 1, 1) := by decide +kernel
theorem dL_law_1203 : decode cL_law 1203 = .ok (.iadd, 1) := by decide +kernel
theorem dL_law_1204 : decode cL_law 1204 = .ok (.iaload, 1) := by decide +kernel
theorem dL_law_1205 : decode cL_law 1205 = .ok (.aload_n 0, 1) := by decide +kernel
theorem dL_law_1206 : decode cL_law 1206 = .ok (.iload_n 3, 1) := by decide +kernel
theorem dL_law_1207 : decode cL_law 1207 = .ok (.iconst 2, 1) := by decide +kernel
theorem dL_law_1208 : decode cL_law 1208 = .ok (.iadd, 1) := by decide +kernel
theorem dL_law_1209 : decode cL_law 1209 = .ok (.iaload, 1) := by decide +kernel
theorem dL_law_1210 : decode cL_law 1210 = .ok (.aload_n 0, 1) := by decide +kernel
theorem dL_law_1211 : decode cL_law 1211 = .ok (.iload_n 3, 1) := by decide +kernel
theorem dL_law_1212 : decode cL_law 1212 = .ok (.iconst 3, 1) := by decide +kernel
theorem dL_law_1213 : decode cL_law 1213 = .ok (.iadd, 1) := by decide +kernel
theorem dL_law_1214 : decode cL_law 1214 = .ok (.iaload, 1) := by decide +kernel
theorem dL_law_1215 : decode cL_law 1215 = .ok (.ifCond .eq 7, 3) := by decide +kernel
theorem dL_law_1218 : decode cL_law 1218 = .ok (.iconst 1, 1) := by decide +kernel
theorem dL_law_1219 : decode cL_law 1219 = .ok (.goto 4, 3) := by decide +kernel
theorem dL_law_1222 : decode cL_law 1222 = .ok (.iconst 0, 1) := by decide +kernel
theorem dL_law_1223 : decode cL_law 1223 = .ok (.invokevirtual 143, 3) := by decide +kernel
theorem dL_law_1226 : decode cL_law 1226 = .ok (.if_icmp .eq 371, 3) := by decide +kernel
theorem dL_law_1229 : decode cL_law 1229 = .ok (.iconst 0, 1) := by decide +kernel
theorem dL_law_1230 : decode cL_law 1230 = .ok (.ireturn, 1) := by decide +kernel
theorem dL_law_1231 : decode cL_law 1231 = .ok (.aload_n 1, 1) := by decide +kernel
theorem dL_law_1232 : decode cL_law 1232 = .ok (.aload_n 0, 1) := by decide +kernel
theorem dL_law_1233 : decode cL_law 1233 = .ok (.iload_n 3, 1) := by decide +kernel
theorem dL_law_1234 : decode cL_law 1234 = .ok (.iconst 1, 1) := by decide +kernel
theorem dL_law_1235 : decode cL_law 1235 = .ok (.iadd, 1) := by decide +kernel
theorem dL_law_1236 : decode cL_law 1236 = .ok (.iaload, 1) := by decide +kernel
theorem dL_law_1237 : decode cL_law 1237 = .ok (.invokevirtual 144, 3) := by decide +kernel
theorem dL_law_1240 : decode cL_law 1240 = .ok (.aload_n 2, 1) := by decide +kernel
theorem dL_law_1241 : decode cL_law 1241 = .ok (.aload_n 0, 1) := by decide +kernel
theorem dL_law_1242 : decode cL_law 1242 = .ok (.iload_n 3, 1) := by decide +kernel
theorem dL_law_1243 : decode cL_law 1243 = .ok (.iconst 1, 1) := by decide +kernel
theorem dL_law_1244 : decode cL_law 1244 = .ok (.iadd, 1) := by decide +kernel
theorem dL_law_1245 : decode cL_law 1245 = .ok (.iaload, 1) := by decide +kernel
theorem dL_law_1246 : decode cL_law 1246 = .ok (.invokevirtual 147, 3) := by decide +kernel
theorem dL_law_1249 : decode cL_law 1249 = .ok (.if_icmp .eq 348, 3) := by decide +kernel
theorem dL_law_1252 : decode cL_law 1252 = .ok (.iconst 0, 1) := by decide +kernel
theorem dL_law_1253 : decode cL_law 1253 = .ok (.ireturn, 1) := by decide +kernel
theorem dL_law_1254 : decode cL_law 1254 = .ok (.aload_n 1, 1) := by decide +kernel
theorem dL_law_1255 : decode cL_law 1255 = .ok (.aload_n 0, 1) := by decide +kernel
theorem dL_law_1256 : decode cL_law 1256 = .ok (.iload_n 3, 1) := by decide +kernel
theorem dL_law_1257 : decode cL_law 1257 = .ok (.iconst 1, 1) := by decide +kernel
theorem dL_law_1258 : decode cL_law 1258 = .ok (.iadd, 1) := by decide +kernel
theorem dL_law_1259 : decode cL_law 1259 = .ok (.iaload, 1) := by decide +kernel
theorem dL_law_1260 : decode cL_law 1260 = .ok (.invokevirtual 148, 3) := by decide +kernel
theorem dL_law_1263 : decode cL_law 1263 = .ok (.aload_n 2, 1) := by decide +kernel
theorem dL_law_1264 : decode cL_law 1264 = .ok (.aload_n 0, 1) := by decide +kernel
theorem dL_law_1265 : decode cL_law 1265 = .ok (.iload_n 3, 1) := by decide +kernel
theorem dL_law_1266 : decode cL_law 1266 = .ok (.iconst 1, 1) := by decide +kernel
theorem dL_law_1267 : decode cL_law 1267 = .ok (.iadd, 1) := by decide +kernel
theorem dL_law_1268 : decode cL_law 1268 = .ok (.iaload, 1) := by decide +kernel
theorem dL_law_1269 : decode cL_law 1269 = .ok (.invokevirtual 151, 3) := by decide +kernel
theorem dL_law_1272 : decode cL_law 1272 = .ok (.if_icmp .eq 325, 3) := by decide +kernel
theorem dL_law_1275 : decode cL_law 1275 = .ok (.iconst 0, 1) := by decide +kernel
theorem dL_law_1276 : decode cL_law 1276 = .ok (.ireturn, 1) := by decide +kernel
theorem dL_law_1277 : decode cL_law 1277 = .ok (.aload_n 1, 1) := by decide +kernel
theorem dL_law_1278 : decode cL_law 1278 = .ok (.aload_n 0, 1) := by decide +kernel
theorem dL_law_1279 : decode cL_law 1279 = .ok (.iload_n 3, 1) := by decide +kernel
theorem dL_law_1280 : decode cL_law 1280 = .ok (.iconst 1, 1) := by decide +kernel
theorem dL_law_1281 : decode cL_law 1281 = .ok (.iadd, 1) := by decide +kernel
theorem dL_law_1282 : decode cL_law 1282 = .ok (.iaload, 1) := by decide +kernel
theorem dL_law_1283 : decode cL_law 1283 = .ok (.invokevirtual 152, 3) := by decide +kernel
theorem dL_law_1286 : decode cL_law 1286 = .ok (.aload_n 2, 1) := by decide +kernel
theorem dL_law_1287 : decode cL_law 1287 = .ok (.aload_n 0, 1) := by decide +kernel
theorem dL_law_1288 : decode cL_law 1288 = .ok (.iload_n 3, 1) := by decide +kernel
theorem dL_law_1289 : decode cL_law 1289 = .ok (.iconst 1, 1) := by decide +kernel
theorem dL_law_1290 : decode cL_law 1290 = .ok (.iadd, 1) := by decide +kernel
theorem dL_law_1291 : decode cL_law 1291 = .ok (.iaload, 1) := by decide +kernel
theorem dL_law_1292 : decode cL_law 1292 = .ok (.invokevirtual 155, 3) := by decide +kernel
theorem dL_law_1295 : decode cL_law 1295 = .ok (.if_icmp .eq 302, 3) := by decide +kernel
theorem dL_law_1298 : decode cL_law 1298 = .ok (.iconst 0, 1) := by decide +kernel
theorem dL_law_1299 : decode cL_law 1299 = .ok (.ireturn, 1) := by decide +kernel
theorem dL_law_1300 : decode cL_law 1300 = .ok (.aload_n 1, 1) := by decide +kernel
theorem dL_law_1301 : decode cL_law 1301 = .ok (.aload_n 0, 1) := by decide +kernel
theorem dL_law_1302 : decode cL_law 1302 = .ok (.iload_n 3, 1) := by decide +kernel
theorem dL_law_1303 : decode cL_law 1303 = .ok (.iconst 1, 1) := by decide +kernel
theorem dL_law_1304 : decode cL_law 1304 = .ok (.iadd, 1) := by decide +kernel
theorem dL_law_1305 : decode cL_law 1305 = .ok (.iaload, 1) := by decide +kernel
theorem dL_law_1306 : decode cL_law 1306 = .ok (.aload_n 0, 1) := by decide +kernel
theorem dL_law_1307 : decode cL_law 1307 = .ok (.iload_n 3, 1) := by decide +kernel
theorem dL_law_1308 : decode cL_law 1308 = .ok (.iconst 2, 1) := by decide +kernel
theorem dL_law_1309 : decode cL_law 1309 = .ok (.iadd, 1) := by decide +kernel
theorem dL_law_1310 : decode cL_law 1310 = .ok (.iaload, 1) := by decide +kernel
theorem dL_law_1311 : decode cL_law 1311 = .ok (.invokevirtual 156, 3) := by decide +kernel
theorem dL_law_1314 : decode cL_law 1314 = .ok (.aload_n 2, 1) := by decide +kernel
theorem dL_law_1315 : decode cL_law 1315 = .ok (.aload_n 0, 1) := by decide +kernel
theorem dL_law_1316 : decode cL_law 1316 = .ok (.iload_n 3, 1) := by decide +kernel
theorem dL_law_1317 : decode cL_law 1317 = .ok (.iconst 1, 1) := by decide +kernel
theorem dL_law_1318 : decode cL_law 1318 = .ok (.iadd, 1) := by decide +kernel
theorem dL_law_1319 : decode cL_law 1319 = .ok (.iaload, 1) := by decide +kernel
theorem dL_law_1320 : decode cL_law 1320 = .ok (.aload_n 0, 1) := by decide +kernel
theorem dL_law_1321 : decode cL_law 1321 = .ok (.iload_n 3, 1) := by decide +kernel
theorem dL_law_1322 : decode cL_law 1322 = .ok (.iconst 2, 1) := by decide +kernel
theorem dL_law_1323 : decode cL_law 1323 = .ok (.iadd, 1) := by decide +kernel
theorem dL_law_1324 : decode cL_law 1324 = .ok (.iaload, 1) := by decide +kernel
theorem dL_law_1325 : decode cL_law 1325 = .ok (.invokevirtual 159, 3) := by decide +kernel
theorem dL_law_1328 : decode cL_law 1328 = .ok (.if_icmp .eq 269, 3) := by decide +kernel
theorem dL_law_1331 : decode cL_law 1331 = .ok (.iconst 0, 1) := by decide +kernel
theorem dL_law_1332 : decode cL_law 1332 = .ok (.ireturn, 1) := by decide +kernel
theorem dL_law_1333 : decode cL_law 1333 = .ok (.aload_n 1, 1) := by decide +kernel
theorem dL_law_1334 : decode cL_law 1334 = .ok (.aload_n 0, 1) := by decide +kernel
theorem dL_law_1335 : decode cL_law 1335 = .ok (.iload_n 3, 1) := by decide +kernel
theorem dL_law_1336 : decode cL_law 1336 = .ok (.iconst 1, 1) := by decide +kernel
theorem dL_law_1337 : decode cL_law 1337 = .ok (.iadd, 1) := by decide +kernel
theorem dL_law_1338 : decode cL_law 1338 = .ok (.iaload, 1) := by decide +kernel
theorem dL_law_1339 : decode cL_law 1339 = .ok (.aload_n 0, 1) := by decide +kernel
theorem dL_law_1340 : decode cL_law 1340 = .ok (.iload_n 3, 1) := by decide +kernel
theorem dL_law_1341 : decode cL_law 1341 = .ok (.iconst 2, 1) := by decide +kernel
theorem dL_law_1342 : decode cL_law 1342 = .ok (.iadd, 1) := by decide +kernel
theorem dL_law_1343 : decode cL_law 1343 = .ok (.iaload, 1) := by decide +kernel
theorem dL_law_1344 : decode cL_law 1344 = .ok (.aload_n 0, 1) := by decide +kernel
theorem dL_law_1345 : decode cL_law 1345 = .ok (.iload_n 3, 1) := by decide +kernel
theorem dL_law_1346 : decode cL_law 1346 = .ok (.iconst 3, 1) := by decide +kernel
theorem dL_law_1347 : decode cL_law 1347 = .ok (.iadd, 1) := by decide +kernel
theorem dL_law_1348 : decode cL_law 1348 = .ok (.iaload, 1) := by decide +kernel
theorem dL_law_1349 : decode cL_law 1349 = .ok (.invokevirtual 160, 3) := by decide +kernel
theorem dL_law_1352 : decode cL_law 1352 = .ok (.aload_n 2, 1) := by decide +kernel
theorem dL_law_1353 : decode cL_law 1353 = .ok (.aload_n 0, 1) := by decide +kernel
theorem dL_law_1354 : decode cL_law 1354 = .ok (.iload_n 3, 1) := by decide +kernel
theorem dL_law_1355 : decode cL_law 1355 = .ok (.iconst 1, 1) := by decide +kernel
theorem dL_law_1356 : decode cL_law 1356 = .ok (.iadd, 1) := by decide +kernel
theorem dL_law_1357 : decode cL_law 1357 = .ok (.iaload, 1) := by decide +kernel
theorem dL_law_1358 : decode cL_law 1358 = .ok (.aload_n 0, 1) := by decide +kernel
theorem dL_law_1359 : decode cL_law 1359 = .ok (.iload_n 3, 1) := by decide +kernel
theorem dL_law_1360 : decode cL_law 1360 = .ok (.iconst 2, 1) := by decide +kernel
theorem dL_law_1361 : decode cL_law 1361 = .ok (.iadd, 1) := by decide +kernel
theorem dL_law_1362 : decode cL_law 1362 = .ok (.iaload, 1) := by decide +kernel
theorem dL_law_1363 : decode cL_law 1363 = .ok (.aload_n 0, 1) := by decide +kernel
theorem dL_law_1364 : decode cL_law 1364 = .ok (.iload_n 3, 1) := by decide +kernel
theorem dL_law_1365 : decode cL_law 1365 = .ok (.iconst 3, 1) := by decide +kernel
theorem dL_law_1366 : decode cL_law 1366 = .ok (.iadd, 1) := by decide +kernel
theorem dL_law_1367 : decode cL_law 1367 = .ok (.iaload, 1) := by decide +kernel
theorem dL_law_1368 : decode cL_law 1368 = .ok (.invokevirtual 163, 3) := by decide +kernel
theorem dL_law_1371 : decode cL_law 1371 = .ok (.if_icmp .eq 226, 3) := by decide +kernel
theorem dL_law_1374 : decode cL_law 1374 = .ok (.iconst 0, 1) := by decide +kernel
theorem dL_law_1375 : decode cL_law 1375 = .ok (.ireturn, 1) := by decide +kernel
theorem dL_law_1376 : decode cL_law 1376 = .ok (.aload_n 1, 1) := by decide +kernel
theorem dL_law_1377 : decode cL_law 1377 = .ok (.aload_n 0, 1) := by decide +kernel
theorem dL_law_1378 : decode cL_law 1378 = .ok (.iload_n 3, 1) := by decide +kernel
theorem dL_law_1379 : decode cL_law 1379 = .ok (.iconst 1, 1) := by decide +kernel
theorem dL_law_1380 : decode cL_law 1380 = .ok (.iadd, 1) := by decide +kernel
theorem dL_law_1381 : decode cL_law 1381 = .ok (.iaload, 1) := by decide +kernel
theorem dL_law_1382 : decode cL_law 1382 = .ok (.invokevirtual 164, 3) := by decide +kernel
theorem dL_law_1385 : decode cL_law 1385 = .ok (.aload_n 2, 1) := by decide +kernel
theorem dL_law_1386 : decode cL_law 1386 = .ok (.aload_n 0, 1) := by decide +kernel
theorem dL_law_1387 : decode cL_law 1387 = .ok (.iload_n 3, 1) := by decide +kernel
theorem dL_law_1388 : decode cL_law 1388 = .ok (.iconst 1, 1) := by decide +kernel
theorem dL_law_1389 : decode cL_law 1389 = .ok (.iadd, 1) := by decide +kernel
theorem dL_law_1390 : decode cL_law 1390 = .ok (.iaload, 1) := by decide +kernel
theorem dL_law_1391 : decode cL_law 1391 = .ok (.invokevirtual 167, 3) := by decide +kernel
theorem dL_law_1394 : decode cL_law 1394 = .ok (.if_icmp .eq 203, 3) := by decide +kernel
theorem dL_law_1397 : decode cL_law 1397 = .ok (.iconst 0, 1) := by decide +kernel
theorem dL_law_1398 : decode cL_law 1398 = .ok (.ireturn, 1) := by decide +kernel
theorem dL_law_1399 : decode cL_law 1399 = .ok (.aload_n 1, 1) := by decide +kernel
theorem dL_law_1400 : decode cL_law 1400 = .ok (.aload_n 0, 1) := by decide +kernel
theorem dL_law_1401 : decode cL_law 1401 = .ok (.iload_n 3, 1) := by decide +kernel
theorem dL_law_1402 : decode cL_law 1402 = .ok (.iconst 1, 1) := by decide +kernel
theorem dL_law_1403 : decode cL_law 1403 = .ok (.iadd, 1) := by decide +kernel
theorem dL_law_1404 : decode cL_law 1404 = .ok (.iaload, 1) := by decide +kernel
theorem dL_law_1405 : decode cL_law 1405 = .ok (.invokevirtual 168, 3) := by decide +kernel
theorem dL_law_1408 : decode cL_law 1408 = .ok (.aload_n 2, 1) := by decide +kernel
theorem dL_law_1409 : decode cL_law 1409 = .ok (.aload_n 0, 1) := by decide +kernel
theorem dL_law_1410 : decode cL_law 1410 = .ok (.iload_n 3, 1) := by decide +kernel
theorem dL_law_1411 : decode cL_law 1411 = .ok (.iconst 1, 1) := by decide +kernel
theorem dL_law_1412 : decode cL_law 1412 = .ok (.iadd, 1) := by decide +kernel
theorem dL_law_1413 : decode cL_law 1413 = .ok (.iaload, 1) := by decide +kernel
theorem dL_law_1414 : decode cL_law 1414 = .ok (.invokevirtual 171, 3) := by decide +kernel
theorem dL_law_1417 : decode cL_law 1417 = .ok (.if_icmp .eq 180, 3) := by decide +kernel
theorem dL_law_1420 : decode cL_law 1420 = .ok (.iconst 0, 1) := by decide +kernel
theorem dL_law_1421 : decode cL_law 1421 = .ok (.ireturn, 1) := by decide +kernel
theorem dL_law_1422 : decode cL_law 1422 = .ok (.aload_n 1, 1) := by decide +kernel
theorem dL_law_1423 : decode cL_law 1423 = .ok (.aload_n 0, 1) := by decide +kernel
theorem dL_law_1424 : decode cL_law 1424 = .ok (.iload_n 3, 1) := by decide +kernel
theorem dL_law_1425 : decode cL_law 1425 = .ok (.iconst 1, 1) := by decide +kernel
theorem dL_law_1426 : decode cL_law 1426 = .ok (.iadd, 1) := by decide +kernel
theorem dL_law_1427 : decode cL_law 1427 = .ok (.iaload, 1) := by decide +kernel
theorem dL_law_1428 : decode cL_law 1428 = .ok (.aload_n 0, 1) := by decide +kernel
theorem dL_law_1429 : decode cL_law 1429 = .ok (.iload_n 3, 1) := by decide +kernel
theorem dL_law_1430 : decode cL_law 1430 = .ok (.iconst 2, 1) := by decide +kernel
theorem dL_law_1431 : decode cL_law 1431 = .ok (.iadd, 1) := by decide +kernel
theorem dL_law_1432 : decode cL_law 1432 = .ok (.iaload, 1) := by decide +kernel
theorem dL_law_1433 : decode cL_law 1433 = .ok (.aload_n 0, 1) := by decide +kernel
theorem dL_law_1434 : decode cL_law 1434 = .ok (.iload_n 3, 1) := by decide +kernel
theorem dL_law_1435 : decode cL_law 1435 = .ok (.iconst 3, 1) := by decide +kernel
theorem dL_law_1436 : decode cL_law 1436 = .ok (.iadd, 1) := by decide +kernel
theorem dL_law_1437 : decode cL_law 1437 = .ok (.iaload, 1) := by decide +kernel
theorem dL_law_1438 : decode cL_law 1438 = .ok (.invokevirtual 172, 3) := by decide +kernel
theorem dL_law_1441 : decode cL_law 1441 = .ok (.aload_n 2, 1) := by decide +kernel
theorem dL_law_1442 : decode cL_law 1442 = .ok (.aload_n 0, 1) := by decide +kernel
theorem dL_law_1443 : decode cL_law 1443 = .ok (.iload_n 3, 1) := by decide +kernel
theorem dL_law_1444 : decode cL_law 1444 = .ok (.iconst 1, 1) := by decide +kernel
theorem dL_law_1445 : decode cL_law 1445 = .ok (.iadd, 1) := by decide +kernel
theorem dL_law_1446 : decode cL_law 1446 = .ok (.iaload, 1) := by decide +kernel
theorem dL_law_1447 : decode cL_law 1447 = .ok (.aload_n 0, 1) := by decide +kernel
theorem dL_law_1448 : decode cL_law 1448 = .ok (.iload_n 3, 1) := by decide +kernel
theorem dL_law_1449 : decode cL_law 1449 = .ok (.iconst 2, 1) := by decide +kernel
theorem dL_law_1450 : decode cL_law 1450 = .ok (.iadd, 1) := by decide +kernel
theorem dL_law_1451 : decode cL_law 1451 = .ok (.iaload, 1) := by decide +kernel
theorem dL_law_1452 : decode cL_law 1452 = .ok (.aload_n 0, 1) := by decide +kernel
theorem dL_law_1453 : decode cL_law 1453 = .ok (.iload_n 3, 1) := by decide +kernel
theorem dL_law_1454 : decode cL_law 1454 = .ok (.iconst 3, 1) := by decide +kernel
theorem dL_law_1455 : decode cL_law 1455 = .ok (.iadd, 1) := by decide +kernel
theorem dL_law_1456 : decode cL_law 1456 = .ok (.iaload, 1) := by decide +kernel
theorem dL_law_1457 : decode cL_law 1457 = .ok (.invokevirtual 175, 3) := by decide +kernel
theorem dL_law_1460 : decode cL_law 1460 = .ok (.if_icmp .eq 137, 3) := by decide +kernel
theorem dL_law_1463 : decode cL_law 1463 = .ok (.iconst 0, 1) := by decide +kernel
theorem dL_law_1464 : decode cL_law 1464 = .ok (.ireturn, 1) := by decide +kernel
theorem dL_law_1465 : decode cL_law 1465 = .ok (.aload_n 1, 1) := by decide +kernel
theorem dL_law_1466 : decode cL_law 1466 = .ok (.aload_n 0, 1) := by decide +kernel
theorem dL_law_1467 : decode cL_law 1467 = .ok (.iload_n 3, 1) := by decide +kernel
theorem dL_law_1468 : decode cL_law 1468 = .ok (.iconst 1, 1) := by decide +kernel
theorem dL_law_1469 : decode cL_law 1469 = .ok (.iadd, 1) := by decide +kernel
theorem dL_law_1470 : decode cL_law 1470 = .ok (.iaload, 1) := by decide +kernel
theorem dL_law_1471 : decode cL_law 1471 = .ok (.aload_n 0, 1) := by decide +kernel
theorem dL_law_1472 : decode cL_law 1472 = .ok (.iload_n 3, 1) := by decide +kernel
theorem dL_law_1473 : decode cL_law 1473 = .ok (.iconst 2, 1) := by decide +kernel
theorem dL_law_1474 : decode cL_law 1474 = .ok (.iadd, 1) := by decide +kernel
theorem dL_law_1475 : decode cL_law 1475 = .ok (.iaload, 1) := by decide +kernel
theorem dL_law_1476 : decode cL_law 1476 = .ok (.aload_n 0, 1) := by decide +kernel
theorem dL_law_1477 : decode cL_law 1477 = .ok (.iload_n 3, 1) := by decide +kernel
theorem dL_law_1478 : decode cL_law 1478 = .ok (.iconst 3, 1) := by decide +kernel
theorem dL_law_1479 : decode cL_law 1479 = .ok (.iadd, 1) := by decide +kernel
theorem dL_law_1480 : decode cL_law 1480 = .ok (.iaload, 1) := by decide +kernel
theorem dL_law_1481 : decode cL_law 1481 = .ok (.invokevirtual 176, 3) := by decide +kernel
theorem dL_law_1484 : decode cL_law 1484 = .ok (.aload_n 2, 1) := by decide +kernel
theorem dL_law_1485 : decode cL_law 1485 = .ok (.aload_n 0, 1) := by decide +kernel
theorem dL_law_1486 : decode cL_law 1486 = .ok (.iload_n 3, 1) := by decide +kernel
theorem dL_law_1487 : decode cL_law 1487 = .ok (.iconst 1, 1) := by decide +kernel
theorem dL_law_1488 : decode cL_law 1488 = .ok (.iadd, 1) := by decide +kernel
theorem dL_law_1489 : decode cL_law 1489 = .ok (.iaload, 1) := by decide +kernel
theorem dL_law_1490 : decode cL_law 1490 = .ok (.aload_n 0, 1) := by decide +kernel
theorem dL_law_1491 : decode cL_law 1491 = .ok (.iload_n 3, 1) := by decide +kernel
theorem dL_law_1492 : decode cL_law 1492 = .ok (.iconst 2, 1) := by decide +kernel
theorem dL_law_1493 : decode cL_law 1493 = .ok (.iadd, 1) := by decide +kernel
theorem dL_law_1494 : decode cL_law 1494 = .ok (.iaload, 1) := by decide +kernel
theorem dL_law_1495 : decode cL_law 1495 = .ok (.aload_n 0, 1) := by decide +kernel
theorem dL_law_1496 : decode cL_law 1496 = .ok (.iload_n 3, 1) := by decide +kernel
theorem dL_law_1497 : decode cL_law 1497 = .ok (.iconst 3, 1) := by decide +kernel
theorem dL_law_1498 : decode cL_law 1498 = .ok (.iadd, 1) := by decide +kernel
theorem dL_law_1499 : decode cL_law 1499 = .ok (.iaload, 1) := by decide +kernel
theorem dL_law_1500 : decode cL_law 1500 = .ok (.invokevirtual 179, 3) := by decide +kernel
theorem dL_law_1503 : decode cL_law 1503 = .ok (.if_icmp .eq 94, 3) := by decide +kernel
theorem dL_law_1506 : decode cL_law 1506 = .ok (.iconst 0, 1) := by decide +kernel
theorem dL_law_1507 : decode cL_law 1507 = .ok (.ireturn, 1) := by decide +kernel
theorem dL_law_1508 : decode cL_law 1508 = .ok (.aload_n 1, 1) := by decide +kernel
theorem dL_law_1509 : decode cL_law 1509 = .ok (.aload_n 0, 1) := by decide +kernel
theorem dL_law_1510 : decode cL_law 1510 = .ok (.iload_n 3, 1) := by decide +kernel
theorem dL_law_1511 : decode cL_law 1511 = .ok (.iconst 1, 1) := by decide +kernel
theorem dL_law_1512 : decode cL_law 1512 = .ok (.iadd, 1) := by decide +kernel
theorem dL_law_1513 : decode cL_law 1513 = .ok (.iaload, 1) := by decide +kernel
theorem dL_law_1514 : decode cL_law 1514 = .ok (.aload_n 0, 1) := by decide +kernel
theorem dL_law_1515 : decode cL_law 1515 = .ok (.iload_n 3, 1) := by decide +kernel
theorem dL_law_1516 : decode cL_law 1516 = .ok (.iconst 2, 1) := by decide +kernel
theorem dL_law_1517 : decode cL_law 1517 = .ok (.iadd, 1) := by decide +kernel
theorem dL_law_1518 : decode cL_law 1518 = .ok (.iaload, 1) := by decide +kernel
theorem dL_law_1519 : decode cL_law 1519 = .ok (.aload_n 0, 1) := by decide +kernel
theorem dL_law_1520 : decode cL_law 1520 = .ok (.iload_n 3, 1) := by decide +kernel
theorem dL_law_1521 : decode cL_law 1521 = .ok (.iconst 3, 1) := by decide +kernel
theorem dL_law_1522 : decode cL_law 1522 = .ok (.iadd, 1) := by decide +kernel
theorem dL_law_1523 : decode cL_law 1523 = .ok (.iaload, 1) := by decide +kernel
theorem dL_law_1524 : decode cL_law 1524 = .ok (.aload_n 0, 1) := by decide +kernel
theorem dL_law_1525 : decode cL_law 1525 = .ok (.iload_n 3, 1) := by decide +kernel
theorem dL_law_1526 : decode cL_law 1526 = .ok (.iconst 4, 1) := by decide +kernel
theorem dL_law_1527 : decode cL_law 1527 = .ok (.iadd, 1) := by decide +kernel
theorem dL_law_1528 : decode cL_law 1528 = .ok (.iaload, 1) := by decide +kernel
theorem dL_law_1529 : decode cL_law 1529 = .ok (.invokevirtual 180, 3) := by decide +kernel
theorem dL_law_1532 : decode cL_law 1532 = .ok (.aload_n 2, 1) := by decide +kernel
theorem dL_law_1533 : decode cL_law 1533 = .ok (.aload_n 0, 1) := by decide +kernel
theorem dL_law_1534 : decode cL_law 1534 = .ok (.iload_n 3, 1) := by decide +kernel
theorem dL_law_1535 : decode cL_law 1535 = .ok (.iconst 1, 1) := by decide +kernel
theorem dL_law_1536 : decode cL_law 1536 = .ok (.iadd, 1) := by decide +kernel
theorem dL_law_1537 : decode cL_law 1537 = .ok (.iaload, 1) := by decide +kernel
theorem dL_law_1538 : decode cL_law 1538 = .ok (.aload_n 0, 1) := by decide +kernel
theorem dL_law_1539 : decode cL_law 1539 = .ok (.iload_n 3, 1) := by decide +kernel
theorem dL_law_1540 : decode cL_law 1540 = .ok (.iconst 2, 1) := by decide +kernel
theorem dL_law_1541 : decode cL_law 1541 = .ok (.iadd, 1) := by decide +kernel
theorem dL_law_1542 : decode cL_law 1542 = .ok (.iaload, 1) := by decide +kernel
theorem dL_law_1543 : decode cL_law 1543 = .ok (.aload_n 0, 1) := by decide +kernel
theorem dL_law_1544 : decode cL_law 1544 = .ok (.iload_n 3, 1) := by decide +kernel
theorem dL_law_1545 : decode cL_law 1545 = .ok (.iconst 3, 1) := by decide +kernel
theorem dL_law_1546 : decode cL_law 1546 = .ok (.iadd, 1) := by decide +kernel
theorem dL_law_1547 : decode cL_law 1547 = .ok (.iaload, 1) := by decide +kernel
theorem dL_law_1548 : decode cL_law 1548 = .ok (.aload_n 0, 1) := by decide +kernel
theorem dL_law_1549 : decode cL_law 1549 = .ok (.iload_n 3, 1) := by decide +kernel
theorem dL_law_1550 : decode cL_law 1550 = .ok (.iconst 4, 1) := by decide +kernel
theorem dL_law_1551 : decode cL_law 1551 = .ok (.iadd, 1) := by decide +kernel
theorem dL_law_1552 : decode cL_law 1552 = .ok (.iaload, 1) := by decide +kernel
theorem dL_law_1553 : decode cL_law 1553 = .ok (.invokevirtual 184, 3) := by decide +kernel
theorem dL_law_1556 : decode cL_law 1556 = .ok (.if_icmp .eq 41, 3) := by decide +kernel
theorem dL_law_1559 : decode cL_law 1559 = .ok (.iconst 0, 1) := by decide +kernel
theorem dL_law_1560 : decode cL_law 1560 = .ok (.ireturn, 1) := by decide +kernel
theorem dL_law_1561 : decode cL_law 1561 = .ok (.aload_n 1, 1) := by decide +kernel
theorem dL_law_1562 : decode cL_law 1562 = .ok (.invokevirtual 185, 3) := by decide +kernel
theorem dL_law_1565 : decode cL_law 1565 = .ok (.aload_n 2, 1) := by decide +kernel
theorem dL_law_1566 : decode cL_law 1566 = .ok (.invokevirtual 188, 3) := by decide +kernel
theorem dL_law_1569 : decode cL_law 1569 = .ok (.if_icmp .eq 28, 3) := by decide +kernel
theorem dL_law_1572 : decode cL_law 1572 = .ok (.iconst 0, 1) := by decide +kernel
theorem dL_law_1573 : decode cL_law 1573 = .ok (.ireturn, 1) := by decide +kernel
theorem dL_law_1574 : decode cL_law 1574 = .ok (.aload_n 1, 1) := by decide +kernel
theorem dL_law_1575 : decode cL_law 1575 = .ok (.aload_n 0, 1) := by decide +kernel
theorem dL_law_1576 : decode cL_law 1576 = .ok (.iload_n 3, 1) := by decide +kernel
theorem dL_law_1577 : decode cL_law 1577 = .ok (.iconst 1, 1) := by decide +kernel
theorem dL_law_1578 : decode cL_law 1578 = .ok (.iadd, 1) := by decide +kernel
theorem dL_law_1579 : decode cL_law 1579 = .ok (.iaload, 1) := by decide +kernel
theorem dL_law_1580 : decode cL_law 1580 = .ok (.invokevirtual 189, 3) := by decide +kernel
theorem dL_law_1583 : decode cL_law 1583 = .ok (.aload_n 2, 1) := by decide +kernel
theorem dL_law_1584 : decode cL_law 1584 = .ok (.aload_n 0, 1) := by decide +kernel
theorem dL_law_1585 : decode cL_law 1585 = .ok (.iload_n 3, 1) := by decide +kernel
theorem dL_law_1586 : decode cL_law 1586 = .ok (.iconst 1, 1) := by decide +kernel
theorem dL_law_1587 : decode cL_law 1587 = .ok (.iadd, 1) := by decide +kernel
theorem dL_law_1588 : decode cL_law 1588 = .ok (.iaload, 1) := by decide +kernel
theorem dL_law_1589 : decode cL_law 1589 = .ok (.invokevirtual 192, 3) := by decide +kernel
theorem dL_law_1592 : decode cL_law 1592 = .ok (.if_icmp .eq 5, 3) := by decide +kernel
theorem dL_law_1595 : decode cL_law 1595 = .ok (.iconst 0, 1) := by decide +kernel
theorem dL_law_1596 : decode cL_law 1596 = .ok (.ireturn, 1) := by decide +kernel
theorem dL_law_1597 : decode cL_law 1597 = .ok (.iinc 3 5, 3) := by decide +kernel
theorem dL_law_1600 : decode cL_law 1600 = .ok (.goto (-1582), 3) := by decide +kernel
theorem dL_law_1603 : decode cL_law 1603 = .ok (.iconst 1, 1) := by decide +kernel
theorem dL_law_1604 : decode cL_law 1604 = .ok (.ireturn, 1) := by decide +kernel
end
section
/-! THE PLAIN MACHINE: a method's walk over places (0 .. 87) whose shape never changes; the world is vW: place, index, int. -/
def BIG : List Cond := lw_tbl.filter goodWord
theorem inBIG {w : Cond} (h : w ∈ lw_tbl) (g : goodWord w = true) : w ∈ BIG := List.mem_filter.mpr ⟨h, g⟩
theorem BIG_tbl {w : Cond} (h : w ∈ BIG) : w ∈ lw_tbl := (List.mem_filter.mp h).1
theorem BIG_good {w : Cond} (h : w ∈ BIG) : goodWord w = true := (List.mem_filter.mp h).2
abbrev vW : Type := Nat → Nat → Int32
abbrev vL : Type := Nat × Nat × (Nat → Option Nat)
abbrev vE : Type := (Nat → Nat) × va_G × (Nat → ClassId) × (Nat → Nat)
abbrev vMI : Type := MethodName × ByteArray × Nat × Option FieldType
def vNone : Nat → Option Nat := fun _ => none
def vTownR (t : Nat) : Nat → Option Nat := fun k => if k < 10 then some (t + 1 + k) else none
def vTownL (t : Nat) : List vL := [(4, 13, vTownR t), (7, 5, vNone), (7, 5, vNone), (7, 5, vNone), (7, 5, vNone), (7, 9, vNone), (7, 9, vNone), (7, 9, vNone), (7, 8, vNone), (7, 6, vNone), (7, 6, vNone)]
def vR0 : Nat → Option Nat := fun k => [some 1, some 21, some 32, some 4, some 8, some 9, some 65, some 66].getD k none
def vR1 : Nat → Option Nat := fun k => [some 2, some 10].getD k none
def vR2 : Nat → Option Nat := fun k => [some 3].getD k none
def vR4 : Nat → Option Nat := fun k => [some 5, some 6, some 7].getD k none
def vR8 : Nat → Option Nat := fun k => [some 43, some 54].getD k none
def vR65 : Nat → Option Nat := fun k => [some 67, some 69, some 71, some 73].getD k none
def vSheetR (t : Nat) : Nat → Option Nat := fun k => if k = 0 then some (t + 1) else none
def vR75 : Nat → Option Nat := fun k => [some 76, none, some 77, none, none, none, none, none, none, some 78, none, none, none, none, none, none, none, none, some 79, some 80, none, some 81, none, none, some 82, none, some 83, some 84, some 85, some 86, some 87, none].getD k none
def layL : List vL := [(5, 10, vR0), (0, 7, vR1), (3, 6, vR2), (8, 160, vNone), (2, 4, vR4), (7, 6, vNone), (7, 6, vNone), (9, 6, vNone), (10, 2, vR8), (9, 2, vNone)] ++ (vTownL 10 ++ (vTownL 21 ++ (vTownL 32 ++ (vTownL 43 ++ (vTownL 54 ++
  [(11, 4, vR65), (7, 8, vNone), (1, 3, vSheetR 67), (7, 40, vNone), (1, 3, vSheetR 69), (7, 40, vNone), (1, 3, vSheetR 71), (7, 40, vNone), (1, 3, vSheetR 73), (7, 40, vNone), (6, 32, vR75), (7, 325, vNone), (7, 65, vNone), (7, 160, vNone), (7, 8, vNone), (7, 32, vNone), (7, 8, vNone), (7, 18, vNone), (7, 45, vNone), (9, 2, vNone), (7, 4, vNone), (7, 4, vNone), (7, 160, vNone)])))))
def lay (k : Nat) : vL := layL.getD k (7, 0, vNone)
theorem layL_len : layL.length = 88 := by decide +kernel
/-- a value of the plain machine, at the real addresses -/
def vm (α : Nat → Nat) : Value → Value := fun v => match v with
  | .ref k => .ref (α k)
  | v => v
theorem vm_cat (α : Nat → Nat) (v : Value) : (vm α v).category = v.category := by cases v <;> rfl
def vsl (E : vE) (k : Nat) (σ : vW) (q : vL) (j : Nat) : Value := match q.2.2 j with
  | some p => .ref (E.1 p)
  | none => .int (σ k j)
def vcellOf (E : vE) (σ : vW) (k : Nat) (q : vL) : va_E :=
  if q.1 < 7 then .inr (q.1, (List.range q.2.1).map (vsl E k σ q))
  else if q.1 < 10 then .inl (E.2.2.1 (q.1 - 7), q.2.1, .inl (σ k))
  else .inl (E.2.2.1 (q.1 - 7), q.2.1, .inr (.inr (.inr (.inr (fun j => (q.2.2 j).map E.1)))))
def vcell (E : vE) (σ : vW) (k : Nat) : va_E := vcellOf E σ k (lay k)
def vws (E : vE) (σ : vW) : va_W := (List.range 88).map (fun k => (E.1 k, vcell E σ k))
def vtys (E : vE) : List (ClassId × FieldType) := [(E.2.2.1 0, .int), (E.2.2.1 1, .byte), (E.2.2.1 2, .boolean), (E.2.2.1 3, .object "DoorTown$Town"), (E.2.2.1 4, .object "DoorTown$Sheet")]
def vA (E : vE) : Nat → Prop := fun q => ∃ k, k < 88 ∧ q = E.1 k
def vInj (E : vE) : Prop := ∀ i j, i < 88 → j < 88 → E.1 i = E.1 j → i = j
theorem vws_get (E : vE) (σ : vW) {k : Nat} (hk : k < 88) : (vws E σ)[k]? = some (E.1 k, vcell E σ k) := by
  unfold vws
  rw [List.getElem?_map, List.getElem?_range hk]
  rfl
theorem vws_inv {E : vE} {σ : vW} {k : Nat} {q : Nat × va_E} (h : (vws E σ)[k]? = some q) : k < 88 ∧ q = (E.1 k, vcell E σ k) := by
  have hl : k < 88 := by
    have := (List.getElem?_eq_some_iff.mp h).1
    simpa [vws] using this
  rw [vws_get E σ hl] at h
  exact ⟨hl, (Option.some.inj h).symm⟩
theorem vws_set (E : vE) (σ σ' : vW) {k : Nat} (hk : k < 88) {c : va_E} (hc : c = vcell E σ' k) (ho : ∀ j, j < 88 → j ≠ k → vcell E σ' j = vcell E σ j) : (vws E σ).set k (E.1 k, c) = vws E σ' := by
  apply List.ext_getElem?
  intro i
  by_cases hi : i < 88
  · rw [vws_get E σ' hi]
    by_cases hik : i = k
    · subst hik
      rw [List.getElem?_set_self (by simpa [vws] using hi), hc]
    · rw [List.getElem?_set_ne (Ne.symm hik), vws_get E σ hi, ho i hi hik]
  · rw [List.getElem?_eq_none (by simpa [vws] using hi), List.getElem?_eq_none (by simpa [vws] using hi)]
theorem vws_D {E : vE} (hi : vInj E) (σ : vW) : va_D (vA E) (vws E σ) := by
  refine ⟨fun i j p q hp hq h => ?_, fun k q hq => ?_⟩
  · obtain ⟨h1, rfl⟩ := vws_inv hp
    obtain ⟨h2, rfl⟩ := vws_inv hq
    exact hi i j h1 h2 h
  · obtain ⟨h1, rfl⟩ := vws_inv hq
    exact ⟨k, h1, rfl⟩
/-- one int of the world -/
def vset (σ : vW) (k i : Nat) (v : Int32) : vW := fun a j => if a = k ∧ j = i then v else σ a j
/-- one row of the world -/
def vrow (σ : vW) (k : Nat) (f : Nat → Int32) : vW := fun a => if a = k then f else σ a
theorem vset_row (σ : vW) (k i : Nat) (v : Int32) : vset σ k i v = vrow σ k (upd (σ k) i v) := by
  funext a j
  by_cases ha : a = k
  · subst ha
    simp [vset, vrow, upd]
  · simp [vset, vrow, ha]
theorem vrow_cell_ne (E : vE) (σ : vW) {k j : Nat} (f : Nat → Int32) (h : j ≠ k) : vcell E (vrow σ k f) j = vcell E σ j := by
  have e : (vrow σ k f) j = σ j := by simp [vrow, h]
  have e2 : vsl E j (vrow σ k f) (lay j) = vsl E j σ (lay j) := by
    funext i
    simp only [vsl, e]
  simp only [vcell, vcellOf, e, e2]
theorem vrow_cell_arr (E : vE) (σ : vW) {k ty n : Nat} {rf : Nat → Option Nat} (f : Nat → Int32) (hl : lay k = (7 + ty, n, rf)) (ht : ty < 3) : vcell E (vrow σ k f) k = .inl (E.2.2.1 ty, n, .inl f) := by
  have e : (vrow σ k f) k = f := by simp [vrow]
  simp only [vcell, vcellOf, hl, e]
  rw [if_neg (by omega), if_pos (by omega), Nat.add_sub_cancel_left]
theorem vcell_arr (E : vE) (σ : vW) {k ty n : Nat} {rf : Nat → Option Nat} (hl : lay k = (7 + ty, n, rf)) (ht : ty < 3) : vcell E σ k = .inl (E.2.2.1 ty, n, .inl (σ k)) := by
  simp only [vcell, vcellOf, hl]
  rw [if_neg (by omega), if_pos (by omega), Nat.add_sub_cancel_left]
theorem vcell_refs (E : vE) (σ : vW) {k ty n : Nat} {rf : Nat → Option Nat} (hl : lay k = (7 + ty, n, rf)) (ht : 3 ≤ ty) : vcell E σ k = .inl (E.2.2.1 ty, n, .inr (.inr (.inr (.inr (fun j => (rf j).map E.1))))) := by
  simp only [vcell, vcellOf, hl]
  rw [if_neg (by omega), if_neg (by omega), Nat.add_sub_cancel_left]
theorem vcell_obj (E : vE) (σ : vW) {k ci n : Nat} {rf : Nat → Option Nat} (hl : lay k = (ci, n, rf)) (hc : ci < 7) : vcell E σ k = .inr (ci, (List.range n).map (vsl E k σ (ci, n, rf))) := by
  simp only [vcell, vcellOf, hl]
  rw [if_pos hc]
theorem vslots_at (E : vE) (k : Nat) (σ : vW) (q : vL) {n j : Nat} (h : j < n) : ((List.range n).map (vsl E k σ q))[j]? = some (vsl E k σ q j) := by
  rw [List.getElem?_map, List.getElem?_range h]
  rfl
theorem vset_cell_obj (E : vE) (σ : vW) {k ci n i : Nat} {rf : Nat → Option Nat} (v : Int32) (hl : lay k = (ci, n, rf)) (hc : ci < 7) (hr : rf i = none) : vcell E (vset σ k i v) k = .inr (ci, ((List.range n).map (vsl E k σ (ci, n, rf))).set i (.int v)) := by
  rw [vcell_obj E (vset σ k i v) hl hc]
  congr 2
  apply List.ext_getElem?
  intro j
  by_cases hj : j < n
  · rw [vslots_at E k _ _ hj]
    by_cases hji : j = i
    · subst hji
      rw [List.getElem?_set_self (by simpa using hj)]
      simp [vsl, hr, vset]
    · rw [List.getElem?_set_ne (Ne.symm hji), vslots_at E k _ _ hj]
      simp [vsl, vset, hji]
  · rw [List.getElem?_eq_none (by simpa using hj), List.getElem?_eq_none (by simpa using hj)]
/-- the strings of the reader, by places 100 .. 106 -/
def vStrIx : List Nat := [95, 97, 99, 101, 63, 72, 77]
def vStrTx : List String := ["own", "house", "stranger", "gaol", "wall", "room", "plan"]
def vStrB : List (List Int32) := [[111, 119, 110], [104, 111, 117, 115, 101], [115, 116, 114, 97, 110, 103, 101, 114], [103, 97, 111, 108], [119, 97, 108, 108], [114, 111, 111, 109], [112, 108, 97, 110]]
def vStrN : List Nat := [3, 5, 8, 4, 4, 4, 4]
def vNest : List (String × Nat × MethodName) := [("DoorTown", 9, ⟨"DoorTown$Reader", "<init>", "()V"⟩), ("DoorTown$Reader", 11, ⟨"DoorTown$Tape", "<init>", "()V"⟩), ("DoorTown", 28, ⟨"DoorTown$Sightings", "<init>", "()V"⟩), ("DoorTown", 47, ⟨"DoorTown$Sheet", "<init>", "()V"⟩), ("DoorTown$Reader", 141, ⟨"DoorTown", "hasBit", "(II)Z"⟩), ("DoorTown$Reader", 144, ⟨"DoorTown", "isRoom", "(I)Z"⟩), ("DoorTown$Town", 89, ⟨"DoorTown", "hasBit", "(II)Z"⟩), ("DoorTown$Sightings", 36, ⟨"DoorTown", "hasBit", "(II)Z"⟩)]
/-- what stays true of the tables and of what lies outside the world -/
def vInv (E : vE) (A : Nat → Prop) (U : State) (H : Heap) : Prop :=
  va_K E.2.1 vwCl (vtys E) U ∧ (∀ q ∈ vNest, va_Nw (.methodLinkNest q.1 q.2.1 q.2.2 "DoorTown") U) ∧ vk_S 7 vStrN vStrB (fun i => E.1 (100 + i)) E.2.2.2 A U H ∧ (∀ i, i < 7 → vk_R "DoorTown$Reader" (vStrIx.getD i 0) (vStrTx.getD i "") (E.1 (100 + i)) U) ∧ va_Z "java/lang/String" "COMPACT_STRINGS" "Z" (.int 1) A U H ∧ va_Zq "jdk/internal/util/Preconditions" "SIOOBE_FORMATTER" "Ljava/util/function/BiFunction;" A U H
theorem vInv.warm {E : vE} {A : Nat → Prop} {s U : State} {H : Heap} (hW : s.WarmedH U.vm) (h : vInv E A s H) : vInv E A U H := by
  obtain ⟨h1, h2, h3, h4, h5, h6⟩ := h
  exact ⟨va_K.moved hW.alike h1, fun q hq => va_Nw.warmM hW (h2 q hq), vk_S.moved hW.alike h3, fun i hi => vk_R.warm hW (h4 i hi), va_Z.moved hW.alike h5, va_Zq.moved hW.alike h6⟩
theorem vInv.same {E : vE} {A : Nat → Prop} {s U : State} {H : Heap} (hv : U.vm = s.vm) (h : vInv E A s H) : vInv E A U H := by
  obtain ⟨h1, h2, h3, h4, h5, h6⟩ := h
  have ha : s.vm.Alike U.vm := by rw [hv]; exact Vm.Alike.refl s.vm
  exact ⟨va_K.moved ha h1, fun q hq => va_Nw.same rfl hv.symm (h2 q hq), vk_S.moved ha h3, fun i hi => vk_R.same hv (h4 i hi), va_Z.moved ha h5, va_Zq.moved ha h6⟩
theorem vInv.kept {E : vE} {A : Nat → Prop} {U : State} {H H1 : Heap} (h : vInv E A U H) (hq : ∀ a : Nat, a < H.size → ¬ A a → H1[a]? = H[a]?) : vInv E A U H1 := by
  obtain ⟨h1, h2, h3, h4, h5, h6⟩ := h
  exact ⟨h1, h2, h3.kept hq, h4, h5.kept hq, h6.kept hq⟩
end
section
/-! THE PLAIN MACHINE's JUDGEMENT: V x pc L st σ: from here (locals L, stack st, world σ) the walk comes to its end. -/
abbrev vX : Type := Program × Launch × Env × Room × State × MethodId × Array Value × List Frame × Method × Code × vE × (State → Prop)
abbrev xp (x : vX) := x.1
abbrev xl (x : vX) := x.2.1
abbrev xe (x : vX) := x.2.2.1
abbrev xR (x : vX) := x.2.2.2.1
abbrev xs (x : vX) := x.2.2.2.2.1
abbrev xm (x : vX) := x.2.2.2.2.2.1
abbrev xa (x : vX) := x.2.2.2.2.2.2.1
abbrev xb (x : vX) := x.2.2.2.2.2.2.2.1
abbrev xM (x : vX) := x.2.2.2.2.2.2.2.2.1
abbrev xc (x : vX) := x.2.2.2.2.2.2.2.2.2.1
abbrev xE (x : vX) := x.2.2.2.2.2.2.2.2.2.2.1
abbrev xQ (x : vX) := x.2.2.2.2.2.2.2.2.2.2.2
/-- the locals that are known, with their places -/
def vlo (α : Nat → Nat) : Nat → List (Option Value) → List (Nat × Value)
  | _, [] => []
  | i, none :: r => vlo α (i + 1) r
  | i, some v :: r => (i, vm α v) :: vlo α (i + 1) r
def V (x : vX) (pc : Nat) (L : List (Option Value)) (st : List Value) (σ : vW) : Prop :=
  ∀ (H : Heap) (locs : List Loc) (ls : Array Slot), va_P (xE x).2.1 vwCl (vws (xE x) σ) H → va_S (vA (xE x)) (xs x).heap H locs → lv_has ls (xc x).maxLocals (vlo (xE x).1 0 L) → W (xp x) (xl x) (xe x) (xR x) (xs x) (xm x) (xa x) (xb x) (xM x) (xc x) H locs 0 0 (xQ x) (F0 (xm x) pc ls (st.map (vm (xE x).1)))
/-- what holds all along a walk: the machine, the code, the tables' words, the world's frame, room for calls of depth below dd -/
def vG (x : vX) (own : String) (cc : ByteArray) (nL : Nat) (ret : Option FieldType) (dd : Nat) : Prop :=
  (xp x).tables.exec = Jvm.exec ∧ (xc x).code = cc ∧ (xc x).maxLocals = nL ∧ (xM x).sig.returnType = ret ∧ (xs x).vm.findClass own = some (xm x).cls ∧ (∀ w ∈ BIG, w.before (xa x) (xs x) = true) ∧ vInv (xE x) (vA (xE x)) (xs x) (xs x).heap ∧ (xM x).locks = false ∧ vInj (xE x) ∧ (dd ≤ (xR x).frames ∧ 40 * dd ≤ (xR x).locals)
section VR
variable {x : vX} {own : String} {cc : ByteArray} {nL dd : Nat} {ret : Option FieldType} {pc : Nat} {L : List (Option Value)} {st : List Value} {σ : vW}
theorem vlo_mem {α : Nat → Nat} {v : Value} : ∀ {L : List (Option Value)} {b i : Nat}, L[i]? = some (some v) → (b + i, vm α v) ∈ vlo α b L
  | [], b, i, h => by simp at h
  | a :: r, b, 0, h => by
    have h2 : a = some v := by simpa using h
    subst h2
    exact List.mem_cons_self
  | a :: r, b, i + 1, h => by
    have h2 : r[i]? = some (some v) := by simpa using h
    have h3 := vlo_mem (α := α) (b := b + 1) h2
    have e : b + (i + 1) = b + 1 + i := by omega
    rw [e]
    cases a with
    | none => exact h3
    | some w => exact List.mem_cons_of_mem _ h3
theorem vlo_inv {α : Nat → Nat} {q : Nat × Value} : ∀ {L : List (Option Value)} {b : Nat}, q ∈ vlo α b L → ∃ i v, L[i]? = some (some v) ∧ q = (b + i, vm α v)
  | [], b, h => by cases h
  | none :: r, b, h => by
    obtain ⟨i, v, h1, h2⟩ := vlo_inv (L := r) (b := b + 1) h
    exact ⟨i + 1, v, by simpa using h1, by rw [h2]; congr 1; omega⟩
  | some w :: r, b, h => by
    rcases List.mem_cons.mp h with h | h
    · exact ⟨0, w, rfl, h⟩
    · obtain ⟨i, v, h1, h2⟩ := vlo_inv (L := r) (b := b + 1) h
      exact ⟨i + 1, v, by simpa using h1, by rw [h2]; congr 1; omega⟩
theorem lv_has_of {ls : Array Slot} {n : Nat} {l l' : List (Nat × Value)} (h : lv_has ls n l) (hs : ∀ q ∈ l', q ∈ l) : lv_has ls n l' := ⟨h.1, h.2.1, fun q hq => h.2.2 q (hs q hq)⟩
theorem vlo_get {α : Nat → Nat} {ls : Array Slot} {n i : Nat} {v : Value} (h : lv_has ls n (vlo α 0 L)) (hi : L[i]? = some (some v)) : ls[i]? = some (.val (vm α v)) := by
  have h2 := h.2.2 _ (vlo_mem (α := α) (b := 0) hi)
  rwa [Nat.zero_add] at h2
/-- no long begins just ahead of place i -/
def vnl (L : List (Option Value)) (i : Nat) : Bool := match i with
  | 0 => true
  | j + 1 => match L[j]? with
    | some (some v) => v.category == 1
    | _ => true
theorem vset1_sub {α : Nat → Nat} {i : Nat} {v w : Value} (hw : w = vm α v) (hn : vnl L i = true) : ∀ q ∈ vlo α 0 (L.set i (some v)), q ∈ (i, w) :: (vlo α 0 L).filter (fun q => !(q.1 == i) && !(q.1 + 1 == i && q.2.category == 2)) := by
  subst hw
  intro q hq
  obtain ⟨j, u, h1, rfl⟩ := vlo_inv hq
  rw [Nat.zero_add]
  by_cases hj : j = i
  · subst hj
    have hl : j < L.length := by
      rcases Nat.lt_or_ge j L.length with h | h
      · exact h
      · rw [List.set_eq_of_length_le h, List.getElem?_eq_none h] at h1
        cases h1
    rw [List.getElem?_set_self hl] at h1
    cases h1
    exact List.mem_cons_self
  · rw [List.getElem?_set_ne (Ne.symm hj)] at h1
    refine List.mem_cons_of_mem _ (List.mem_filter.mpr ⟨?_, ?_⟩)
    · have := vlo_mem (α := α) (b := 0) h1
      rwa [Nat.zero_add] at this
    · simp only [Bool.and_eq_true, Bool.not_eq_true', beq_eq_false_iff_ne, ne_eq, Bool.and_eq_false_iff]
      refine ⟨hj, ?_⟩
      by_cases h2 : j + 1 = i
      · subst h2
        right
        simp only [vnl, h1] at hn
        rw [vm_cat]
        have : u.category = 1 := by simpa using hn
        rw [this]
        decide
      · exact Or.inl h2
theorem vset2_sub {α : Nat → Nat} {i : Nat} {v w : Value} (hw : w = vm α v) (hn : vnl L i = true) : ∀ q ∈ vlo α 0 ((L.set i (some v)).set (i + 1) none), q ∈ (i, w) :: (vlo α 0 L).filter (fun q => !(q.1 == i) && (!(q.1 == i + 1) && !(q.1 + 1 == i && q.2.category == 2))) := by
  intro q hq
  obtain ⟨j, u, h1, h0⟩ := vlo_inv hq
  have hj1 : j ≠ i + 1 := by
    rintro rfl
    by_cases hl : i + 1 < (L.set i (some v)).length
    · rw [List.getElem?_set_self hl] at h1
      cases h1
    · rw [List.getElem?_eq_none (by rw [List.length_set]; omega)] at h1
      cases h1
  rw [List.getElem?_set_ne (Ne.symm hj1)] at h1
  have hq2 : q ∈ vlo α 0 (L.set i (some v)) := by
    rw [h0]
    exact vlo_mem h1
  rcases List.mem_cons.mp (vset1_sub hw hn q hq2) with h | h
  · rw [h]; exact List.mem_cons_self
  · refine List.mem_cons_of_mem _ (List.mem_filter.mpr ⟨(List.mem_filter.mp h).1, ?_⟩)
    have h3 := (List.mem_filter.mp h).2
    rw [h0] at h3 ⊢
    simp only [Bool.and_eq_true, Bool.not_eq_true', beq_eq_false_iff_ne, ne_eq, Nat.zero_add] at h3 ⊢
    exact ⟨h3.1, hj1, h3.2⟩
theorem V.mono {L' : List (Option Value)} (h : ∀ (i : Nat) (v : Value), L'[i]? = some (some v) → L[i]? = some (some v)) (k : V x pc L' st σ) : V x pc L st σ := by
  intro H locs ls hP hS hl
  refine k H locs ls hP hS (lv_has_of hl ?_)
  intro q hq
  obtain ⟨i, v, h1, rfl⟩ := vlo_inv hq
  exact vlo_mem (h i v h1)
theorem v_iconst {n : Int} {v : Int32} (G : vG x own cc nL ret dd) (dg : decode cc pc = .ok (.iconst n, 1)) (hv : Int32.ofInt n = v) (k : V x (pc + 1) L (.int v :: st) σ) : V x pc L (st) σ := by
  intro H locs ls hP hS hl
  exact lv_iconst G.1 G.2.1 dg hv (k H locs ls hP hS hl)
theorem v_bipush {n : Int} {v : Int32} (G : vG x own cc nL ret dd) (dg : decode cc pc = .ok (.bipush n, 2)) (hv : (Int8.ofInt n).toInt32 = v) (k : V x (pc + 2) L (.int v :: st) σ) : V x pc L (st) σ := by
  intro H locs ls hP hS hl
  exact lv_bipush G.1 G.2.1 dg hv (k H locs ls hP hS hl)
theorem v_sipush {n : Int} {v : Int32} (G : vG x own cc nL ret dd) (dg : decode cc pc = .ok (.sipush n, 3)) (hv : (Int16.ofInt n).toInt32 = v) (k : V x (pc + 3) L (.int v :: st) σ) : V x pc L (st) σ := by
  intro H locs ls hP hS hl
  exact lv_sipush G.1 G.2.1 dg hv (k H locs ls hP hS hl)
theorem v_lconst {n : Fin 2} {v : Int64} (G : vG x own cc nL ret dd) (dg : decode cc pc = .ok (.lconst n, 1)) (hv : Int64.ofNat (n : Nat) = v) (k : V x (pc + 1) L (.long v :: st) σ) : V x pc L (st) σ := by
  intro H locs ls hP hS hl
  exact lv_lconst G.1 G.2.1 dg hv (k H locs ls hP hS hl)
theorem v_iadd {a b : Int32} (G : vG x own cc nL ret dd) (dg : decode cc pc = .ok (.iadd, 1)) (k : V x (pc + 1) L (.int (a + b) :: st) σ) : V x pc L (.int b :: .int a :: st) σ := by
  intro H locs ls hP hS hl
  exact lv_iadd G.1 G.2.1 dg (k H locs ls hP hS hl)
theorem v_isub {a b : Int32} (G : vG x own cc nL ret dd) (dg : decode cc pc = .ok (.isub, 1)) (k : V x (pc + 1) L (.int (a - b) :: st) σ) : V x pc L (.int b :: .int a :: st) σ := by
  intro H locs ls hP hS hl
  exact lv_isub G.1 G.2.1 dg (k H locs ls hP hS hl)
theorem v_imul {a b : Int32} (G : vG x own cc nL ret dd) (dg : decode cc pc = .ok (.imul, 1)) (k : V x (pc + 1) L (.int (a * b) :: st) σ) : V x pc L (.int b :: .int a :: st) σ := by
  intro H locs ls hP hS hl
  exact lv_imul G.1 G.2.1 dg (k H locs ls hP hS hl)
theorem v_iand {a b : Int32} (G : vG x own cc nL ret dd) (dg : decode cc pc = .ok (.iand, 1)) (k : V x (pc + 1) L (.int (a &&& b) :: st) σ) : V x pc L (.int b :: .int a :: st) σ := by
  intro H locs ls hP hS hl
  exact lv_iand G.1 G.2.1 dg (k H locs ls hP hS hl)
theorem v_ior {a b : Int32} (G : vG x own cc nL ret dd) (dg : decode cc pc = .ok (.ior, 1)) (k : V x (pc + 1) L (.int (a ||| b) :: st) σ) : V x pc L (.int b :: .int a :: st) σ := by
  intro H locs ls hP hS hl
  exact lv_ior G.1 G.2.1 dg (k H locs ls hP hS hl)
theorem v_ixor {a b : Int32} (G : vG x own cc nL ret dd) (dg : decode cc pc = .ok (.ixor, 1)) (k : V x (pc + 1) L (.int (a ^^^ b) :: st) σ) : V x pc L (.int b :: .int a :: st) σ := by
  intro H locs ls hP hS hl
  exact lv_ixor G.1 G.2.1 dg (k H locs ls hP hS hl)
theorem v_ishl {a b : Int32} (G : vG x own cc nL ret dd) (dg : decode cc pc = .ok (.ishl, 1)) (k : V x (pc + 1) L (.int (a <<< (b &&& 31)) :: st) σ) : V x pc L (.int b :: .int a :: st) σ := by
  intro H locs ls hP hS hl
  exact lv_ishl G.1 G.2.1 dg (k H locs ls hP hS hl)
theorem v_ishr {a b : Int32} (G : vG x own cc nL ret dd) (dg : decode cc pc = .ok (.ishr, 1)) (k : V x (pc + 1) L (.int (a >>> (b &&& 31)) :: st) σ) : V x pc L (.int b :: .int a :: st) σ := by
  intro H locs ls hP hS hl
  exact lv_ishr G.1 G.2.1 dg (k H locs ls hP hS hl)
theorem v_iushr {a b : Int32} (G : vG x own cc nL ret dd) (dg : decode cc pc = .ok (.iushr, 1)) (k : V x (pc + 1) L (.int ((a.toUInt32 >>> (b.toUInt32 &&& Int32.toUInt32 31)).toInt32) :: st) σ) : V x pc L (.int b :: .int a :: st) σ := by
  intro H locs ls hP hS hl
  exact lv_iushr G.1 G.2.1 dg rfl (k H locs ls hP hS hl)
theorem v_idiv {a b : Int32} (G : vG x own cc nL ret dd) (dg : decode cc pc = .ok (.idiv, 1)) (hne : ¬ b = 0) (k : V x (pc + 1) L (.int (a / b) :: st) σ) : V x pc L (.int b :: .int a :: st) σ := by
  intro H locs ls hP hS hl
  exact lv_idiv G.1 G.2.1 dg hne (k H locs ls hP hS hl)
theorem v_irem {a b : Int32} (G : vG x own cc nL ret dd) (dg : decode cc pc = .ok (.irem, 1)) (hne : ¬ b = 0) (k : V x (pc + 1) L (.int (a - a / b * b) :: st) σ) : V x pc L (.int b :: .int a :: st) σ := by
  intro H locs ls hP hS hl
  exact lv_irem G.1 G.2.1 dg hne (k H locs ls hP hS hl)
theorem v_ladd {a b : Int64} (G : vG x own cc nL ret dd) (dg : decode cc pc = .ok (.ladd, 1)) (k : V x (pc + 1) L (.long (a + b) :: st) σ) : V x pc L (.long b :: .long a :: st) σ := by
  intro H locs ls hP hS hl
  exact lv_ladd G.1 G.2.1 dg (k H locs ls hP hS hl)
theorem v_lsub {a b : Int64} (G : vG x own cc nL ret dd) (dg : decode cc pc = .ok (.lsub, 1)) (k : V x (pc + 1) L (.long (a - b) :: st) σ) : V x pc L (.long b :: .long a :: st) σ := by
  intro H locs ls hP hS hl
  exact lv_lsub G.1 G.2.1 dg (k H locs ls hP hS hl)
theorem v_lmul {a b : Int64} (G : vG x own cc nL ret dd) (dg : decode cc pc = .ok (.lmul, 1)) (k : V x (pc + 1) L (.long (a * b) :: st) σ) : V x pc L (.long b :: .long a :: st) σ := by
  intro H locs ls hP hS hl
  exact lv_lmul G.1 G.2.1 dg (k H locs ls hP hS hl)
theorem v_ldiv {a b : Int64} (G : vG x own cc nL ret dd) (dg : decode cc pc = .ok (.ldiv, 1)) (hne : ¬ b = 0) (k : V x (pc + 1) L (.long (a / b) :: st) σ) : V x pc L (.long b :: .long a :: st) σ := by
  intro H locs ls hP hS hl
  exact lv_ldiv G.1 G.2.1 dg hne (k H locs ls hP hS hl)
theorem v_lrem {a b : Int64} (G : vG x own cc nL ret dd) (dg : decode cc pc = .ok (.lrem, 1)) (hne : ¬ b = 0) (k : V x (pc + 1) L (.long (a - a / b * b) :: st) σ) : V x pc L (.long b :: .long a :: st) σ := by
  intro H locs ls hP hS hl
  exact lv_lrem G.1 G.2.1 dg hne (k H locs ls hP hS hl)
theorem v_lcmp {a b : Int64} (G : vG x own cc nL ret dd) (dg : decode cc pc = .ok (.lcmp, 1)) (k : V x (pc + 1) L (.int (lg_cmp a b) :: st) σ) : V x pc L (.long b :: .long a :: st) σ := by
  intro H locs ls hP hS hl
  exact W.lcmp G.1 G.2.1 dg (k H locs ls hP hS hl)
theorem v_i2l {a : Int32} (G : vG x own cc nL ret dd) (dg : decode cc pc = .ok (.i2l, 1)) (k : V x (pc + 1) L (.long a.toInt64 :: st) σ) : V x pc L (.int a :: st) σ := by
  intro H locs ls hP hS hl
  exact lv_i2l G.1 G.2.1 dg rfl (k H locs ls hP hS hl)
theorem v_i2b {a : Int32} (G : vG x own cc nL ret dd) (dg : decode cc pc = .ok (.i2b, 1)) (k : V x (pc + 1) L (.int a.toInt8.toInt32 :: st) σ) : V x pc L (.int a :: st) σ := by
  intro H locs ls hP hS hl
  exact lv_i2b G.1 G.2.1 dg rfl (k H locs ls hP hS hl)
theorem v_i2s {a : Int32} (G : vG x own cc nL ret dd) (dg : decode cc pc = .ok (.i2s, 1)) (k : V x (pc + 1) L (.int a.toInt16.toInt32 :: st) σ) : V x pc L (.int a :: st) σ := by
  intro H locs ls hP hS hl
  exact lv_i2s G.1 G.2.1 dg rfl (k H locs ls hP hS hl)
theorem v_dup {v : Value} (G : vG x own cc nL ret dd) (dg : decode cc pc = .ok (.dup, 1)) (hc : v.category = 1) (k : V x (pc + 1) L (v :: v :: st) σ) : V x pc L (v :: st) σ := by
  intro H locs ls hP hS hl
  exact lv_dup G.1 G.2.1 dg ((vm_cat _ v).trans hc) (k H locs ls hP hS hl)
theorem v_pop {v : Value} (G : vG x own cc nL ret dd) (dg : decode cc pc = .ok (.pop, 1)) (hc : v.category = 1) (k : V x (pc + 1) L (st) σ) : V x pc L (v :: st) σ := by
  intro H locs ls hP hS hl
  exact lv_pop G.1 G.2.1 dg ((vm_cat _ v).trans hc) (k H locs ls hP hS hl)
theorem v_dup2 {v w : Value} (G : vG x own cc nL ret dd) (dg : decode cc pc = .ok (.dup2, 1)) (hc : v.category = 1) (hd : w.category = 1) (k : V x (pc + 1) L (v :: w :: v :: w :: st) σ) : V x pc L (v :: w :: st) σ := by
  intro H locs ls hP hS hl
  exact lv_dup2_11 G.1 G.2.1 dg ((vm_cat _ v).trans hc) ((vm_cat _ w).trans hd) (k H locs ls hP hS hl)
theorem v_iload_n {k0 : Fin 4} {i : Nat} {v : Int32} (G : vG x own cc nL ret dd) (dg : decode cc pc = .ok (.iload_n k0, 1)) (hi : (k0 : Nat) = i) (hl0 : L[i]? = some (some (.int v))) (k : V x (pc + 1) L (.int v :: st) σ) : V x pc L (st) σ := by
  intro H locs ls hP hS hl
  exact lv_iload_n G.1 G.2.1 dg hi (vlo_get hl hl0) (k H locs ls hP hS hl)
theorem v_iload {i : Nat} {v : Int32} (G : vG x own cc nL ret dd) (dg : decode cc pc = .ok (.iload i, 2)) (hl0 : L[i]? = some (some (.int v))) (k : V x (pc + 2) L (.int v :: st) σ) : V x pc L (st) σ := by
  intro H locs ls hP hS hl
  exact lv_iload G.1 G.2.1 dg (vlo_get hl hl0) (k H locs ls hP hS hl)
theorem v_lload_n {k0 : Fin 4} {i : Nat} {v : Int64} (G : vG x own cc nL ret dd) (dg : decode cc pc = .ok (.lload_n k0, 1)) (hi : (k0 : Nat) = i) (hl0 : L[i]? = some (some (.long v))) (k : V x (pc + 1) L (.long v :: st) σ) : V x pc L (st) σ := by
  intro H locs ls hP hS hl
  exact lv_lload_n G.1 G.2.1 dg hi (vlo_get hl hl0) (k H locs ls hP hS hl)
theorem v_lload {i : Nat} {v : Int64} (G : vG x own cc nL ret dd) (dg : decode cc pc = .ok (.lload i, 2)) (hl0 : L[i]? = some (some (.long v))) (k : V x (pc + 2) L (.long v :: st) σ) : V x pc L (st) σ := by
  intro H locs ls hP hS hl
  exact lv_lload G.1 G.2.1 dg (vlo_get hl hl0) (k H locs ls hP hS hl)
theorem v_aload_n {k0 : Fin 4} {i : Nat} {v : Nat} (G : vG x own cc nL ret dd) (dg : decode cc pc = .ok (.aload_n k0, 1)) (hi : (k0 : Nat) = i) (hl0 : L[i]? = some (some (.ref v))) (k : V x (pc + 1) L (.ref v :: st) σ) : V x pc L (st) σ := by
  intro H locs ls hP hS hl
  exact lv_aload_n G.1 G.2.1 dg hi (vlo_get hl hl0) (k H locs ls hP hS hl)
theorem v_aload {i : Nat} {v : Nat} (G : vG x own cc nL ret dd) (dg : decode cc pc = .ok (.aload i, 2)) (hl0 : L[i]? = some (some (.ref v))) (k : V x (pc + 2) L (.ref v :: st) σ) : V x pc L (st) σ := by
  intro H locs ls hP hS hl
  exact lv_aload G.1 G.2.1 dg (vlo_get hl hl0) (k H locs ls hP hS hl)
theorem v_istore_n {k0 : Fin 4} {i : Nat} {v : Int32} (G : vG x own cc nL ret dd) (dg : decode cc pc = .ok (.istore_n k0, 1)) (hi : (k0 : Nat) = i) (hn : i < nL) (hq : vnl L i = true) (k : V x (pc + 1) (L.set i (some (.int v))) st σ) : V x pc L (.int v :: st) σ := by
  intro H locs ls hP hS hl
  exact lv_istore_n G.1 G.2.1 dg hi hl (by rw [G.2.2.1]; exact hn) rfl (fun ls' h' => k H locs ls' hP hS (lv_has_of h' (vset1_sub rfl hq)))
theorem v_astore_n {k0 : Fin 4} {i : Nat} {v : Nat} (G : vG x own cc nL ret dd) (dg : decode cc pc = .ok (.astore_n k0, 1)) (hi : (k0 : Nat) = i) (hn : i < nL) (hq : vnl L i = true) (k : V x (pc + 1) (L.set i (some (.ref v))) st σ) : V x pc L (.ref v :: st) σ := by
  intro H locs ls hP hS hl
  exact lv_astore_n G.1 G.2.1 dg hi hl (by rw [G.2.2.1]; exact hn) rfl (fun ls' h' => k H locs ls' hP hS (lv_has_of h' (vset1_sub rfl hq)))
theorem v_lstore_n {k0 : Fin 4} {i : Nat} {v : Int64} (G : vG x own cc nL ret dd) (dg : decode cc pc = .ok (.lstore_n k0, 1)) (hi : (k0 : Nat) = i) (hn : i + 1 < nL) (hq : vnl L i = true) (k : V x (pc + 1) ((L.set i (some (.long v))).set (i + 1) none) st σ) : V x pc L (.long v :: st) σ := by
  intro H locs ls hP hS hl
  exact lv_lstore_n G.1 G.2.1 dg hi hl (by rw [G.2.2.1]; exact hn) rfl (fun ls' h' => k H locs ls' hP hS (lv_has_of h' (vset2_sub rfl hq)))
theorem v_istore {i : Nat} {v : Int32} (G : vG x own cc nL ret dd) (dg : decode cc pc = .ok (.istore i, 2)) (hn : i < nL) (hq : vnl L i = true) (k : V x (pc + 2) (L.set i (some (.int v))) st σ) : V x pc L (.int v :: st) σ := by
  intro H locs ls hP hS hl
  exact lv_istore G.1 G.2.1 dg hl (by rw [G.2.2.1]; exact hn) rfl (fun ls' h' => k H locs ls' hP hS (lv_has_of h' (vset1_sub rfl hq)))
theorem v_astore {i : Nat} {v : Nat} (G : vG x own cc nL ret dd) (dg : decode cc pc = .ok (.astore i, 2)) (hn : i < nL) (hq : vnl L i = true) (k : V x (pc + 2) (L.set i (some (.ref v))) st σ) : V x pc L (.ref v :: st) σ := by
  intro H locs ls hP hS hl
  exact lv_astore G.1 G.2.1 dg hl (by rw [G.2.2.1]; exact hn) rfl (fun ls' h' => k H locs ls' hP hS (lv_has_of h' (vset1_sub rfl hq)))
theorem v_lstore {i : Nat} {v : Int64} (G : vG x own cc nL ret dd) (dg : decode cc pc = .ok (.lstore i, 2)) (hn : i + 1 < nL) (hq : vnl L i = true) (k : V x (pc + 2) ((L.set i (some (.long v))).set (i + 1) none) st σ) : V x pc L (.long v :: st) σ := by
  intro H locs ls hP hS hl
  exact lv_lstore G.1 G.2.1 dg hl (by rw [G.2.2.1]; exact hn) rfl (fun ls' h' => k H locs ls' hP hS (lv_has_of h' (vset2_sub rfl hq)))
theorem v_iinc {i : Nat} {n : Int} {a : Int32} (G : vG x own cc nL ret dd) (dg : decode cc pc = .ok (.iinc i n, 3)) (hl0 : L[i]? = some (some (.int a))) (hn : i < nL) (hq : vnl L i = true) (k : V x (pc + 3) (L.set i (some (.int (a + Int32.ofInt n)))) st σ) : V x pc L st σ := by
  intro H locs ls hP hS hl
  have hm := vlo_mem (α := (xE x).1) (b := 0) hl0
  rw [Nat.zero_add] at hm
  obtain ⟨k0, hk0⟩ := List.getElem?_of_mem hm
  exact lv_iinc G.1 G.2.1 dg hl hk0 rfl (by rw [G.2.2.1]; exact hn) rfl (fun ls' h' => k H locs ls' hP hS (lv_has_of h' (vset1_sub rfl hq)))
theorem v_if_eq {a : Int32} {off : Int} {tgt : Nat} (G : vG x own cc nL ret dd) (dg : decode cc pc = .ok (.ifCond .eq off, 3)) (ht : (pc : Int) + off = (tgt : Int)) (kt : a = 0 → V x tgt L st σ) (kf : ¬ a = 0 → V x (pc + 3) L st σ) : V x pc L (.int a :: st) σ := by
  intro H locs ls hP hS hl
  exact lv_if_eq G.1 G.2.1 dg ht (fun h => kt h H locs ls hP hS hl) (fun h => kf h H locs ls hP hS hl)
theorem v_if_ne {a : Int32} {off : Int} {tgt : Nat} (G : vG x own cc nL ret dd) (dg : decode cc pc = .ok (.ifCond .ne off, 3)) (ht : (pc : Int) + off = (tgt : Int)) (kt : ¬ a = 0 → V x tgt L st σ) (kf : a = 0 → V x (pc + 3) L st σ) : V x pc L (.int a :: st) σ := by
  intro H locs ls hP hS hl
  exact lv_if_ne G.1 G.2.1 dg ht (fun h => kt h H locs ls hP hS hl) (fun h => kf h H locs ls hP hS hl)
theorem v_if_lt {a : Int32} {off : Int} {tgt : Nat} (G : vG x own cc nL ret dd) (dg : decode cc pc = .ok (.ifCond .lt off, 3)) (ht : (pc : Int) + off = (tgt : Int)) (kt : a < 0 → V x tgt L st σ) (kf : ¬ a < 0 → V x (pc + 3) L st σ) : V x pc L (.int a :: st) σ := by
  intro H locs ls hP hS hl
  exact lv_if_lt G.1 G.2.1 dg ht (fun h => kt h H locs ls hP hS hl) (fun h => kf h H locs ls hP hS hl)
theorem v_if_ge {a : Int32} {off : Int} {tgt : Nat} (G : vG x own cc nL ret dd) (dg : decode cc pc = .ok (.ifCond .ge off, 3)) (ht : (pc : Int) + off = (tgt : Int)) (kt : 0 ≤ a → V x tgt L st σ) (kf : ¬ 0 ≤ a → V x (pc + 3) L st σ) : V x pc L (.int a :: st) σ := by
  intro H locs ls hP hS hl
  exact lv_if_ge G.1 G.2.1 dg ht (fun h => kt h H locs ls hP hS hl) (fun h => kf h H locs ls hP hS hl)
theorem v_if_gt {a : Int32} {off : Int} {tgt : Nat} (G : vG x own cc nL ret dd) (dg : decode cc pc = .ok (.ifCond .gt off, 3)) (ht : (pc : Int) + off = (tgt : Int)) (kt : 0 < a → V x tgt L st σ) (kf : ¬ 0 < a → V x (pc + 3) L st σ) : V x pc L (.int a :: st) σ := by
  intro H locs ls hP hS hl
  exact lv_if_gt G.1 G.2.1 dg ht (fun h => kt h H locs ls hP hS hl) (fun h => kf h H locs ls hP hS hl)
theorem v_if_le {a : Int32} {off : Int} {tgt : Nat} (G : vG x own cc nL ret dd) (dg : decode cc pc = .ok (.ifCond .le off, 3)) (ht : (pc : Int) + off = (tgt : Int)) (kt : a ≤ 0 → V x tgt L st σ) (kf : ¬ a ≤ 0 → V x (pc + 3) L st σ) : V x pc L (.int a :: st) σ := by
  intro H locs ls hP hS hl
  exact lv_if_le G.1 G.2.1 dg ht (fun h => kt h H locs ls hP hS hl) (fun h => kf h H locs ls hP hS hl)
theorem v_icmp_eq {a b : Int32} {off : Int} {tgt : Nat} (G : vG x own cc nL ret dd) (dg : decode cc pc = .ok (.if_icmp .eq off, 3)) (ht : (pc : Int) + off = (tgt : Int)) (kt : a = b → V x tgt L st σ) (kf : ¬ a = b → V x (pc + 3) L st σ) : V x pc L (.int b :: .int a :: st) σ := by
  intro H locs ls hP hS hl
  exact lv_icmp_eq G.1 G.2.1 dg ht (fun h => kt h H locs ls hP hS hl) (fun h => kf h H locs ls hP hS hl)
theorem v_icmp_ne {a b : Int32} {off : Int} {tgt : Nat} (G : vG x own cc nL ret dd) (dg : decode cc pc = .ok (.if_icmp .ne off, 3)) (ht : (pc : Int) + off = (tgt : Int)) (kt : ¬ a = b → V x tgt L st σ) (kf : a = b → V x (pc + 3) L st σ) : V x pc L (.int b :: .int a :: st) σ := by
  intro H locs ls hP hS hl
  exact lv_icmp_ne G.1 G.2.1 dg ht (fun h => kt h H locs ls hP hS hl) (fun h => kf h H locs ls hP hS hl)
theorem v_icmp_lt {a b : Int32} {off : Int} {tgt : Nat} (G : vG x own cc nL ret dd) (dg : decode cc pc = .ok (.if_icmp .lt off, 3)) (ht : (pc : Int) + off = (tgt : Int)) (kt : a < b → V x tgt L st σ) (kf : ¬ a < b → V x (pc + 3) L st σ) : V x pc L (.int b :: .int a :: st) σ := by
  intro H locs ls hP hS hl
  exact lv_icmp_lt G.1 G.2.1 dg ht (fun h => kt h H locs ls hP hS hl) (fun h => kf h H locs ls hP hS hl)
theorem v_icmp_ge {a b : Int32} {off : Int} {tgt : Nat} (G : vG x own cc nL ret dd) (dg : decode cc pc = .ok (.if_icmp .ge off, 3)) (ht : (pc : Int) + off = (tgt : Int)) (kt : b ≤ a → V x tgt L st σ) (kf : ¬ b ≤ a → V x (pc + 3) L st σ) : V x pc L (.int b :: .int a :: st) σ := by
  intro H locs ls hP hS hl
  exact lv_icmp_ge G.1 G.2.1 dg ht (fun h => kt h H locs ls hP hS hl) (fun h => kf h H locs ls hP hS hl)
theorem v_icmp_gt {a b : Int32} {off : Int} {tgt : Nat} (G : vG x own cc nL ret dd) (dg : decode cc pc = .ok (.if_icmp .gt off, 3)) (ht : (pc : Int) + off = (tgt : Int)) (kt : b < a → V x tgt L st σ) (kf : ¬ b < a → V x (pc + 3) L st σ) : V x pc L (.int b :: .int a :: st) σ := by
  intro H locs ls hP hS hl
  exact lv_icmp_gt G.1 G.2.1 dg ht (fun h => kt h H locs ls hP hS hl) (fun h => kf h H locs ls hP hS hl)
theorem v_icmp_le {a b : Int32} {off : Int} {tgt : Nat} (G : vG x own cc nL ret dd) (dg : decode cc pc = .ok (.if_icmp .le off, 3)) (ht : (pc : Int) + off = (tgt : Int)) (kt : a ≤ b → V x tgt L st σ) (kf : ¬ a ≤ b → V x (pc + 3) L st σ) : V x pc L (.int b :: .int a :: st) σ := by
  intro H locs ls hP hS hl
  exact lv_icmp_le G.1 G.2.1 dg ht (fun h => kt h H locs ls hP hS hl) (fun h => kf h H locs ls hP hS hl)
theorem v_goto {off : Int} {tgt : Nat} (G : vG x own cc nL ret dd) (dg : decode cc pc = .ok (.goto off, 3)) (ht : (pc : Int) + off = (tgt : Int)) (k : V x tgt L st σ) : V x pc L st σ := by
  intro H locs ls hP hS hl
  exact lv_goto G.1 G.2.1 dg ht (k H locs ls hP hS hl)
theorem v_ldc {index : Nat} {v : Int32} (G : vG x own cc nL ret dd) (hc : Cond.constant own index v ∈ BIG) (dg : decode cc pc = .ok (.ldc index, 2)) (k : V x (pc + 2) L (.int v :: st) σ) : V x pc L st σ := by
  intro H locs ls hP hS hl
  exact lv_ldc G.1 G.2.1 G.2.2.2.2.1 (G.2.2.2.2.2.1 _ hc) dg (k H locs ls hP hS hl)
theorem v_ldc_w {index : Nat} {v : Int32} (G : vG x own cc nL ret dd) (hc : Cond.constant own index v ∈ BIG) (dg : decode cc pc = .ok (.ldc_w index, 3)) (k : V x (pc + 3) L (.int v :: st) σ) : V x pc L st σ := by
  intro H locs ls hP hS hl
  exact lv_ldcw G.1 G.2.1 G.2.2.2.2.1 (G.2.2.2.2.2.1 _ hc) dg (k H locs ls hP hS hl)
theorem v_ldc2 {index : Nat} {v : Int64} (G : vG x own cc nL ret dd) (hc : Cond.constantLong own index v ∈ BIG) (dg : decode cc pc = .ok (.ldc2_w index, 3)) (k : V x (pc + 3) L (.long v :: st) σ) : V x pc L st σ := by
  intro H locs ls hP hS hl
  exact lv_ldc2 G.1 G.2.1 G.2.2.2.2.1 (G.2.2.2.2.2.1 _ hc) dg (k H locs ls hP hS hl)
theorem v_tabIn {dflt lo hi : Int} {offs : Array Int} {len : Nat} {a : Int32} {off : Int} {tgt : Nat} (G : vG x own cc nL ret dd) (dg : decode cc pc = .ok (.tableswitch dflt lo hi offs, len)) (h1 : ¬ a.toInt < lo) (h2 : ¬ hi < a.toInt) (ho : offs[(a.toInt - lo).toNat]? = some off) (ht : (pc : Int) + off = (tgt : Int)) (k : V x tgt L st σ) : V x pc L (.int a :: st) σ := by
  intro H locs ls hP hS hl
  exact lv_tableIn G.1 G.2.1 dg h1 h2 ho ht (k H locs ls hP hS hl)
theorem v_tabOut {dflt lo hi : Int} {offs : Array Int} {len : Nat} {a : Int32} {tgt : Nat} (G : vG x own cc nL ret dd) (dg : decode cc pc = .ok (.tableswitch dflt lo hi offs, len)) (h : a.toInt < lo ∨ hi < a.toInt) (ht : (pc : Int) + dflt = (tgt : Int)) (k : V x tgt L st σ) : V x pc L (.int a :: st) σ := by
  intro H locs ls hP hS hl
  exact lv_tableOut G.1 G.2.1 dg h ht (k H locs ls hP hS hl)
theorem v_lookup {dflt : Int} {ps : Array (Int × Int)} {len : Nat} {a : Int32} {off : Int} {tgt : Nat} (G : vG x own cc nL ret dd) (dg : decode cc pc = .ok (.lookupswitch dflt ps, len)) (hp : (ps.toList.zip (ps.toList.drop 1)).all (fun (a, next) => a.1 < next.1) = true) (ho : Op.lookupswitch.offset ps.toList dflt a.toInt = off) (ht : (pc : Int) + off = (tgt : Int)) (k : V x tgt L st σ) : V x pc L (.int a :: st) σ := by
  intro H locs ls hP hS hl
  exact lv_lookup G.1 G.2.1 dg hp ho ht (k H locs ls hP hS hl)
end VR
end
section
/-! Fields, arrays, calls, contracts of the plain machine. -/
/-- own's entry idx is field k of class ci -/
def vLk (own : String) (idx ci k : Nat) : Prop := ∃ q : vw_C, vwCl[ci]? = some q ∧ k < q.2.2 ∧ Cond.fieldLink own idx (q.2.1 k).1 (q.2.1 k).2.1 (q.2.1 k).2.2.1 ∈ BIG
/-- place r is an object of class ci, whose field k always holds o (a place), or an int -/
def vFs (r ci k : Nat) (o : Option Nat) : Prop := r < 88 ∧ ci < 7 ∧ ∃ n rf, lay r = (ci, n, rf) ∧ k < n ∧ rf k = o
/-- place r is a row of n ints of type ty -/
def vAs (r ty n : Nat) : Prop := r < 88 ∧ ty < 3 ∧ ∃ rf, lay r = (7 + ty, n, rf)
/-- place r is a row of n places -/
def vQs (r ty n : Nat) (rf : Nat → Option Nat) : Prop := r < 88 ∧ (ty = 3 ∨ ty = 4) ∧ lay r = (7 + ty, n, rf)
def vClsOk (ci : Nat) : Prop := ∀ q : vw_C, vwCl[ci]? = some q → (∀ w ∈ u_ws q.1 q.2.1 q.2.2, w ∈ BIG) ∧ (∀ a, a < q.2.2 → ∀ b, b < q.2.2 → a ≠ b → (q.2.1 a).2.1 ≠ (q.2.1 b).2.1)
def vTyOk (ci : Nat) (ty0 : Nat → FieldType) : Prop := ∀ q : vw_C, vwCl[ci]? = some q → ∀ k, k < q.2.2 → parseFieldDescriptor (q.2.1 k).2.2.1 = some (ty0 k)
theorem vty_at (E : vE) {ty : Nat} (h : ty < 3) : (vtys E)[ty]? = some (E.2.2.1 ty, if ty = 0 then .int else if ty = 1 then .byte else .boolean) := by
  match ty, h with
  | 0, _ => rfl
  | 1, _ => rfl
  | 2, _ => rfl
def vsv (o : Option Nat) (v : Int32) : Value := match o with
  | some p => .ref p
  | none => .int v
section VH
variable {x : vX} {own : String} {cc : ByteArray} {nL dd : Nat} {ret : Option FieldType} {pc : Nat} {L : List (Option Value)} {st : List Value} {σ : vW}
theorem v_getV {r ci k idx : Nat} {o : Option Nat} (G : vG x own cc nL ret dd) (hC : vClsOk ci) (lk : vLk own idx ci k) (fs : vFs r ci k o) (dg : decode cc pc = .ok (.getfield idx, 3)) (k0 : V x (pc + 3) L (vsv o (σ r k) :: st) σ) : V x pc L (.ref r :: st) σ := by
  intro H locs ls hP hS hl
  obtain ⟨⟨C, T, N⟩, hq, hk, hw⟩ := lk
  obtain ⟨hr, hci, n, rf, hlay, hkn, ho⟩ := fs
  have he := vws_get (xE x) σ hr
  rw [vcell_obj (xE x) σ hlay hci] at he
  have hv := vslots_at (xE x) r σ (ci, n, rf) hkn
  have e : vm (xE x).1 (vsv o (σ r k)) = vsl (xE x) r σ (ci, n, rf) k := by
    subst ho
    simp only [vsl]
    cases rf k <;> rfl
  have k1 := k0 H locs ls hP hS hl
  rw [List.map_cons, e] at k1
  exact va_get (C := C) (T := T) (N := N) G.1 G.2.1 G.2.2.2.2.2.1 (hC _ hq).1 G.2.2.2.2.1 G.2.2.2.2.2.2.1.1 hP r he hq k hk (G.2.2.2.2.2.1 _ hw) (fun _ h => h) hv dg k1
theorem v_getI {r ci k idx : Nat} (G : vG x own cc nL ret dd) (hC : vClsOk ci) (lk : vLk own idx ci k) (fs : vFs r ci k none) (dg : decode cc pc = .ok (.getfield idx, 3)) (k0 : V x (pc + 3) L (.int (σ r k) :: st) σ) : V x pc L (.ref r :: st) σ := v_getV G hC lk fs dg k0
theorem v_getR {r ci k idx p : Nat} (G : vG x own cc nL ret dd) (hC : vClsOk ci) (lk : vLk own idx ci k) (fs : vFs r ci k (some p)) (dg : decode cc pc = .ok (.getfield idx, 3)) (k0 : V x (pc + 3) L (.ref p :: st) σ) : V x pc L (.ref r :: st) σ := v_getV G hC lk fs dg k0
/-- the field's type holds v as it is, and it isn't final -/
def vFit (ci k : Nat) (v : Int32) : Prop := ∀ q : vw_C, vwCl[ci]? = some q → (q.2.1 k).2.2.2 = false ∧ ∃ ty, parseFieldDescriptor (q.2.1 k).2.2.1 = some ty ∧ narrow ty (.int v) = .int v ∧ fits ty (.int v) = true
theorem v_putI {r ci k idx : Nat} {v : Int32} {ty0 : Nat → FieldType} (G : vG x own cc nL ret dd) (hC : vClsOk ci) (hT : vTyOk ci ty0) (lk : vLk own idx ci k) (fs : vFs r ci k none) (hf : vFit ci k v) (dg : decode cc pc = .ok (.putfield idx, 3)) (k0 : V x (pc + 3) L st (vset σ r k v)) : V x pc L (.int v :: .ref r :: st) σ := by
  intro H locs ls hP hS hl
  obtain ⟨⟨C, T, N⟩, hq, hk, hw⟩ := lk
  obtain ⟨hr, hci, n, rf, hlay, hkn, ho⟩ := fs
  obtain ⟨hfin, ty, hty, hn, hfit⟩ := hf _ hq
  have he := vws_get (xE x) σ hr
  rw [vcell_obj (xE x) σ hlay hci] at he
  have hw2 := vws_set (xE x) σ (vset σ r k v) hr (vset_cell_obj (xE x) σ v hlay hci ho).symm (fun j _ hj => by rw [vset_row]; exact vrow_cell_ne (xE x) σ _ hj)
  refine va_put (C := C) (T := T) (N := N) (v := .int v) G.1 G.2.1 G.2.2.2.2.2.1 (hC _ hq).1 ty0 (hT _ hq) (hC _ hq).2 G.2.2.2.2.1 G.2.2.2.2.2.2.1.1 hP (vws_D G.2.2.2.2.2.2.2.2.1 σ) hS r he hq k hk (G.2.2.2.2.2.1 _ hw) (fun _ h => h) hfin hty hn hfit (by simpa using hkn) dg (fun H1 locs1 hP1 _ hS1 => ?_)
  rw [hw2] at hP1
  exact k0 H1 locs1 ls hP1 hS1 hl
theorem v_iald {r n : Nat} {i : Int32} (G : vG x own cc nL ret dd) (as : vAs r 0 n) (hin : vp_in i n) (dg : decode cc pc = .ok (.iaload, 1)) (k0 : V x (pc + 1) L (.int (σ r i.toNatClampNeg) :: st) σ) : V x pc L (.int i :: .ref r :: st) σ := by
  intro H locs ls hP hS hl
  obtain ⟨hr, hty, rf, hlay⟩ := as
  have he := vws_get (xE x) σ hr
  rw [vcell_arr (xE x) σ hlay hty] at he
  exact va_iald G.1 G.2.1 G.2.2.2.2.2.2.1.1 hP r 0 he rfl hin dg (k0 H locs ls hP hS hl)
theorem v_bald {r n : Nat} {i : Int32} (G : vG x own cc nL ret dd) (as : vAs r 1 n) (hin : vp_in i n) (dg : decode cc pc = .ok (.baload, 1)) (k0 : V x (pc + 1) L (.int (σ r i.toNatClampNeg) :: st) σ) : V x pc L (.int i :: .ref r :: st) σ := by
  intro H locs ls hP hS hl
  obtain ⟨hr, hty, rf, hlay⟩ := as
  have he := vws_get (xE x) σ hr
  rw [vcell_arr (xE x) σ hlay hty] at he
  exact va_bald G.1 G.2.1 G.2.2.2.2.2.2.1.1 hP r 1 he rfl hin dg (k0 H locs ls hP hS hl)
theorem v_zald {r n : Nat} {i : Int32} (G : vG x own cc nL ret dd) (as : vAs r 2 n) (hin : vp_in i n) (dg : decode cc pc = .ok (.baload, 1)) (k0 : V x (pc + 1) L (.int (σ r i.toNatClampNeg) :: st) σ) : V x pc L (.int i :: .ref r :: st) σ := by
  intro H locs ls hP hS hl
  obtain ⟨hr, hty, rf, hlay⟩ := as
  have he := vws_get (xE x) σ hr
  rw [vcell_arr (xE x) σ hlay hty] at he
  exact va_zald G.1 G.2.1 G.2.2.2.2.2.2.1.1 hP r 2 he rfl hin dg (k0 H locs ls hP hS hl)
theorem v_iast {r n : Nat} {i v : Int32} (G : vG x own cc nL ret dd) (as : vAs r 0 n) (hin : vp_in i n) (dg : decode cc pc = .ok (.iastore, 1)) (k0 : V x (pc + 1) L st (vset σ r i.toNatClampNeg v)) : V x pc L (.int v :: .int i :: .ref r :: st) σ := by
  intro H locs ls hP hS hl
  obtain ⟨hr, hty, rf, hlay⟩ := as
  have he := vws_get (xE x) σ hr
  rw [vcell_arr (xE x) σ hlay hty] at he
  refine va_iast G.1 G.2.1 G.2.2.2.2.2.2.1.1 hP (vws_D G.2.2.2.2.2.2.2.2.1 σ) hS r 0 he rfl hin dg (fun H1 locs1 hP1 _ hS1 => ?_)
  rw [vws_set (xE x) σ (vset σ r i.toNatClampNeg v) hr (by rw [vset_row, vrow_cell_arr (xE x) σ _ hlay hty]) (fun j _ hj => by rw [vset_row]; exact vrow_cell_ne (xE x) σ _ hj)] at hP1
  exact k0 H1 locs1 ls hP1 hS1 hl
theorem v_bast {r n : Nat} {i v : Int32} (G : vG x own cc nL ret dd) (as : vAs r 1 n) (hin : vp_in i n) (dg : decode cc pc = .ok (.bastore, 1)) (k0 : V x (pc + 1) L st (vset σ r i.toNatClampNeg (vp_nar .byte v))) : V x pc L (.int v :: .int i :: .ref r :: st) σ := by
  intro H locs ls hP hS hl
  obtain ⟨hr, hty, rf, hlay⟩ := as
  have he := vws_get (xE x) σ hr
  rw [vcell_arr (xE x) σ hlay hty] at he
  refine va_bast G.1 G.2.1 G.2.2.2.2.2.2.1.1 hP (vws_D G.2.2.2.2.2.2.2.2.1 σ) hS r 1 he rfl hin dg (fun H1 locs1 hP1 _ hS1 => ?_)
  rw [vws_set (xE x) σ (vset σ r i.toNatClampNeg (vp_nar .byte v)) hr (by rw [vset_row, vrow_cell_arr (xE x) σ _ hlay hty]) (fun j _ hj => by rw [vset_row]; exact vrow_cell_ne (xE x) σ _ hj)] at hP1
  exact k0 H1 locs1 ls hP1 hS1 hl
theorem v_zast {r n : Nat} {i v : Int32} (G : vG x own cc nL ret dd) (as : vAs r 2 n) (hin : vp_in i n) (dg : decode cc pc = .ok (.bastore, 1)) (k0 : V x (pc + 1) L st (vset σ r i.toNatClampNeg (vp_nar .boolean v))) : V x pc L (.int v :: .int i :: .ref r :: st) σ := by
  intro H locs ls hP hS hl
  obtain ⟨hr, hty, rf, hlay⟩ := as
  have he := vws_get (xE x) σ hr
  rw [vcell_arr (xE x) σ hlay hty] at he
  refine va_zast G.1 G.2.1 G.2.2.2.2.2.2.1.1 hP (vws_D G.2.2.2.2.2.2.2.2.1 σ) hS r 2 he rfl hin dg (fun H1 locs1 hP1 _ hS1 => ?_)
  rw [vws_set (xE x) σ (vset σ r i.toNatClampNeg (vp_nar .boolean v)) hr (by rw [vset_row, vrow_cell_arr (xE x) σ _ hlay hty]) (fun j _ hj => by rw [vset_row]; exact vrow_cell_ne (xE x) σ _ hj)] at hP1
  exact k0 H1 locs1 ls hP1 hS1 hl
theorem v_alen {r ty n : Nat} {v : Int32} (G : vG x own cc nL ret dd) (as : vAs r ty n) (hv : Int32.ofNat n = v) (dg : decode cc pc = .ok (.arraylength, 1)) (k0 : V x (pc + 1) L (.int v :: st) σ) : V x pc L (.ref r :: st) σ := by
  intro H locs ls hP hS hl
  obtain ⟨hr, hty, rf, hlay⟩ := as
  have he := vws_get (xE x) σ hr
  rw [vcell_arr (xE x) σ hlay hty] at he
  exact va_alen G.1 G.2.1 G.2.2.2.2.2.2.1.1 hP r ty he (vty_at (xE x) hty) hv dg (k0 H locs ls hP hS hl)
theorem v_aald {r ty n p : Nat} {rf : Nat → Option Nat} {i : Int32} (G : vG x own cc nL ret dd) (qs : vQs r ty n rf) (hin : vp_in i n) (hp : rf i.toNatClampNeg = some p) (dg : decode cc pc = .ok (.aaload, 1)) (k0 : V x (pc + 1) L (.ref p :: st) σ) : V x pc L (.int i :: .ref r :: st) σ := by
  intro H locs ls hP hS hl
  obtain ⟨hr, hty, hlay⟩ := qs
  have he := vws_get (xE x) σ hr
  rw [vcell_refs (xE x) σ hlay (by omega)] at he
  have e : va_rf ((rf i.toNatClampNeg).map (xE x).1) = vm (xE x).1 (.ref p) := by rw [hp]; rfl
  have k1 := k0 H locs ls hP hS hl
  rw [List.map_cons, ← e] at k1
  rcases hty with rfl | rfl
  · exact va_aldq (C := "DoorTown$Town") G.1 G.2.1 G.2.2.2.2.2.2.1.1 hP r 3 he rfl hin dg k1
  · exact va_aldq (C := "DoorTown$Sheet") G.1 G.2.1 G.2.2.2.2.2.2.1.1 hP r 4 he rfl hin dg k1
/-- System.arraycopy of one row of ints into another -/
theorem v_copy {r1 r2 n1 n2 idx : Nat} {sp dp n : Int32} (G : vG x own cc nL ret dd) (hd : 1 ≤ dd) (hw : Cond.methodLink own idx arraycopyName ∈ BIG) (hw2 : Cond.native arraycopyName ∈ BIG) (hw3 : Cond.static arraycopyName ∈ BIG) (hw4 : Cond.initialized "java/lang/System" ∈ BIG) (as1 : vAs r1 0 n1) (as2 : vAs r2 0 n2) (h1 : ¬ sp < 0) (h2 : ¬ dp < 0) (h3 : ¬ n < 0) (h4 : sp.toNatClampNeg + n.toNatClampNeg ≤ n1) (h5 : dp.toNatClampNeg + n.toNatClampNeg ≤ n2) (hst : st = []) (dg : decode cc pc = .ok (.invokestatic idx, 3)) (k0 : V x (pc + 3) L st (vrow σ r2 (va_cpy (σ r1) (σ r2) sp.toNatClampNeg dp.toNatClampNeg n.toNatClampNeg))) : V x pc L (.int n :: .int dp :: .ref r2 :: .int sp :: .ref r1 :: st) σ := by
  subst hst
  intro H locs ls hP hS hl
  obtain ⟨hr1, hty, rf1, hlay1⟩ := as1
  obtain ⟨hr2, -, rf2, hlay2⟩ := as2
  have he1 := vws_get (xE x) σ hr1
  rw [vcell_arr (xE x) σ hlay1 hty] at he1
  have he2 := vws_get (xE x) σ hr2
  rw [vcell_arr (xE x) σ hlay2 hty] at he2
  have hroom := G.2.2.2.2.2.2.2.2.2
  refine va_copyi G.1 G.2.1 (by rw [hl.1]) G.2.2.2.2.1 (G.2.2.2.2.2.1 _ hw) (G.2.2.2.2.2.1 _ hw2) (G.2.2.2.2.2.1 _ hw3) (G.2.2.2.2.2.1 _ hw4) G.2.2.2.2.2.2.1.1 hP (vws_D G.2.2.2.2.2.2.2.2.1 σ) hS r1 r2 0 0 he1 he2 rfl rfl rfl h1 h2 h3 h4 h5 (fun _ _ => rfl) (by omega) ?_ dg (fun H1 locs1 hP1 _ hS1 => ?_)
  · have e1 : (([] : List Value).map (vm (xE x).1)).map (fun v => v.category) = [] := rfl
    have e2 : nativeFrameWords "java/lang/System" "arraycopy" 5 + 11 ≤ 40 := by decide +kernel
    rw [e1]
    show 0 + _ ≤ _
    omega
  · rw [vws_set (xE x) σ (vrow σ r2 (va_cpy (σ r1) (σ r2) sp.toNatClampNeg dp.toNatClampNeg n.toNatClampNeg)) hr2 (by rw [vrow_cell_arr (xE x) σ _ hlay2 hty]) (fun j _ hj => vrow_cell_ne (xE x) σ _ hj)] at hP1
    exact k0 H1 locs1 ls hP1 hS1 hl
end VH
/-! ===== contracts ===== -/
def rmd (d : Nat) : Room := { frames := d, cells := 0, slots := 0, locals := 40 * d }
/-- what a method's end says -/
def vQc (E : vE) (Post : Option Value → vW → Prop) : Array Value → State → Outcome → State → Prop := fun _ s0 o t => (∃ r σ', o = .returned (r.map (vm E.1)) ∧ Post r σ' ∧ va_P E.2.1 vwCl (vws E σ') t.heap) ∧ va_F (vA E) s0 t
def Ctr (mi : vMI) (d : Nat) (av : List Value) (σ : vW) (Post : Option Value → vW → Prop) : Prop :=
  ∀ (l : Launch) (E : vE), vInj E → Met l mi.1 (.code mi.1 mi.2.1 mi.2.2.1 mi.2.2.2 :: BIG) (rmd d) (va_Pc (av.map (vm E.1)) (fun U => va_P E.2.1 vwCl (vws E σ) U.heap ∧ vInv E (vA E) U U.heap)) (vQc E Post) 0 0 (vA E)
/-- the end of the walk is a method's end -/
def vEnd (x : vX) (Post : Option Value → vW → Prop) : Prop := xQ x = MQ (xb x) (vQc (xE x) Post) (xa x) (xs x) 0 0 (vA (xE x))
def vent : List Value → List (Option Value)
  | [] => []
  | v :: r => if v.category = 2 then some v :: none :: vent r else some v :: vent r
theorem vent_args (α : Nat → Nat) : ∀ (vs : List Value) (b : Nat), vlo α b (vent vs) = lv_args b (vs.map (vm α))
  | [], b => rfl
  | v :: r, b => by
    by_cases hc : v.category = 2
    · have h := vent_args α r (b + 2)
      simp only [vent, hc, if_true, vlo, List.map_cons, lv_args, vm_cat]
      rw [← h]
    · have h := vent_args α r (b + 1)
      simp only [vent, hc, if_false, vlo, List.map_cons, lv_args, vm_cat]
      rw [← h]
theorem vlo_pad (α : Nat → Nat) (n : Nat) : ∀ (L : List (Option Value)) (b : Nat), vlo α b (L ++ List.replicate n none) = vlo α b L
  | [], b => by
    induction n generalizing b with
    | zero => rfl
    | succ n ih =>
      have h := ih (b + 1)
      simpa [List.replicate_succ, vlo] using h
  | none :: r, b => vlo_pad α n r (b + 1)
  | some v :: r, b => congrArg ((b, vm α v) :: ·) (vlo_pad α n r (b + 1))
theorem Ctr.intro {mi : vMI} {d : Nat} {av : List Value} {σ : vW} {Post : Option Value → vW → Prop} (hy : plainName mi.1.cls = true) (hn : ∀ α : Nat → Nat, (lg_sl (av.map (vm α))).length ≤ mi.2.2.1) (h : ∀ x : vX, vG x mi.1.cls mi.2.1 mi.2.2.1 mi.2.2.2 d → vEnd x Post → V x 0 (vent av ++ List.replicate (mi.2.2.1 - (vent av).length) none) [] σ) : Ctr mi d av σ Post := by
  intro l E hE
  refine Met.ofW (cc := mi.2.1) (maxL := mi.2.2.1) (ret := mi.2.2.2) hy rfl ?_
  intro p e s m args below meth c s₁ B hml hv
  obtain ⟨rfl, hP, hI⟩ := hv
  have hx := B.exec
  have hb := B.bytes
  have hr := B.returns
  have hts := atoms_spec (ws := .code mi.1 mi.2.1 mi.2.2.1 mi.2.2.2 :: BIG) B.pre
  have hown : s.vm.findClass mi.1.cls = some m.cls := findClass_of_methodNamed B.named
  have hlocks := B.notSynchronized
  have k := h (p, l, e, (headSpec (.code mi.1 mi.2.1 mi.2.2.1 mi.2.2.2 :: BIG) (rmd d)).room, s, m, (av.map (vm E.1)).toArray, below, meth, c, E, MQ below (vQc E Post) (av.map (vm E.1)).toArray s 0 0 (vA E))
    ⟨hx, hb, hml, hr, hown, fun w hw => hts w (List.mem_cons_of_mem _ hw), hI, hlocks, hE, ⟨Nat.le_refl _, Nat.le_refl _⟩⟩ rfl
  have hl := lv_entry (av.map (vm E.1)) (n := mi.2.2.1) (hn E.1)
  rw [lg_entry_eq]
  refine k s.heap [] _ hP va_S.rf ?_
  rw [hml, vlo_pad, vent_args]
  exact hl
end
section
/-! Calls of the plain machine, ends of methods. -/
theorem v_bigGood {mi : vMI} (h : Cond.code mi.1 mi.2.1 mi.2.2.1 mi.2.2.2 ∈ BIG) : GoodIn BIG (.code mi.1 mi.2.1 mi.2.2.1 mi.2.2.2 :: BIG) := by
  intro w hw
  have hb : w ∈ BIG := by
    rcases List.mem_cons.mp hw with rfl | h2
    · exact h
    · exact h2
  exact ⟨hb, good_of_word (BIG_good hb)⟩
/-- what the tables say of a method that is called, with n arguments -/
def vMd (mi : vMI) (n : Nat) : Prop := Cond.code mi.1 mi.2.1 mi.2.2.1 mi.2.2.2 ∈ BIG ∧ Cond.initialized mi.1.cls ∈ BIG ∧ (mi.1.cls ≠ "java/lang/invoke/MethodHandle" ∧ mi.1.cls ≠ "java/lang/invoke/VarHandle" ∧ (parseMethodDescriptor mi.1.desc).map (fun d => d.parameters.length) = some n) ∧ mi.2.2.1 ≤ 21
def vIn (mi : vMI) : Prop := Cond.instanceMethod mi.1 ∈ BIG ∧ Cond.selects mi.1.cls mi.1 mi.1 ∈ BIG
/-- place b is an object of the method's class -/
def vRv (b : Nat) (mi : vMI) : Prop := b < 88 ∧ ∃ ci n rf q, lay b = (ci, n, rf) ∧ ci < 7 ∧ vwCl[ci]? = some q ∧ q.1 = mi.1.cls
section VC
variable {x : vX} {own : String} {cc : ByteArray} {nL dd : Nat} {ret : Option FieldType} {pc : Nat} {L : List (Option Value)} {st : List Value} {σ : vW}
theorem v_catsum (α : Nat → Nat) (st : List Value) : ((st.map (vm α)).map fun v => v.category) = st.map fun v => v.category := by
  rw [List.map_map]
  exact List.map_congr_left (fun v _ => vm_cat α v)
theorem v_inv {H : Heap} {locs : List Loc} (G : vG x own cc nL ret dd) (hS : va_S (vA (xE x)) (xs x).heap H locs) : vInv (xE x) (vA (xE x)) (xs x) H := G.2.2.2.2.2.2.1.kept (fun a h1 h2 => hS.2.1 a h1 h2)
theorem v_blind {E : vE} {av : List Value} : FrameBlind (va_Pc (av.map (vm E.1)) (fun U => va_P E.2.1 vwCl (vws E σ) U.heap ∧ vInv E (vA E) U U.heap)) := by
  intro a U g mk h
  obtain ⟨h1, h2, h3⟩ := h
  exact ⟨h1, h2, vInv.same (s := U) rfl h3⟩
theorem v_pre {H : Heap} {locs : List Loc} {av : List Value} (G : vG x own cc nL ret dd) (hP : va_P (xE x).2.1 vwCl (vws (xE x) σ) H) (hS : va_S (vA (xE x)) (xs x).heap H locs) : ∀ U : State, U.heap = H → (xs x).WarmedH U.vm → va_Pc (av.map (vm (xE x).1)) (fun U => va_P (xE x).2.1 vwCl (vws (xE x) σ) U.heap ∧ vInv (xE x) (vA (xE x)) U U.heap) (av.map (vm (xE x).1)).toArray U := by
  intro U hU hW
  refine ⟨rfl, by rw [hU]; exact hP, ?_⟩
  rw [hU]
  exact (v_inv G hS).warm hW
theorem v_after {H : Heap} {locs : List Loc} {ls : Array Slot} {st0 rest : List Value} {a : Array Value} {Post : Option Value → vW → Prop} (hr : va_Run (xp x) (xl x) (xe x) (xR x) (xs x) (xm x) (xa x) (xb x) (xM x) (xc x) H locs 0 0 0 0 (F0 (xm x) pc ls st0) (rest.map (vm (xE x).1)) (vQc (xE x) Post a) (vA (xE x))) (hS : va_S (vA (xE x)) (xs x).heap H locs) (hl : lv_has ls (xc x).maxLocals (vlo (xE x).1 0 L))
    (kk : ∀ (r : Option Value) (σ' : vW), Post r σ' → V x (pc + 3) L (r.toList ++ rest) σ') : W (xp x) (xl x) (xe x) (xR x) (xs x) (xm x) (xa x) (xb x) (xM x) (xc x) H locs 0 0 (xQ x) (F0 (xm x) pc ls st0) := by
  intro T hT X
  obtain ⟨v, st₀, t, T', L2, h0, X', hL, e1, e2, ⟨⟨r, σ', hv, hp, hb⟩, hz, hk⟩, st⟩ := hr T hT X
  cases hv
  rw [h0] at hz hk
  have hk2 := kk r σ' hp T'.heap (locs ++ L2) ls (by rw [e1]; exact hb) ⟨Nat.le_trans hS.1 (by rw [e1]; exact hz), fun q h1 h2 => by rw [e1, hk q (Nat.lt_of_lt_of_le h1 hS.1) h2]; exact hS.2.1 q h1 h2, fun q hq => by
      rcases List.mem_append.mp hq with h | h
      · exact hS.2.2 q h
      · exact hL q h⟩ hl
  have e3 : (r.toList ++ rest).map (vm (xE x).1) = (r.map (vm (xE x).1)).toList ++ rest.map (vm (xE x).1) := by cases r <;> simp
  rw [e3] at hk2
  obtain ⟨t2, a1, b1⟩ := hk2 T' rfl X'
  exact ⟨t2, st t2 a1, b1⟩
theorem v_callS {mi : vMI} {d n idx : Nat} {av : List Value} {Post : Option Value → vW → Prop} (G : vG x own cc nL ret dd) (C : Ctr mi d av σ Post) (hd : d < dd) (md : vMd mi n) (hs : Cond.static mi.1 ∈ BIG) (lk : Cond.methodLink own idx mi.1 ∈ BIG) (hn : av.length = n) (hw : (st.map fun v => v.category).sum ≤ 8) (dg : decode cc pc = .ok (.invokestatic idx, 3)) (k0 : ∀ (r : Option Value) (σ' : vW), Post r σ' → V x (pc + 3) L (r.toList ++ st) σ') : V x pc L (av.reverse ++ st) σ := by
  intro H locs ls hP hS hl
  have hroom := G.2.2.2.2.2.2.2.2.2
  have hg := G.2.2.2.2.2.1
  refine v_after (rest := st) (va_runS (As := av.map (vm (xE x).1)) ⟨G.1, G.2.1, G.2.2.1, G.2.2.2.2.1, hg⟩ (C (xl x) (xE x) G.2.2.2.2.2.2.2.2.1) ⟨callB_of n hg (v_bigGood md.1) rfl rfl rfl (hg _ md.2.1) (hg _ lk) md.2.2.1 ⟨?_, ?_⟩, hg _ hs⟩ ⟨v_blind, v_pre G hP hS⟩ rfl (by rw [List.length_map]; exact hn) (by show ls.size = nL; rw [hl.1]; exact G.2.2.1) ?_ (lv_room ?_) dg ⟨Nat.zero_le _, Nat.zero_le _⟩) hS hl k0
  · show d + 1 ≤ _
    omega
  · have := md.2.2.2
    show 8 + (mi.2.2.1 + 11) + 40 * d ≤ _
    omega
  · show (av.reverse ++ st).map _ = _
    simp
  · rw [v_catsum]
    exact hw
theorem v_callN {mi : vMI} {d n idx : Nat} {av : List Value} {Post : Option Value → vW → Prop} (G : vG x own cc nL ret dd) (C : Ctr mi d av σ Post) (hd : d < dd) (md : vMd mi n) (hs : Cond.static mi.1 ∈ BIG) (lk : (own, idx, mi.1) ∈ vNest) (hn : av.length = n) (hw : (st.map fun v => v.category).sum ≤ 8) (dg : decode cc pc = .ok (.invokestatic idx, 3)) (k0 : ∀ (r : Option Value) (σ' : vW), Post r σ' → V x (pc + 3) L (r.toList ++ st) σ') : V x pc L (av.reverse ++ st) σ := by
  intro H locs ls hP hS hl
  have hroom := G.2.2.2.2.2.2.2.2.2
  have hg := G.2.2.2.2.2.1
  refine v_after (rest := st) (va_runSN (As := av.map (vm (xE x).1)) ⟨G.1, G.2.1, G.2.2.1, G.2.2.2.2.1, hg⟩ (C (xl x) (xE x) G.2.2.2.2.2.2.2.2.1) ⟨va_cnB n hg (v_bigGood md.1) rfl rfl rfl (G.2.2.2.2.2.2.1.2.1 _ lk) (hg _ md.2.1) md.2.2.1 ⟨?_, ?_⟩, hg _ hs, trivial⟩ ⟨v_blind, v_pre G hP hS⟩ rfl (by rw [List.length_map]; exact hn) (by show ls.size = nL; rw [hl.1]; exact G.2.2.1) ?_ (lv_room ?_) dg ⟨Nat.zero_le _, Nat.zero_le _⟩) hS hl k0
  · show d + 1 ≤ _
    omega
  · have := md.2.2.2
    show 8 + (mi.2.2.1 + 11) + 40 * d ≤ _
    omega
  · show (av.reverse ++ st).map _ = _
    simp
  · rw [v_catsum]
    exact hw
theorem v_callV {mi : vMI} {b d n idx : Nat} {av : List Value} {Post : Option Value → vW → Prop} (G : vG x own cc nL ret dd) (C : Ctr mi d (.ref b :: av) σ Post) (hd : d < dd) (md : vMd mi n) (hi : vIn mi) (rv : vRv b mi) (lk : Cond.methodLink own idx mi.1 ∈ BIG) (hn : av.length = n) (hw : (st.map fun v => v.category).sum ≤ 8) (dg : decode cc pc = .ok (.invokevirtual idx, 3)) (k0 : ∀ (r : Option Value) (σ' : vW), Post r σ' → V x (pc + 3) L (r.toList ++ st) σ') : V x pc L (av.reverse ++ .ref b :: st) σ := by
  intro H locs ls hP hS hl
  have hroom := G.2.2.2.2.2.2.2.2.2
  have hg := G.2.2.2.2.2.1
  obtain ⟨hb, ci, nn, rf, q, hlay, hci, hq, hqc⟩ := rv
  have he := vws_get (xE x) σ hb
  rw [vcell_obj (xE x) σ hlay hci] at he
  obtain ⟨cell, g1, g2, g3⟩ := va_recv G.2.2.2.2.2.2.1.1 hP hq he
  rw [hqc] at g3
  refine v_after (rest := st) (va_runV (As := av.map (vm (xE x).1)) (b := (xE x).1 b) ⟨G.1, G.2.1, G.2.2.1, G.2.2.2.2.1, hg⟩ (C (xl x) (xE x) G.2.2.2.2.2.2.2.2.1) ⟨callB_of n hg (v_bigGood md.1) rfl rfl rfl (hg _ md.2.1) (hg _ lk) md.2.2.1 ⟨?_, ?_⟩, hg _ hi.1, hg _ hi.2⟩ ⟨v_blind, ⟨cell, g1, g2, g3⟩, v_pre (av := .ref b :: av) G hP hS⟩ rfl (by rw [List.length_map]; exact hn) (by show ls.size = nL; rw [hl.1]; exact G.2.2.1) ?_ (lv_room ?_) dg ⟨Nat.zero_le _, Nat.zero_le _⟩) hS hl k0
  · show d + 1 ≤ _
    omega
  · have := md.2.2.2
    show 8 + (mi.2.2.1 + 11) + 40 * d ≤ _
    omega
  · show (av.reverse ++ .ref b :: st).map _ = _
    simp [vm]
  · rw [v_catsum]
    exact hw
/-- the ends -/
theorem v_fin {H : Heap} {locs : List Loc} {Post : Option Value → vW → Prop} {r : Option Value} (hP : va_P (xE x).2.1 vwCl (vws (xE x) σ) H) (hS : va_S (vA (xE x)) (xs x).heap H locs) (h : Post r σ) : ∀ t : State, t.heap = H → (xs x).WarmedH t.vm → vQc (xE x) Post (xa x) (xs x) (.returned (r.map (vm (xE x).1))) t := by
  intro t ht _
  exact ⟨⟨r, σ, rfl, h, by rw [ht]; exact hP⟩, hS.F ht⟩
theorem v_iret {Post : Option Value → vW → Prop} {v : Int32} (G : vG x own cc nL (some .int) dd) (hQ : vEnd x Post) (dg : decode cc pc = .ok (.ireturn, 1)) (h : Post (some (.int v)) σ) : V x pc L [.int v] σ := by
  intro H locs ls hP hS hl
  rw [hQ]
  exact W.iret G.1 G.2.1 G.2.2.2.1 (v_fin (r := some (.int v)) hP hS h) hS.2.2 dg G.2.2.2.2.2.2.2.1
theorem v_zret {Post : Option Value → vW → Prop} {v : Int32} (G : vG x own cc nL (some .boolean) dd) (hQ : vEnd x Post) (dg : decode cc pc = .ok (.ireturn, 1)) (hv : v = 0 ∨ v = 1) (h : Post (some (.int v)) σ) : V x pc L [.int v] σ := by
  intro H locs ls hP hS hl
  rw [hQ]
  exact W.zret G.1 G.2.1 G.2.2.2.1 (by rcases hv with rfl | rfl <;> rfl) (v_fin (r := some (.int v)) hP hS h) hS.2.2 dg G.2.2.2.2.2.2.2.1
theorem v_lret {Post : Option Value → vW → Prop} {v : Int64} (G : vG x own cc nL (some .long) dd) (hQ : vEnd x Post) (dg : decode cc pc = .ok (.lreturn, 1)) (h : Post (some (.long v)) σ) : V x pc L [.long v] σ := by
  intro H locs ls hP hS hl
  rw [hQ]
  exact W.lret G.1 G.2.1 G.2.2.2.1 (v_fin (r := some (.long v)) hP hS h) hS.2.2 dg G.2.2.2.2.2.2.2.1
theorem v_vret {Post : Option Value → vW → Prop} (G : vG x own cc nL none dd) (hQ : vEnd x Post) (dg : decode cc pc = .ok (.return_, 1)) (h : Post none σ) : V x pc L [] σ := by
  intro H locs ls hP hS hl
  rw [hQ]
  exact W.vret G.1 G.2.1 G.2.2.2.1 (v_fin (r := none) hP hS h) hS.2.2 dg G.2.2.2.2.2.2.2.1
end VC
end
section
theorem zz_t1 : 1 + 1 = 2 := rfl
#print Jvm.ClassFile.Instr
end
