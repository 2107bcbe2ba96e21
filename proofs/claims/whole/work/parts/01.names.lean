-- ===== PART A: goes FIRST, ahead of the names: the tables' words, and 'selects' of the private methods out of them =====
/-- a private method of a class that the tables say can be made, by its rows of tables_1 -/
def lw_okq (q : MethodName × Nat) : Prop := (q.1.cls ≠ "java/lang/invoke/MethodHandle" ∧ q.1.cls ≠ "java/lang/invoke/VarHandle") ∧ Cond.instantiable q.1.cls q.2 ∈ tables_1 ∧ Cond.privateMethod q.1 ∈ tables_1 ∧ Cond.instanceMethod q.1 ∈ tables_1
theorem lw_p0 : lw_okq (⟨"java/util/ArrayList", "add", "(Ljava/lang/Object;[Ljava/lang/Object;I)V"⟩, 3) := ⟨⟨by decide +kernel, by decide +kernel⟩, List.mem_of_getElem? (i := 35) (by decide +kernel), List.mem_of_getElem? (i := 187) (by decide +kernel), List.mem_of_getElem? (i := 188) (by decide +kernel)⟩
theorem lw_p1 : lw_okq (⟨"java/util/ArrayList", "grow", "()[Ljava/lang/Object;"⟩, 3) := ⟨⟨by decide +kernel, by decide +kernel⟩, List.mem_of_getElem? (i := 35) (by decide +kernel), List.mem_of_getElem? (i := 191) (by decide +kernel), List.mem_of_getElem? (i := 192) (by decide +kernel)⟩
theorem lw_p2 : lw_okq (⟨"java/util/ArrayList", "grow", "(I)[Ljava/lang/Object;"⟩, 3) := ⟨⟨by decide +kernel, by decide +kernel⟩, List.mem_of_getElem? (i := 35) (by decide +kernel), List.mem_of_getElem? (i := 195) (by decide +kernel), List.mem_of_getElem? (i := 196) (by decide +kernel)⟩
theorem lw_p3 : lw_okq (⟨"RainStreets", "cornerAt", "(I)LRainStreets$Corner;"⟩, 18) := ⟨⟨by decide +kernel, by decide +kernel⟩, List.mem_of_getElem? (i := 27) (by decide +kernel), List.mem_of_getElem? (i := 399) (by decide +kernel), List.mem_of_getElem? (i := 400) (by decide +kernel)⟩
theorem lw_p4 : lw_okq (⟨"RainStreets", "parkingOfBeds", "()I"⟩, 18) := ⟨⟨by decide +kernel, by decide +kernel⟩, List.mem_of_getElem? (i := 27) (by decide +kernel), List.mem_of_getElem? (i := 467) (by decide +kernel), List.mem_of_getElem? (i := 468) (by decide +kernel)⟩
theorem lw_p5 : lw_okq (⟨"RainStreets", "parkingWith", "(I)I"⟩, 18) := ⟨⟨by decide +kernel, by decide +kernel⟩, List.mem_of_getElem? (i := 27) (by decide +kernel), List.mem_of_getElem? (i := 471) (by decide +kernel), List.mem_of_getElem? (i := 472) (by decide +kernel)⟩
theorem lw_p6 : lw_okq (⟨"RainStreets", "lawOn", "(I)LRainStreets$Law;"⟩, 18) := ⟨⟨by decide +kernel, by decide +kernel⟩, List.mem_of_getElem? (i := 27) (by decide +kernel), List.mem_of_getElem? (i := 478) (by decide +kernel), List.mem_of_getElem? (i := 479) (by decide +kernel)⟩
theorem lw_p7 : lw_okq (⟨"RainStreets", "bedAt", "(I)LRainStreets$Bed;"⟩, 18) := ⟨⟨by decide +kernel, by decide +kernel⟩, List.mem_of_getElem? (i := 27) (by decide +kernel), List.mem_of_getElem? (i := 548) (by decide +kernel), List.mem_of_getElem? (i := 549) (by decide +kernel)⟩
theorem lw_p8 : lw_okq (⟨"RainStreets$Bed", "clogCaredFor", "()I"⟩, 12) := ⟨⟨by decide +kernel, by decide +kernel⟩, List.mem_of_getElem? (i := 486) (by decide +kernel), List.mem_of_getElem? (i := 561) (by decide +kernel), List.mem_of_getElem? (i := 562) (by decide +kernel)⟩
theorem lw_p9 : lw_okq (⟨"RainStreets", "roofAt", "(I)LRainStreets$Roof;"⟩, 18) := ⟨⟨by decide +kernel, by decide +kernel⟩, List.mem_of_getElem? (i := 27) (by decide +kernel), List.mem_of_getElem? (i := 575) (by decide +kernel), List.mem_of_getElem? (i := 576) (by decide +kernel)⟩
theorem lw_p10 : lw_okq (⟨"RainStreets", "drinkByLook", "(LRainStreets$Bed;I)I"⟩, 18) := ⟨⟨by decide +kernel, by decide +kernel⟩, List.mem_of_getElem? (i := 27) (by decide +kernel), List.mem_of_getElem? (i := 599) (by decide +kernel), List.mem_of_getElem? (i := 600) (by decide +kernel)⟩
theorem lw_p11 : lw_okq (⟨"RainStreets", "goBy", "(LRainStreets$Law;)V"⟩, 18) := ⟨⟨by decide +kernel, by decide +kernel⟩, List.mem_of_getElem? (i := 27) (by decide +kernel), List.mem_of_getElem? (i := 612) (by decide +kernel), List.mem_of_getElem? (i := 613) (by decide +kernel)⟩
theorem lw_p12 : lw_okq (⟨"RainStreets", "tellComplaint", "(II)I"⟩, 18) := ⟨⟨by decide +kernel, by decide +kernel⟩, List.mem_of_getElem? (i := 27) (by decide +kernel), List.mem_of_getElem? (i := 640) (by decide +kernel), List.mem_of_getElem? (i := 641) (by decide +kernel)⟩
theorem lw_p13 : lw_okq (⟨"RainStreets", "settle", "(LRainStreets$Turn;I)V"⟩, 18) := ⟨⟨by decide +kernel, by decide +kernel⟩, List.mem_of_getElem? (i := 27) (by decide +kernel), List.mem_of_getElem? (i := 689) (by decide +kernel), List.mem_of_getElem? (i := 690) (by decide +kernel)⟩
theorem lw_p14 : lw_okq (⟨"RainStreets", "weighGains", "()V"⟩, 18) := ⟨⟨by decide +kernel, by decide +kernel⟩, List.mem_of_getElem? (i := 27) (by decide +kernel), List.mem_of_getElem? (i := 720) (by decide +kernel), List.mem_of_getElem? (i := 721) (by decide +kernel)⟩
theorem lw_p15 : lw_okq (⟨"RainStreets", "gainOf", "(I)I"⟩, 18) := ⟨⟨by decide +kernel, by decide +kernel⟩, List.mem_of_getElem? (i := 27) (by decide +kernel), List.mem_of_getElem? (i := 728) (by decide +kernel), List.mem_of_getElem? (i := 729) (by decide +kernel)⟩
def lw_privs_1 : List (MethodName × Nat) := [(⟨"java/util/ArrayList", "add", "(Ljava/lang/Object;[Ljava/lang/Object;I)V"⟩, 3), (⟨"java/util/ArrayList", "grow", "()[Ljava/lang/Object;"⟩, 3), (⟨"java/util/ArrayList", "grow", "(I)[Ljava/lang/Object;"⟩, 3), (⟨"RainStreets", "cornerAt", "(I)LRainStreets$Corner;"⟩, 18), (⟨"RainStreets", "parkingOfBeds", "()I"⟩, 18), (⟨"RainStreets", "parkingWith", "(I)I"⟩, 18), (⟨"RainStreets", "lawOn", "(I)LRainStreets$Law;"⟩, 18), (⟨"RainStreets", "bedAt", "(I)LRainStreets$Bed;"⟩, 18), (⟨"RainStreets$Bed", "clogCaredFor", "()I"⟩, 12), (⟨"RainStreets", "roofAt", "(I)LRainStreets$Roof;"⟩, 18), (⟨"RainStreets", "drinkByLook", "(LRainStreets$Bed;I)I"⟩, 18), (⟨"RainStreets", "goBy", "(LRainStreets$Law;)V"⟩, 18), (⟨"RainStreets", "tellComplaint", "(II)I"⟩, 18), (⟨"RainStreets", "settle", "(LRainStreets$Turn;I)V"⟩, 18), (⟨"RainStreets", "weighGains", "()V"⟩, 18), (⟨"RainStreets", "gainOf", "(I)I"⟩, 18)]
theorem lw_r1 : ∀ q ∈ lw_privs_1, lw_okq q := List.forall_mem_cons.mpr ⟨lw_p0, List.forall_mem_cons.mpr ⟨lw_p1, List.forall_mem_cons.mpr ⟨lw_p2, List.forall_mem_cons.mpr ⟨lw_p3, List.forall_mem_cons.mpr ⟨lw_p4, List.forall_mem_cons.mpr ⟨lw_p5, List.forall_mem_cons.mpr ⟨lw_p6, List.forall_mem_cons.mpr ⟨lw_p7, List.forall_mem_cons.mpr ⟨lw_p8, List.forall_mem_cons.mpr ⟨lw_p9, List.forall_mem_cons.mpr ⟨lw_p10, List.forall_mem_cons.mpr ⟨lw_p11, List.forall_mem_cons.mpr ⟨lw_p12, List.forall_mem_cons.mpr ⟨lw_p13, List.forall_mem_cons.mpr ⟨lw_p14, List.forall_mem_cons.mpr ⟨lw_p15, fun _ h => absurd h List.not_mem_nil⟩⟩⟩⟩⟩⟩⟩⟩⟩⟩⟩⟩⟩⟩⟩⟩
theorem lw_p16 : lw_okq (⟨"RainStreets", "hoursFor", "(I)I"⟩, 18) := ⟨⟨by decide +kernel, by decide +kernel⟩, List.mem_of_getElem? (i := 27) (by decide +kernel), List.mem_of_getElem? (i := 732) (by decide +kernel), List.mem_of_getElem? (i := 733) (by decide +kernel)⟩
theorem lw_p17 : lw_okq (⟨"RainStreets", "prepareFlow", "()V"⟩, 18) := ⟨⟨by decide +kernel, by decide +kernel⟩, List.mem_of_getElem? (i := 27) (by decide +kernel), List.mem_of_getElem? (i := 754) (by decide +kernel), List.mem_of_getElem? (i := 755) (by decide +kernel)⟩
theorem lw_p18 : lw_okq (⟨"RainStreets$Flow", "letInFrom", "(LRainStreets$Roof;[I)I"⟩, 9) := ⟨⟨by decide +kernel, by decide +kernel⟩, List.mem_of_getElem? (i := 115) (by decide +kernel), List.mem_of_getElem? (i := 777) (by decide +kernel), List.mem_of_getElem? (i := 778) (by decide +kernel)⟩
theorem lw_p19 : lw_okq (⟨"RainStreets$Node", "soak", "(II)I"⟩, 15) := ⟨⟨by decide +kernel, by decide +kernel⟩, List.mem_of_getElem? (i := 123) (by decide +kernel), List.mem_of_getElem? (i := 794) (by decide +kernel), List.mem_of_getElem? (i := 795) (by decide +kernel)⟩
theorem lw_p20 : lw_okq (⟨"RainStreets", "whatRains", "()I"⟩, 18) := ⟨⟨by decide +kernel, by decide +kernel⟩, List.mem_of_getElem? (i := 27) (by decide +kernel), List.mem_of_getElem? (i := 812) (by decide +kernel), List.mem_of_getElem? (i := 813) (by decide +kernel)⟩
theorem lw_p21 : lw_okq (⟨"RainStreets", "isFree", "(I)Z"⟩, 18) := ⟨⟨by decide +kernel, by decide +kernel⟩, List.mem_of_getElem? (i := 27) (by decide +kernel), List.mem_of_getElem? (i := 853) (by decide +kernel), List.mem_of_getElem? (i := 854) (by decide +kernel)⟩
theorem lw_p22 : lw_okq (⟨"RainStreets", "bestSet", "(III)I"⟩, 18) := ⟨⟨by decide +kernel, by decide +kernel⟩, List.mem_of_getElem? (i := 27) (by decide +kernel), List.mem_of_getElem? (i := 865) (by decide +kernel), List.mem_of_getElem? (i := 866) (by decide +kernel)⟩
theorem lw_p23 : lw_okq (⟨"RainStreets", "costOf", "(I)I"⟩, 18) := ⟨⟨by decide +kernel, by decide +kernel⟩, List.mem_of_getElem? (i := 27) (by decide +kernel), List.mem_of_getElem? (i := 869) (by decide +kernel), List.mem_of_getElem? (i := 870) (by decide +kernel)⟩
theorem lw_p24 : lw_okq (⟨"RainStreets", "likeAhead", "(LRainStreets$ToldStorm;IJ)LRainStreets$ToldStorm;"⟩, 18) := ⟨⟨by decide +kernel, by decide +kernel⟩, List.mem_of_getElem? (i := 27) (by decide +kernel), List.mem_of_getElem? (i := 895) (by decide +kernel), List.mem_of_getElem? (i := 896) (by decide +kernel)⟩
theorem lw_p25 : lw_okq (⟨"RainStreets", "worstLot", "()I"⟩, 18) := ⟨⟨by decide +kernel, by decide +kernel⟩, List.mem_of_getElem? (i := 27) (by decide +kernel), List.mem_of_getElem? (i := 911) (by decide +kernel), List.mem_of_getElem? (i := 912) (by decide +kernel)⟩
theorem lw_p26 : lw_okq (⟨"RainStreets", "looksOf", "(I)I"⟩, 18) := ⟨⟨by decide +kernel, by decide +kernel⟩, List.mem_of_getElem? (i := 27) (by decide +kernel), List.mem_of_getElem? (i := 915) (by decide +kernel), List.mem_of_getElem? (i := 916) (by decide +kernel)⟩
theorem lw_p27 : lw_okq (⟨"RainStreets", "gradesOf", "(I)I"⟩, 18) := ⟨⟨by decide +kernel, by decide +kernel⟩, List.mem_of_getElem? (i := 27) (by decide +kernel), List.mem_of_getElem? (i := 919) (by decide +kernel), List.mem_of_getElem? (i := 920) (by decide +kernel)⟩
theorem lw_p28 : lw_okq (⟨"RainStreets$Tape", "step", "()V"⟩, 6) := ⟨⟨by decide +kernel, by decide +kernel⟩, List.mem_of_getElem? (i := 89) (by decide +kernel), List.mem_of_getElem? (i := 951) (by decide +kernel), List.mem_of_getElem? (i := 952) (by decide +kernel)⟩
theorem lw_p29 : lw_okq (⟨"RainStreets$Tape", "byteAt", "(I)I"⟩, 6) := ⟨⟨by decide +kernel, by decide +kernel⟩, List.mem_of_getElem? (i := 89) (by decide +kernel), List.mem_of_getElem? (i := 955) (by decide +kernel), List.mem_of_getElem? (i := 956) (by decide +kernel)⟩
theorem lw_p30 : lw_okq (⟨"RainStreets$Tape", "readStatement", "(LRainStreets$Law;)V"⟩, 6) := ⟨⟨by decide +kernel, by decide +kernel⟩, List.mem_of_getElem? (i := 89) (by decide +kernel), List.mem_of_getElem? (i := 963) (by decide +kernel), List.mem_of_getElem? (i := 964) (by decide +kernel)⟩
theorem lw_p31 : lw_okq (⟨"RainStreets$Tape", "skips", "(Ljava/lang/String;)Z"⟩, 6) := ⟨⟨by decide +kernel, by decide +kernel⟩, List.mem_of_getElem? (i := 89) (by decide +kernel), List.mem_of_getElem? (i := 968) (by decide +kernel), List.mem_of_getElem? (i := 969) (by decide +kernel)⟩
def lw_privs_2 : List (MethodName × Nat) := [(⟨"RainStreets", "hoursFor", "(I)I"⟩, 18), (⟨"RainStreets", "prepareFlow", "()V"⟩, 18), (⟨"RainStreets$Flow", "letInFrom", "(LRainStreets$Roof;[I)I"⟩, 9), (⟨"RainStreets$Node", "soak", "(II)I"⟩, 15), (⟨"RainStreets", "whatRains", "()I"⟩, 18), (⟨"RainStreets", "isFree", "(I)Z"⟩, 18), (⟨"RainStreets", "bestSet", "(III)I"⟩, 18), (⟨"RainStreets", "costOf", "(I)I"⟩, 18), (⟨"RainStreets", "likeAhead", "(LRainStreets$ToldStorm;IJ)LRainStreets$ToldStorm;"⟩, 18), (⟨"RainStreets", "worstLot", "()I"⟩, 18), (⟨"RainStreets", "looksOf", "(I)I"⟩, 18), (⟨"RainStreets", "gradesOf", "(I)I"⟩, 18), (⟨"RainStreets$Tape", "step", "()V"⟩, 6), (⟨"RainStreets$Tape", "byteAt", "(I)I"⟩, 6), (⟨"RainStreets$Tape", "readStatement", "(LRainStreets$Law;)V"⟩, 6), (⟨"RainStreets$Tape", "skips", "(Ljava/lang/String;)Z"⟩, 6)]
theorem lw_r2 : ∀ q ∈ lw_privs_2, lw_okq q := List.forall_mem_cons.mpr ⟨lw_p16, List.forall_mem_cons.mpr ⟨lw_p17, List.forall_mem_cons.mpr ⟨lw_p18, List.forall_mem_cons.mpr ⟨lw_p19, List.forall_mem_cons.mpr ⟨lw_p20, List.forall_mem_cons.mpr ⟨lw_p21, List.forall_mem_cons.mpr ⟨lw_p22, List.forall_mem_cons.mpr ⟨lw_p23, List.forall_mem_cons.mpr ⟨lw_p24, List.forall_mem_cons.mpr ⟨lw_p25, List.forall_mem_cons.mpr ⟨lw_p26, List.forall_mem_cons.mpr ⟨lw_p27, List.forall_mem_cons.mpr ⟨lw_p28, List.forall_mem_cons.mpr ⟨lw_p29, List.forall_mem_cons.mpr ⟨lw_p30, List.forall_mem_cons.mpr ⟨lw_p31, fun _ h => absurd h List.not_mem_nil⟩⟩⟩⟩⟩⟩⟩⟩⟩⟩⟩⟩⟩⟩⟩⟩
theorem lw_p32 : lw_okq (⟨"RainStreets$Tape", "isToken", "(Ljava/lang/String;)Z"⟩, 6) := ⟨⟨by decide +kernel, by decide +kernel⟩, List.mem_of_getElem? (i := 89) (by decide +kernel), List.mem_of_getElem? (i := 972) (by decide +kernel), List.mem_of_getElem? (i := 973) (by decide +kernel)⟩
theorem lw_p33 : lw_okq (⟨"RainStreets$Tape", "readTurn", "(LRainStreets$Law;)V"⟩, 6) := ⟨⟨by decide +kernel, by decide +kernel⟩, List.mem_of_getElem? (i := 89) (by decide +kernel), List.mem_of_getElem? (i := 1022) (by decide +kernel), List.mem_of_getElem? (i := 1023) (by decide +kernel)⟩
theorem lw_p34 : lw_okq (⟨"RainStreets$Tape", "number", "(II)I"⟩, 6) := ⟨⟨by decide +kernel, by decide +kernel⟩, List.mem_of_getElem? (i := 89) (by decide +kernel), List.mem_of_getElem? (i := 1026) (by decide +kernel), List.mem_of_getElem? (i := 1027) (by decide +kernel)⟩
theorem lw_p35 : lw_okq (⟨"RainStreets$Tape", "valueOfToken", "()I"⟩, 6) := ⟨⟨by decide +kernel, by decide +kernel⟩, List.mem_of_getElem? (i := 89) (by decide +kernel), List.mem_of_getElem? (i := 1030) (by decide +kernel), List.mem_of_getElem? (i := 1031) (by decide +kernel)⟩
theorem lw_p36 : lw_okq (⟨"RainStreets$Tape", "need", "(Ljava/lang/String;)V"⟩, 6) := ⟨⟨by decide +kernel, by decide +kernel⟩, List.mem_of_getElem? (i := 89) (by decide +kernel), List.mem_of_getElem? (i := 1036) (by decide +kernel), List.mem_of_getElem? (i := 1037) (by decide +kernel)⟩
theorem lw_p37 : lw_okq (⟨"RainStreets$Tape", "readLook", "(LRainStreets$Law;)V"⟩, 6) := ⟨⟨by decide +kernel, by decide +kernel⟩, List.mem_of_getElem? (i := 89) (by decide +kernel), List.mem_of_getElem? (i := 1066) (by decide +kernel), List.mem_of_getElem? (i := 1067) (by decide +kernel)⟩
theorem lw_p38 : lw_okq (⟨"RainStreets$Tape", "readNumber", "(LRainStreets$Law;I)V"⟩, 6) := ⟨⟨by decide +kernel, by decide +kernel⟩, List.mem_of_getElem? (i := 89) (by decide +kernel), List.mem_of_getElem? (i := 1076) (by decide +kernel), List.mem_of_getElem? (i := 1077) (by decide +kernel)⟩
theorem lw_p39 : lw_okq (⟨"RainStreets", "inBowls", "()J"⟩, 18) := ⟨⟨by decide +kernel, by decide +kernel⟩, List.mem_of_getElem? (i := 27) (by decide +kernel), List.mem_of_getElem? (i := 1104) (by decide +kernel), List.mem_of_getElem? (i := 1105) (by decide +kernel)⟩
theorem lw_p40 : lw_okq (⟨"RainStreets", "inBarrels", "()J"⟩, 18) := ⟨⟨by decide +kernel, by decide +kernel⟩, List.mem_of_getElem? (i := 27) (by decide +kernel), List.mem_of_getElem? (i := 1108) (by decide +kernel), List.mem_of_getElem? (i := 1109) (by decide +kernel)⟩
theorem lw_p41 : lw_okq (⟨"RainStreets", "countBeds", "(Z)I"⟩, 18) := ⟨⟨by decide +kernel, by decide +kernel⟩, List.mem_of_getElem? (i := 27) (by decide +kernel), List.mem_of_getElem? (i := 1116) (by decide +kernel), List.mem_of_getElem? (i := 1117) (by decide +kernel)⟩
theorem lw_p42 : lw_okq (⟨"RainStreets", "countOpen", "()I"⟩, 18) := ⟨⟨by decide +kernel, by decide +kernel⟩, List.mem_of_getElem? (i := 27) (by decide +kernel), List.mem_of_getElem? (i := 1120) (by decide +kernel), List.mem_of_getElem? (i := 1121) (by decide +kernel)⟩
theorem lw_p43 : lw_okq (⟨"RainStreetsModel", "isCorner", "(I)Z"⟩, 82) := ⟨⟨by decide +kernel, by decide +kernel⟩, List.mem_of_getElem? (i := 1124) (by decide +kernel), List.mem_of_getElem? (i := 1389) (by decide +kernel), List.mem_of_getElem? (i := 1390) (by decide +kernel)⟩
theorem lw_p44 : lw_okq (⟨"RainStreetsModel", "parked", "(I)I"⟩, 82) := ⟨⟨by decide +kernel, by decide +kernel⟩, List.mem_of_getElem? (i := 1124) (by decide +kernel), List.mem_of_getElem? (i := 1405) (by decide +kernel), List.mem_of_getElem? (i := 1406) (by decide +kernel)⟩
theorem lw_p45 : lw_okq (⟨"RainStreetsModel", "now", "(I)I"⟩, 82) := ⟨⟨by decide +kernel, by decide +kernel⟩, List.mem_of_getElem? (i := 1124) (by decide +kernel), List.mem_of_getElem? (i := 1409) (by decide +kernel), List.mem_of_getElem? (i := 1410) (by decide +kernel)⟩
theorem lw_p46 : lw_okq (⟨"RainStreetsModel", "lawOn", "(II)I"⟩, 82) := ⟨⟨by decide +kernel, by decide +kernel⟩, List.mem_of_getElem? (i := 1124) (by decide +kernel), List.mem_of_getElem? (i := 1413) (by decide +kernel), List.mem_of_getElem? (i := 1414) (by decide +kernel)⟩
theorem lw_p47 : lw_okq (⟨"RainStreetsModel", "inForce", "(I)I"⟩, 82) := ⟨⟨by decide +kernel, by decide +kernel⟩, List.mem_of_getElem? (i := 1124) (by decide +kernel), List.mem_of_getElem? (i := 1420) (by decide +kernel), List.mem_of_getElem? (i := 1421) (by decide +kernel)⟩
def lw_privs_3 : List (MethodName × Nat) := [(⟨"RainStreets$Tape", "isToken", "(Ljava/lang/String;)Z"⟩, 6), (⟨"RainStreets$Tape", "readTurn", "(LRainStreets$Law;)V"⟩, 6), (⟨"RainStreets$Tape", "number", "(II)I"⟩, 6), (⟨"RainStreets$Tape", "valueOfToken", "()I"⟩, 6), (⟨"RainStreets$Tape", "need", "(Ljava/lang/String;)V"⟩, 6), (⟨"RainStreets$Tape", "readLook", "(LRainStreets$Law;)V"⟩, 6), (⟨"RainStreets$Tape", "readNumber", "(LRainStreets$Law;I)V"⟩, 6), (⟨"RainStreets", "inBowls", "()J"⟩, 18), (⟨"RainStreets", "inBarrels", "()J"⟩, 18), (⟨"RainStreets", "countBeds", "(Z)I"⟩, 18), (⟨"RainStreets", "countOpen", "()I"⟩, 18), (⟨"RainStreetsModel", "isCorner", "(I)Z"⟩, 82), (⟨"RainStreetsModel", "parked", "(I)I"⟩, 82), (⟨"RainStreetsModel", "now", "(I)I"⟩, 82), (⟨"RainStreetsModel", "lawOn", "(II)I"⟩, 82), (⟨"RainStreetsModel", "inForce", "(I)I"⟩, 82)]
theorem lw_r3 : ∀ q ∈ lw_privs_3, lw_okq q := List.forall_mem_cons.mpr ⟨lw_p32, List.forall_mem_cons.mpr ⟨lw_p33, List.forall_mem_cons.mpr ⟨lw_p34, List.forall_mem_cons.mpr ⟨lw_p35, List.forall_mem_cons.mpr ⟨lw_p36, List.forall_mem_cons.mpr ⟨lw_p37, List.forall_mem_cons.mpr ⟨lw_p38, List.forall_mem_cons.mpr ⟨lw_p39, List.forall_mem_cons.mpr ⟨lw_p40, List.forall_mem_cons.mpr ⟨lw_p41, List.forall_mem_cons.mpr ⟨lw_p42, List.forall_mem_cons.mpr ⟨lw_p43, List.forall_mem_cons.mpr ⟨lw_p44, List.forall_mem_cons.mpr ⟨lw_p45, List.forall_mem_cons.mpr ⟨lw_p46, List.forall_mem_cons.mpr ⟨lw_p47, fun _ h => absurd h List.not_mem_nil⟩⟩⟩⟩⟩⟩⟩⟩⟩⟩⟩⟩⟩⟩⟩⟩
theorem lw_p48 : lw_okq (⟨"RainStreetsModel", "isBed", "(I)Z"⟩, 82) := ⟨⟨by decide +kernel, by decide +kernel⟩, List.mem_of_getElem? (i := 1124) (by decide +kernel), List.mem_of_getElem? (i := 1428) (by decide +kernel), List.mem_of_getElem? (i := 1429) (by decide +kernel)⟩
theorem lw_p49 : lw_okq (⟨"RainStreetsModel", "ages", "(I)V"⟩, 82) := ⟨⟨by decide +kernel, by decide +kernel⟩, List.mem_of_getElem? (i := 1124) (by decide +kernel), List.mem_of_getElem? (i := 1442) (by decide +kernel), List.mem_of_getElem? (i := 1443) (by decide +kernel)⟩
theorem lw_p50 : lw_okq (⟨"RainStreetsModel", "drink", "(I)I"⟩, 82) := ⟨⟨by decide +kernel, by decide +kernel⟩, List.mem_of_getElem? (i := 1124) (by decide +kernel), List.mem_of_getElem? (i := 1446) (by decide +kernel), List.mem_of_getElem? (i := 1447) (by decide +kernel)⟩
theorem lw_p51 : lw_okq (⟨"RainStreetsModel", "drinkBy", "(II)I"⟩, 82) := ⟨⟨by decide +kernel, by decide +kernel⟩, List.mem_of_getElem? (i := 1124) (by decide +kernel), List.mem_of_getElem? (i := 1450) (by decide +kernel), List.mem_of_getElem? (i := 1451) (by decide +kernel)⟩
theorem lw_p52 : lw_okq (⟨"RainStreetsModel", "turns", "()V"⟩, 82) := ⟨⟨by decide +kernel, by decide +kernel⟩, List.mem_of_getElem? (i := 1124) (by decide +kernel), List.mem_of_getElem? (i := 1458) (by decide +kernel), List.mem_of_getElem? (i := 1459) (by decide +kernel)⟩
theorem lw_p53 : lw_okq (⟨"RainStreetsModel", "isTurn", "(II)Z"⟩, 82) := ⟨⟨by decide +kernel, by decide +kernel⟩, List.mem_of_getElem? (i := 1124) (by decide +kernel), List.mem_of_getElem? (i := 1462) (by decide +kernel), List.mem_of_getElem? (i := 1463) (by decide +kernel)⟩
theorem lw_p54 : lw_okq (⟨"RainStreetsModel", "falls", "(I)V"⟩, 82) := ⟨⟨by decide +kernel, by decide +kernel⟩, List.mem_of_getElem? (i := 1124) (by decide +kernel), List.mem_of_getElem? (i := 1478) (by decide +kernel), List.mem_of_getElem? (i := 1479) (by decide +kernel)⟩
theorem lw_p55 : lw_okq (⟨"RainStreetsModel", "minute", "(II)V"⟩, 82) := ⟨⟨by decide +kernel, by decide +kernel⟩, List.mem_of_getElem? (i := 1124) (by decide +kernel), List.mem_of_getElem? (i := 1482) (by decide +kernel), List.mem_of_getElem? (i := 1483) (by decide +kernel)⟩
theorem lw_p56 : lw_okq (⟨"RainStreetsModel", "roofsGive", "(II)J"⟩, 82) := ⟨⟨by decide +kernel, by decide +kernel⟩, List.mem_of_getElem? (i := 1124) (by decide +kernel), List.mem_of_getElem? (i := 1486) (by decide +kernel), List.mem_of_getElem? (i := 1487) (by decide +kernel)⟩
theorem lw_p57 : lw_okq (⟨"RainStreetsModel", "isNew", "(I)Z"⟩, 82) := ⟨⟨by decide +kernel, by decide +kernel⟩, List.mem_of_getElem? (i := 1124) (by decide +kernel), List.mem_of_getElem? (i := 1502) (by decide +kernel), List.mem_of_getElem? (i := 1503) (by decide +kernel)⟩
theorem lw_p58 : lw_okq (⟨"RainStreetsModel", "like", "(II)I"⟩, 82) := ⟨⟨by decide +kernel, by decide +kernel⟩, List.mem_of_getElem? (i := 1124) (by decide +kernel), List.mem_of_getElem? (i := 1546) (by decide +kernel), List.mem_of_getElem? (i := 1547) (by decide +kernel)⟩
theorem lw_p59 : lw_okq (⟨"RainStreetsModel", "four", "(I)V"⟩, 82) := ⟨⟨by decide +kernel, by decide +kernel⟩, List.mem_of_getElem? (i := 1124) (by decide +kernel), List.mem_of_getElem? (i := 1585) (by decide +kernel), List.mem_of_getElem? (i := 1586) (by decide +kernel)⟩
theorem lw_p60 : lw_okq (⟨"RainStreetsModel", "blanks", "()V"⟩, 82) := ⟨⟨by decide +kernel, by decide +kernel⟩, List.mem_of_getElem? (i := 1124) (by decide +kernel), List.mem_of_getElem? (i := 1593) (by decide +kernel), List.mem_of_getElem? (i := 1594) (by decide +kernel)⟩
theorem lw_p61 : lw_okq (⟨"RainStreetsModel", "statement", "(I)Z"⟩, 82) := ⟨⟨by decide +kernel, by decide +kernel⟩, List.mem_of_getElem? (i := 1124) (by decide +kernel), List.mem_of_getElem? (i := 1597) (by decide +kernel), List.mem_of_getElem? (i := 1598) (by decide +kernel)⟩
theorem lw_p62 : lw_okq (⟨"RainStreetsModel", "takes", "(J)Z"⟩, 82) := ⟨⟨by decide +kernel, by decide +kernel⟩, List.mem_of_getElem? (i := 1124) (by decide +kernel), List.mem_of_getElem? (i := 1602) (by decide +kernel), List.mem_of_getElem? (i := 1603) (by decide +kernel)⟩
theorem lw_p63 : lw_okq (⟨"RainStreetsModel", "turnsIn", "(I)Z"⟩, 82) := ⟨⟨by decide +kernel, by decide +kernel⟩, List.mem_of_getElem? (i := 1124) (by decide +kernel), List.mem_of_getElem? (i := 1606) (by decide +kernel), List.mem_of_getElem? (i := 1607) (by decide +kernel)⟩
def lw_privs_4 : List (MethodName × Nat) := [(⟨"RainStreetsModel", "isBed", "(I)Z"⟩, 82), (⟨"RainStreetsModel", "ages", "(I)V"⟩, 82), (⟨"RainStreetsModel", "drink", "(I)I"⟩, 82), (⟨"RainStreetsModel", "drinkBy", "(II)I"⟩, 82), (⟨"RainStreetsModel", "turns", "()V"⟩, 82), (⟨"RainStreetsModel", "isTurn", "(II)Z"⟩, 82), (⟨"RainStreetsModel", "falls", "(I)V"⟩, 82), (⟨"RainStreetsModel", "minute", "(II)V"⟩, 82), (⟨"RainStreetsModel", "roofsGive", "(II)J"⟩, 82), (⟨"RainStreetsModel", "isNew", "(I)Z"⟩, 82), (⟨"RainStreetsModel", "like", "(II)I"⟩, 82), (⟨"RainStreetsModel", "four", "(I)V"⟩, 82), (⟨"RainStreetsModel", "blanks", "()V"⟩, 82), (⟨"RainStreetsModel", "statement", "(I)Z"⟩, 82), (⟨"RainStreetsModel", "takes", "(J)Z"⟩, 82), (⟨"RainStreetsModel", "turnsIn", "(I)Z"⟩, 82)]
theorem lw_r4 : ∀ q ∈ lw_privs_4, lw_okq q := List.forall_mem_cons.mpr ⟨lw_p48, List.forall_mem_cons.mpr ⟨lw_p49, List.forall_mem_cons.mpr ⟨lw_p50, List.forall_mem_cons.mpr ⟨lw_p51, List.forall_mem_cons.mpr ⟨lw_p52, List.forall_mem_cons.mpr ⟨lw_p53, List.forall_mem_cons.mpr ⟨lw_p54, List.forall_mem_cons.mpr ⟨lw_p55, List.forall_mem_cons.mpr ⟨lw_p56, List.forall_mem_cons.mpr ⟨lw_p57, List.forall_mem_cons.mpr ⟨lw_p58, List.forall_mem_cons.mpr ⟨lw_p59, List.forall_mem_cons.mpr ⟨lw_p60, List.forall_mem_cons.mpr ⟨lw_p61, List.forall_mem_cons.mpr ⟨lw_p62, List.forall_mem_cons.mpr ⟨lw_p63, fun _ h => absurd h List.not_mem_nil⟩⟩⟩⟩⟩⟩⟩⟩⟩⟩⟩⟩⟩⟩⟩⟩
theorem lw_p64 : lw_okq (⟨"RainStreetsModel", "takesPlain", "()Z"⟩, 82) := ⟨⟨by decide +kernel, by decide +kernel⟩, List.mem_of_getElem? (i := 1124) (by decide +kernel), List.mem_of_getElem? (i := 1610) (by decide +kernel), List.mem_of_getElem? (i := 1611) (by decide +kernel)⟩
theorem lw_p65 : lw_okq (⟨"RainStreetsModel", "takesNumber", "(II)Z"⟩, 82) := ⟨⟨by decide +kernel, by decide +kernel⟩, List.mem_of_getElem? (i := 1124) (by decide +kernel), List.mem_of_getElem? (i := 1614) (by decide +kernel), List.mem_of_getElem? (i := 1615) (by decide +kernel)⟩
theorem lw_p66 : lw_okq (⟨"RainStreetsModel", "grades", "(I)Z"⟩, 82) := ⟨⟨by decide +kernel, by decide +kernel⟩, List.mem_of_getElem? (i := 1124) (by decide +kernel), List.mem_of_getElem? (i := 1622) (by decide +kernel), List.mem_of_getElem? (i := 1623) (by decide +kernel)⟩
theorem lw_p67 : lw_okq (⟨"RainStreetsModel", "row", "(IIJJ)Z"⟩, 82) := ⟨⟨by decide +kernel, by decide +kernel⟩, List.mem_of_getElem? (i := 1124) (by decide +kernel), List.mem_of_getElem? (i := 1628) (by decide +kernel), List.mem_of_getElem? (i := 1629) (by decide +kernel)⟩
theorem lw_p68 : lw_okq (⟨"RainStreetsModel", "others", "(I)Z"⟩, 82) := ⟨⟨by decide +kernel, by decide +kernel⟩, List.mem_of_getElem? (i := 1124) (by decide +kernel), List.mem_of_getElem? (i := 1637) (by decide +kernel), List.mem_of_getElem? (i := 1638) (by decide +kernel)⟩
def lw_privs_5 : List (MethodName × Nat) := [(⟨"RainStreetsModel", "takesPlain", "()Z"⟩, 82), (⟨"RainStreetsModel", "takesNumber", "(II)Z"⟩, 82), (⟨"RainStreetsModel", "grades", "(I)Z"⟩, 82), (⟨"RainStreetsModel", "row", "(IIJJ)Z"⟩, 82), (⟨"RainStreetsModel", "others", "(I)Z"⟩, 82)]
theorem lw_r5 : ∀ q ∈ lw_privs_5, lw_okq q := List.forall_mem_cons.mpr ⟨lw_p64, List.forall_mem_cons.mpr ⟨lw_p65, List.forall_mem_cons.mpr ⟨lw_p66, List.forall_mem_cons.mpr ⟨lw_p67, List.forall_mem_cons.mpr ⟨lw_p68, fun _ h => absurd h List.not_mem_nil⟩⟩⟩⟩⟩
def lw_privs : List (MethodName × Nat) := lw_privs_1 ++ (lw_privs_2 ++ (lw_privs_3 ++ (lw_privs_4 ++ (lw_privs_5))))
def lw_tbl : List Cond := k2_sels lw_privs ++ tables_1
theorem lw_privs_ok : ∀ q ∈ lw_privs, lw_okq q := by
  show ∀ q ∈ lw_privs_1 ++ (lw_privs_2 ++ (lw_privs_3 ++ (lw_privs_4 ++ (lw_privs_5)))), lw_okq q
  exact List.forall_mem_append.mpr ⟨lw_r1, List.forall_mem_append.mpr ⟨lw_r2, List.forall_mem_append.mpr ⟨lw_r3, List.forall_mem_append.mpr ⟨lw_r4, lw_r5⟩⟩⟩⟩
-- ===== end of PART A; then your names; then what follows =====
/-! names: class names, field tables, methods, their bytes (out of the printed names) -/
def RX0 : String := "RainStreets$Bed"
def TX0 : u_T := fun k => match k with
  | 0 => ("RainStreets$Bed", "lot", "I", true)
  | 1 => ("RainStreets$Bed", "bowl", "I", true)
  | 2 => ("RainStreets$Bed", "tree", "Z", true)
  | 3 => ("RainStreets$Bed", "made", "I", true)
  | 4 => ("RainStreets$Bed", "clog", "I", false)
  | 5 => ("RainStreets$Bed", "leaves", "I", false)
  | 6 => ("RainStreets$Bed", "salt", "I", false)
  | 7 => ("RainStreets$Bed", "plants", "Z", false)
  | 8 => ("RainStreets$Bed", "water", "I", false)
  | 9 => ("RainStreets$Bed", "stands", "I", false)
  | 10 => ("RainStreets$Bed", "grade", "I", false)
  | _ => ("RainStreets$Bed", "caredOn", "[I", true)
def tyX0 : Nat → FieldType := fun k => match k with
  | 0 => .int
  | 1 => .int
  | 2 => .boolean
  | 3 => .int
  | 4 => .int
  | 5 => .int
  | 6 => .int
  | 7 => .boolean
  | 8 => .int
  | 9 => .int
  | 10 => .int
  | _ => .array .int
theorem nmX0 : ∀ a, a < 12 → ∀ b, b < 12 → a ≠ b → (TX0 a).2.1 ≠ (TX0 b).2.1 := by decide +kernel
theorem tyX0_ok : ∀ k, k < 12 → parseFieldDescriptor (TX0 k).2.2.1 = some (tyX0 k) := by decide +kernel
abbrev cX0_init : ByteArray := prog_2_method_1_code
def yX0_init : MethodName := ⟨RX0, "<init>", "(IIZI)V"⟩
abbrev cX0_fullDrink : ByteArray := prog_2_method_2_code
def yX0_fullDrink : MethodName := ⟨RX0, "fullDrink", "([I)I"⟩
abbrev cX0_drink : ByteArray := prog_2_method_3_code
def yX0_drink : MethodName := ⟨RX0, "drink", "([I)I"⟩
abbrev cX0_gainByCare : ByteArray := prog_2_method_4_code
def yX0_gainByCare : MethodName := ⟨RX0, "gainByCare", "([I)I"⟩
abbrev cX0_clogCaredFor : ByteArray := prog_2_method_5_code
def yX0_clogCaredFor : MethodName := ⟨RX0, "clogCaredFor", "()I"⟩
abbrev cX0_caredBy : ByteArray := prog_2_method_6_code
def yX0_caredBy : MethodName := ⟨RX0, "caredBy", "(II)Z"⟩
abbrev cX0_wasCaredBy : ByteArray := prog_2_method_7_code
def yX0_wasCaredBy : MethodName := ⟨RX0, "wasCaredBy", "(II)Z"⟩
abbrev cX0_clogUp : ByteArray := prog_2_method_8_code
def yX0_clogUp : MethodName := ⟨RX0, "clogUp", "(LRainStreets$Law;)V"⟩
abbrev cX0_shedLeaves : ByteArray := prog_2_method_9_code
def yX0_shedLeaves : MethodName := ⟨RX0, "shedLeaves", "(LRainStreets$Law;I)V"⟩
abbrev cX0_drinkForADay : ByteArray := prog_2_method_10_code
def yX0_drinkForADay : MethodName := ⟨RX0, "drinkForADay", "([I)I"⟩
abbrev cX0_standsTooLong : ByteArray := prog_2_method_11_code
def yX0_standsTooLong : MethodName := ⟨RX0, "standsTooLong", "(LRainStreets$Law;)Z"⟩
abbrev cX0_meetThaw : ByteArray := prog_2_method_12_code
def yX0_meetThaw : MethodName := ⟨RX0, "meetThaw", "(LRainStreets$Law;I)V"⟩
def RX1 : String := "RainStreets$Complaint"
def TX1 : u_T := fun k => match k with
  | 0 => ("RainStreets$Complaint", "corner", "I", true)
  | 1 => ("RainStreets$Complaint", "kind", "I", true)
  | 2 => ("RainStreets$Complaint", "day", "I", true)
  | 3 => ("RainStreets$Complaint", "lastDay", "I", false)
  | 4 => ("RainStreets$Complaint", "often", "I", false)
  | _ => ("RainStreets$Complaint", "open", "Z", false)
def tyX1 : Nat → FieldType := fun k => match k with
  | 0 => .int
  | 1 => .int
  | 2 => .int
  | 3 => .int
  | 4 => .int
  | _ => .boolean
theorem nmX1 : ∀ a, a < 6 → ∀ b, b < 6 → a ≠ b → (TX1 a).2.1 ≠ (TX1 b).2.1 := by decide +kernel
theorem tyX1_ok : ∀ k, k < 6 → parseFieldDescriptor (TX1 k).2.2.1 = some (tyX1 k) := by decide +kernel
abbrev cX1_init : ByteArray := prog_3_method_1_code
def yX1_init : MethodName := ⟨RX1, "<init>", "(III)V"⟩
abbrev cX1_joins : ByteArray := prog_3_method_2_code
def yX1_joins : MethodName := ⟨RX1, "joins", "(III)Z"⟩
def RX2 : String := "RainStreets$Corner"
def TX2 : u_T := fun k => match k with
  | 0 => ("RainStreets$Corner", "area", "I", true)
  | 1 => ("RainStreets$Corner", "pipe", "I", true)
  | 2 => ("RainStreets$Corner", "parking", "I", true)
  | 3 => ("RainStreets$Corner", "cellar", "I", true)
  | 4 => ("RainStreets$Corner", "below", "I", false)
  | 5 => ("RainStreets$Corner", "bed", "LRainStreets$Bed;", false)
  | 6 => ("RainStreets$Corner", "spilt", "I", false)
  | 7 => ("RainStreets$Corner", "most", "I", false)
  | _ => ("RainStreets$Corner", "wet", "I", false)
def tyX2 : Nat → FieldType := fun k => match k with
  | 0 => .int
  | 1 => .int
  | 2 => .int
  | 3 => .int
  | 4 => .int
  | 5 => .object "RainStreets$Bed"
  | 6 => .int
  | 7 => .int
  | _ => .int
theorem nmX2 : ∀ a, a < 9 → ∀ b, b < 9 → a ≠ b → (TX2 a).2.1 ≠ (TX2 b).2.1 := by decide +kernel
theorem tyX2_ok : ∀ k, k < 9 → parseFieldDescriptor (TX2 k).2.2.1 = some (tyX2 k) := by decide +kernel
abbrev cX2_init : ByteArray := prog_4_method_1_code
def yX2_init : MethodName := ⟨RX2, "<init>", "(IIII)V"⟩
abbrev cX2_takeOver : ByteArray := prog_4_method_2_code
def yX2_takeOver : MethodName := ⟨RX2, "takeOver", "(LRainStreets$Node;)I"⟩
def RX3 : String := "RainStreets$Flow"
def TX3 : u_T := fun k => match k with
  | 0 => ("RainStreets$Flow", "nodes", "Ljava/util/ArrayList;", true)
  | 1 => ("RainStreets$Flow", "works", "I", false)
  | 2 => ("RainStreets$Flow", "worksMost", "I", false)
  | 3 => ("RainStreets$Flow", "own", "[I", true)
  | 4 => ("RainStreets$Flow", "barrels", "[I", true)
  | 5 => ("RainStreets$Flow", "areas", "[I", true)
  | 6 => ("RainStreets$Flow", "count", "I", false)
  | 7 => ("RainStreets$Flow", "minuteCount", "I", false)
  | _ => ("RainStreets$Flow", "newDrink", "I", false)
def tyX3 : Nat → FieldType := fun k => match k with
  | 0 => .object "java/util/ArrayList"
  | 1 => .int
  | 2 => .int
  | 3 => .array .int
  | 4 => .array .int
  | 5 => .array .int
  | 6 => .int
  | 7 => .int
  | _ => .int
theorem nmX3 : ∀ a, a < 9 → ∀ b, b < 9 → a ≠ b → (TX3 a).2.1 ≠ (TX3 b).2.1 := by decide +kernel
theorem tyX3_ok : ∀ k, k < 9 → parseFieldDescriptor (TX3 k).2.2.1 = some (tyX3 k) := by decide +kernel
abbrev cX3_init : ByteArray := prog_5_method_1_code
def yX3_init : MethodName := ⟨RX3, "<init>", "()V"⟩
abbrev cX3_lieOver : ByteArray := prog_5_method_2_code
def yX3_lieOver : MethodName := ⟨RX3, "lieOver", "(Ljava/util/ArrayList;[I)V"⟩
abbrev cX3_letIn : ByteArray := prog_5_method_3_code
def yX3_letIn : MethodName := ⟨RX3, "letIn", "(Ljava/util/ArrayList;[II)V"⟩
abbrev cX3_letInFrom : ByteArray := prog_5_method_4_code
def yX3_letInFrom : MethodName := ⟨RX3, "letInFrom", "(LRainStreets$Roof;[I)I"⟩
abbrev cX3_run : ByteArray := prog_5_method_5_code
def yX3_run : MethodName := ⟨RX3, "run", "(I)V"⟩
abbrev cX3_barrelAfter : ByteArray := prog_5_method_6_code
def yX3_barrelAfter : MethodName := ⟨RX3, "barrelAfter", "(I)I"⟩
abbrev cX3_spiltAt : ByteArray := prog_5_method_7_code
def yX3_spiltAt : MethodName := ⟨RX3, "spiltAt", "(I)I"⟩
abbrev cX3_spilt : ByteArray := prog_5_method_8_code
def yX3_spilt : MethodName := ⟨RX3, "spilt", "()I"⟩
abbrev cX3_wet : ByteArray := prog_5_method_9_code
def yX3_wet : MethodName := ⟨RX3, "wet", "()I"⟩
abbrev cX3_weight : ByteArray := prog_5_method_10_code
def yX3_weight : MethodName := ⟨RX3, "weight", "(I)J"⟩
def RX4 : String := "RainStreets$Law"
def TX4 : u_T := fun k => match k with
  | 0 => ("RainStreets$Law", "since", "I", true)
  | 1 => ("RainStreets$Law", "number", "I", true)
  | 2 => ("RainStreets$Law", "turns", "Ljava/util/ArrayList;", true)
  | _ => ("RainStreets$Law", "numbers", "[I", true)
def tyX4 : Nat → FieldType := fun k => match k with
  | 0 => .int
  | 1 => .int
  | 2 => .object "java/util/ArrayList"
  | _ => .array .int
theorem nmX4 : ∀ a, a < 4 → ∀ b, b < 4 → a ≠ b → (TX4 a).2.1 ≠ (TX4 b).2.1 := by decide +kernel
theorem tyX4_ok : ∀ k, k < 4 → parseFieldDescriptor (TX4 k).2.2.1 = some (tyX4 k) := by decide +kernel
abbrev cX4_init : ByteArray := prog_6_method_1_code
def yX4_init : MethodName := ⟨RX4, "<init>", "(II)V"⟩
abbrev cX4_value : ByteArray := prog_6_method_2_code
def yX4_value : MethodName := ⟨RX4, "value", "(I)I"⟩
abbrev cX4_put : ByteArray := prog_6_method_3_code
def yX4_put : MethodName := ⟨RX4, "put", "(II)V"⟩
abbrev cX4_leavesFallOn : ByteArray := prog_6_method_4_code
def yX4_leavesFallOn : MethodName := ⟨RX4, "leavesFallOn", "(I)Z"⟩
def RX5 : String := "RainStreets$Node"
def TX5 : u_T := fun k => match k with
  | 0 => ("RainStreets$Node", "pipe", "I", false)
  | 1 => ("RainStreets$Node", "cellar", "I", false)
  | 2 => ("RainStreets$Node", "below", "LRainStreets$Node;", false)
  | 3 => ("RainStreets$Node", "bowl", "I", false)
  | 4 => ("RainStreets$Node", "drink", "I", false)
  | 5 => ("RainStreets$Node", "open", "I", false)
  | 6 => ("RainStreets$Node", "anew", "Z", false)
  | 7 => ("RainStreets$Node", "water", "I", false)
  | 8 => ("RainStreets$Node", "fromStreet", "I", false)
  | 9 => ("RainStreets$Node", "fromPipes", "I", false)
  | 10 => ("RainStreets$Node", "toWorks", "I", false)
  | 11 => ("RainStreets$Node", "drunk", "I", false)
  | 12 => ("RainStreets$Node", "spilt", "I", false)
  | 13 => ("RainStreets$Node", "most", "I", false)
  | _ => ("RainStreets$Node", "wet", "I", false)
def tyX5 : Nat → FieldType := fun k => match k with
  | 0 => .int
  | 1 => .int
  | 2 => .object "RainStreets$Node"
  | 3 => .int
  | 4 => .int
  | 5 => .int
  | 6 => .boolean
  | 7 => .int
  | 8 => .int
  | 9 => .int
  | 10 => .int
  | 11 => .int
  | 12 => .int
  | 13 => .int
  | _ => .int
theorem nmX5 : ∀ a, a < 15 → ∀ b, b < 15 → a ≠ b → (TX5 a).2.1 ≠ (TX5 b).2.1 := by decide +kernel
theorem tyX5_ok : ∀ k, k < 15 → parseFieldDescriptor (TX5 k).2.2.1 = some (tyX5 k) := by decide +kernel
abbrev cX5_init : ByteArray := prog_7_method_1_code
def yX5_init : MethodName := ⟨RX5, "<init>", "()V"⟩
abbrev cX5_lieAt : ByteArray := prog_7_method_2_code
def yX5_lieAt : MethodName := ⟨RX5, "lieAt", "(LRainStreets$Corner;LRainStreets$Node;[I)V"⟩
abbrev cX5_start : ByteArray := prog_7_method_3_code
def yX5_start : MethodName := ⟨RX5, "start", "(Z)V"⟩
abbrev cX5_soak : ByteArray := prog_7_method_4_code
def yX5_soak : MethodName := ⟨RX5, "soak", "(II)I"⟩
abbrev cX5_minute : ByteArray := prog_7_method_5_code
def yX5_minute : MethodName := ⟨RX5, "minute", "(II)V"⟩
def RX6 : String := "RainStreets$Roof"
def TX6 : u_T := fun k => match k with
  | 0 => ("RainStreets$Roof", "corner", "I", true)
  | 1 => ("RainStreets$Roof", "owner", "I", true)
  | 2 => ("RainStreets$Roof", "area", "I", true)
  | 3 => ("RainStreets$Roof", "barrel", "I", true)
  | 4 => ("RainStreets$Roof", "water", "I", false)
  | 5 => ("RainStreets$Roof", "lastProved", "I", false)
  | _ => ("RainStreets$Roof", "yearsProved", "I", false)
def tyX6 : Nat → FieldType := fun k => match k with
  | 0 => .int
  | 1 => .int
  | 2 => .int
  | 3 => .int
  | 4 => .int
  | 5 => .int
  | _ => .int
theorem nmX6 : ∀ a, a < 7 → ∀ b, b < 7 → a ≠ b → (TX6 a).2.1 ≠ (TX6 b).2.1 := by decide +kernel
theorem tyX6_ok : ∀ k, k < 7 → parseFieldDescriptor (TX6 k).2.2.1 = some (tyX6 k) := by decide +kernel
abbrev cX6_init : ByteArray := prog_8_method_1_code
def yX6_init : MethodName := ⟨RX6, "<init>", "(IIII)V"⟩
abbrev cX6_proveIn : ByteArray := prog_8_method_2_code
def yX6_proveIn : MethodName := ⟨RX6, "proveIn", "(I)V"⟩
abbrev cX6_wasProvedIn : ByteArray := prog_8_method_3_code
def yX6_wasProvedIn : MethodName := ⟨RX6, "wasProvedIn", "(I)Z"⟩
abbrev cX6_give : ByteArray := prog_8_method_4_code
def yX6_give : MethodName := ⟨RX6, "give", "()I"⟩
def RX7 : String := "RainStreets$Tape"
def TX7 : u_T := fun k => match k with
  | 0 => ("RainStreets$Tape", "length", "I", false)
  | 1 => ("RainStreets$Tape", "bytes", "[I", true)
  | 2 => ("RainStreets$Tape", "end", "I", false)
  | 3 => ("RainStreets$Tape", "tokenStart", "I", false)
  | 4 => ("RainStreets$Tape", "tokenEnd", "I", false)
  | _ => ("RainStreets$Tape", "fault", "I", false)
def tyX7 : Nat → FieldType := fun k => match k with
  | 0 => .int
  | 1 => .array .int
  | 2 => .int
  | 3 => .int
  | 4 => .int
  | _ => .int
theorem nmX7 : ∀ a, a < 6 → ∀ b, b < 6 → a ≠ b → (TX7 a).2.1 ≠ (TX7 b).2.1 := by decide +kernel
theorem tyX7_ok : ∀ k, k < 6 → parseFieldDescriptor (TX7 k).2.2.1 = some (tyX7 k) := by decide +kernel
abbrev cX7_init : ByteArray := prog_9_method_1_code
def yX7_init : MethodName := ⟨RX7, "<init>", "()V"⟩
abbrev cX7_add : ByteArray := prog_9_method_2_code
def yX7_add : MethodName := ⟨RX7, "add", "(I)V"⟩
abbrev cX7_read : ByteArray := prog_9_method_3_code
def yX7_read : MethodName := ⟨RX7, "read", "(ILRainStreets$Law;)I"⟩
abbrev cX7_readStatement : ByteArray := prog_9_method_4_code
def yX7_readStatement : MethodName := ⟨RX7, "readStatement", "(LRainStreets$Law;)V"⟩
abbrev cX7_readTurn : ByteArray := prog_9_method_5_code
def yX7_readTurn : MethodName := ⟨RX7, "readTurn", "(LRainStreets$Law;)V"⟩
abbrev cX7_readLook : ByteArray := prog_9_method_6_code
def yX7_readLook : MethodName := ⟨RX7, "readLook", "(LRainStreets$Law;)V"⟩
abbrev cX7_readNumber : ByteArray := prog_9_method_7_code
def yX7_readNumber : MethodName := ⟨RX7, "readNumber", "(LRainStreets$Law;I)V"⟩
abbrev cX7_number : ByteArray := prog_9_method_8_code
def yX7_number : MethodName := ⟨RX7, "number", "(II)I"⟩
abbrev cX7_valueOfToken : ByteArray := prog_9_method_9_code
def yX7_valueOfToken : MethodName := ⟨RX7, "valueOfToken", "()I"⟩
abbrev cX7_need : ByteArray := prog_9_method_10_code
def yX7_need : MethodName := ⟨RX7, "need", "(Ljava/lang/String;)V"⟩
abbrev cX7_skips : ByteArray := prog_9_method_11_code
def yX7_skips : MethodName := ⟨RX7, "skips", "(Ljava/lang/String;)Z"⟩
abbrev cX7_isToken : ByteArray := prog_9_method_12_code
def yX7_isToken : MethodName := ⟨RX7, "isToken", "(Ljava/lang/String;)Z"⟩
abbrev cX7_step : ByteArray := prog_9_method_13_code
def yX7_step : MethodName := ⟨RX7, "step", "()V"⟩
abbrev cX7_byteAt : ByteArray := prog_9_method_14_code
def yX7_byteAt : MethodName := ⟨RX7, "byteAt", "(I)I"⟩
abbrev cX7_kindOf : ByteArray := prog_9_method_15_code
def yX7_kindOf : MethodName := ⟨RX7, "kindOf", "(I)I"⟩
def RX8 : String := "RainStreets$ToldStorm"
def TX8 : u_T := fun k => match k with
  | 0 => ("RainStreets$ToldStorm", "day", "I", true)
  | 1 => ("RainStreets$ToldStorm", "rained", "I", true)
  | 2 => ("RainStreets$ToldStorm", "spilt", "I", true)
  | 3 => ("RainStreets$ToldStorm", "wet", "I", true)
  | _ => ("RainStreets$ToldStorm", "most", "I", true)
def tyX8 : Nat → FieldType := fun k => match k with
  | 0 => .int
  | 1 => .int
  | 2 => .int
  | 3 => .int
  | _ => .int
theorem nmX8 : ∀ a, a < 5 → ∀ b, b < 5 → a ≠ b → (TX8 a).2.1 ≠ (TX8 b).2.1 := by decide +kernel
theorem tyX8_ok : ∀ k, k < 5 → parseFieldDescriptor (TX8 k).2.2.1 = some (tyX8 k) := by decide +kernel
abbrev cX8_init : ByteArray := prog_10_method_1_code
def yX8_init : MethodName := ⟨RX8, "<init>", "(IILRainStreets$Flow;)V"⟩
def RX9 : String := "RainStreets$Turn"
def TX9 : u_T := fun k => match k with
  | 0 => ("RainStreets$Turn", "neighbour", "I", true)
  | 1 => ("RainStreets$Turn", "corner", "I", true)
  | 2 => ("RainStreets$Turn", "every", "I", true)
  | _ => ("RainStreets$Turn", "from", "I", true)
def tyX9 : Nat → FieldType := fun k => match k with
  | 0 => .int
  | 1 => .int
  | 2 => .int
  | _ => .int
theorem nmX9 : ∀ a, a < 4 → ∀ b, b < 4 → a ≠ b → (TX9 a).2.1 ≠ (TX9 b).2.1 := by decide +kernel
theorem tyX9_ok : ∀ k, k < 4 → parseFieldDescriptor (TX9 k).2.2.1 = some (tyX9 k) := by decide +kernel
abbrev cX9_init : ByteArray := prog_11_method_1_code
def yX9_init : MethodName := ⟨RX9, "<init>", "(IIII)V"⟩
abbrev cX9_fallsOn : ByteArray := prog_11_method_2_code
def yX9_fallsOn : MethodName := ⟨RX9, "fallsOn", "(I)Z"⟩
def RX10 : String := "RainStreets"
def TX10 : u_T := fun k => match k with
  | 0 => ("RainStreets", "corners", "Ljava/util/ArrayList;", true)
  | 1 => ("RainStreets", "roofs", "Ljava/util/ArrayList;", true)
  | 2 => ("RainStreets", "storms", "Ljava/util/ArrayList;", true)
  | 3 => ("RainStreets", "complaints", "Ljava/util/ArrayList;", true)
  | 4 => ("RainStreets", "laws", "Ljava/util/ArrayList;", true)
  | 5 => ("RainStreets", "bare", "LRainStreets$Law;", true)
  | 6 => ("RainStreets", "tape", "LRainStreets$Tape;", true)
  | 7 => ("RainStreets", "flow", "LRainStreets$Flow;", true)
  | 8 => ("RainStreets", "lots", "[I", true)
  | 9 => ("RainStreets", "minutes", "[I", true)
  | 10 => ("RainStreets", "owed", "[I", true)
  | 11 => ("RainStreets", "kept", "[[I", true)
  | 12 => ("RainStreets", "gains", "[I", true)
  | 13 => ("RainStreets", "sums", "[J", true)
  | 14 => ("RainStreets", "minuteCount", "I", false)
  | 15 => ("RainStreets", "today", "I", false)
  | 16 => ("RainStreets", "looks", "I", false)
  | _ => ("RainStreets", "latestFault", "I", false)
def tyX10 : Nat → FieldType := fun k => match k with
  | 0 => .object "java/util/ArrayList"
  | 1 => .object "java/util/ArrayList"
  | 2 => .object "java/util/ArrayList"
  | 3 => .object "java/util/ArrayList"
  | 4 => .object "java/util/ArrayList"
  | 5 => .object "RainStreets$Law"
  | 6 => .object "RainStreets$Tape"
  | 7 => .object "RainStreets$Flow"
  | 8 => .array .int
  | 9 => .array .int
  | 10 => .array .int
  | 11 => .array (.array .int)
  | 12 => .array .int
  | 13 => .array .long
  | 14 => .int
  | 15 => .int
  | 16 => .int
  | _ => .int
theorem nmX10 : ∀ a, a < 18 → ∀ b, b < 18 → a ≠ b → (TX10 a).2.1 ≠ (TX10 b).2.1 := by decide +kernel
theorem tyX10_ok : ∀ k, k < 18 → parseFieldDescriptor (TX10 k).2.2.1 = some (tyX10 k) := by decide +kernel
abbrev cX10_init : ByteArray := prog_1_method_1_code
def yX10_init : MethodName := ⟨RX10, "<init>", "()V"⟩
abbrev cX10_corner : ByteArray := prog_1_method_2_code
def yX10_corner : MethodName := ⟨RX10, "corner", "(IIII)I"⟩
abbrev cX10_below : ByteArray := prog_1_method_3_code
def yX10_below : MethodName := ⟨RX10, "below", "(II)Z"⟩
abbrev cX10_roof : ByteArray := prog_1_method_4_code
def yX10_roof : MethodName := ⟨RX10, "roof", "(IIII)I"⟩
abbrev cX10_lot : ByteArray := prog_1_method_5_code
def yX10_lot : MethodName := ⟨RX10, "lot", "(II)Z"⟩
abbrev cX10_bed : ByteArray := prog_1_method_6_code
def yX10_bed : MethodName := ⟨RX10, "bed", "(IIIZ)Z"⟩
abbrev cX10_care : ByteArray := prog_1_method_7_code
def yX10_care : MethodName := ⟨RX10, "care", "(II)Z"⟩
abbrev cX10_treat : ByteArray := prog_1_method_8_code
def yX10_treat : MethodName := ⟨RX10, "treat", "(II)Z"⟩
abbrev cX10_prove : ByteArray := prog_1_method_9_code
def yX10_prove : MethodName := ⟨RX10, "prove", "(I)Z"⟩
abbrev cX10_told : ByteArray := prog_1_method_10_code
def yX10_told : MethodName := ⟨RX10, "told", "(II)I"⟩
abbrev cX10_bedOf : ByteArray := prog_1_method_11_code
def yX10_bedOf : MethodName := ⟨RX10, "bedOf", "(II)I"⟩
abbrev cX10_roofOf : ByteArray := prog_1_method_12_code
def yX10_roofOf : MethodName := ⟨RX10, "roofOf", "(II)I"⟩
abbrev cX10_cornerAt : ByteArray := prog_1_method_13_code
def yX10_cornerAt : MethodName := ⟨RX10, "cornerAt", "(I)LRainStreets$Corner;"⟩
abbrev cX10_bedAt : ByteArray := prog_1_method_14_code
def yX10_bedAt : MethodName := ⟨RX10, "bedAt", "(I)LRainStreets$Bed;"⟩
abbrev cX10_roofAt : ByteArray := prog_1_method_15_code
def yX10_roofAt : MethodName := ⟨RX10, "roofAt", "(I)LRainStreets$Roof;"⟩
abbrev cX10_parkingOfBeds : ByteArray := prog_1_method_16_code
def yX10_parkingOfBeds : MethodName := ⟨RX10, "parkingOfBeds", "()I"⟩
abbrev cX10_parkingWith : ByteArray := prog_1_method_17_code
def yX10_parkingWith : MethodName := ⟨RX10, "parkingWith", "(I)I"⟩
abbrev cX10_drinkByLook : ByteArray := prog_1_method_18_code
def yX10_drinkByLook : MethodName := ⟨RX10, "drinkByLook", "(LRainStreets$Bed;I)I"⟩
abbrev cX10_pass : ByteArray := prog_1_method_19_code
def yX10_pass : MethodName := ⟨RX10, "pass", "(I)I"⟩
abbrev cX10_goBy : ByteArray := prog_1_method_20_code
def yX10_goBy : MethodName := ⟨RX10, "goBy", "(LRainStreets$Law;)V"⟩
abbrev cX10_settle : ByteArray := prog_1_method_21_code
def yX10_settle : MethodName := ⟨RX10, "settle", "(LRainStreets$Turn;I)V"⟩
abbrev cX10_neighbour : ByteArray := prog_1_method_22_code
def yX10_neighbour : MethodName := ⟨RX10, "neighbour", "(II)I"⟩
abbrev cX10_turn : ByteArray := prog_1_method_23_code
def yX10_turn : MethodName := ⟨RX10, "turn", "(III)I"⟩
abbrev cX10_fee : ByteArray := prog_1_method_24_code
def yX10_fee : MethodName := ⟨RX10, "fee", "(II)I"⟩
abbrev cX10_crew : ByteArray := prog_1_method_25_code
def yX10_crew : MethodName := ⟨RX10, "crew", "(II)I"⟩
abbrev cX10_weighGains : ByteArray := prog_1_method_26_code
def yX10_weighGains : MethodName := ⟨RX10, "weighGains", "()V"⟩
abbrev cX10_gainOf : ByteArray := prog_1_method_27_code
def yX10_gainOf : MethodName := ⟨RX10, "gainOf", "(I)I"⟩
abbrev cX10_hoursFor : ByteArray := prog_1_method_28_code
def yX10_hoursFor : MethodName := ⟨RX10, "hoursFor", "(I)I"⟩
abbrev cX10_rain : ByteArray := prog_1_method_29_code
def yX10_rain : MethodName := ⟨RX10, "rain", "(I)I"⟩
abbrev cX10_clear : ByteArray := prog_1_method_30_code
def yX10_clear : MethodName := ⟨RX10, "clear", "()I"⟩
abbrev cX10_storm : ByteArray := prog_1_method_31_code
def yX10_storm : MethodName := ⟨RX10, "storm", "()I"⟩
abbrev cX10_prepareFlow : ByteArray := prog_1_method_32_code
def yX10_prepareFlow : MethodName := ⟨RX10, "prepareFlow", "()V"⟩
abbrev cX10_whatRains : ByteArray := prog_1_method_33_code
def yX10_whatRains : MethodName := ⟨RX10, "whatRains", "()I"⟩
abbrev cX10_tried : ByteArray := prog_1_method_34_code
def yX10_tried : MethodName := ⟨RX10, "tried", "(II)J"⟩
abbrev cX10_best : ByteArray := prog_1_method_35_code
def yX10_best : MethodName := ⟨RX10, "best", "(IIII)J"⟩
abbrev cX10_bestSet : ByteArray := prog_1_method_36_code
def yX10_bestSet : MethodName := ⟨RX10, "bestSet", "(III)I"⟩
abbrev cX10_costOf : ByteArray := prog_1_method_37_code
def yX10_costOf : MethodName := ⟨RX10, "costOf", "(I)I"⟩
abbrev cX10_isFree : ByteArray := prog_1_method_38_code
def yX10_isFree : MethodName := ⟨RX10, "isFree", "(I)Z"⟩
abbrev cX10_helps : ByteArray := prog_1_method_39_code
def yX10_helps : MethodName := ⟨RX10, "helps", "(II)J"⟩
abbrev cX10_stormOf : ByteArray := prog_1_method_40_code
def yX10_stormOf : MethodName := ⟨RX10, "stormOf", "(II)J"⟩
abbrev cX10_compare : ByteArray := prog_1_method_41_code
def yX10_compare : MethodName := ⟨RX10, "compare", "(II)J"⟩
abbrev cX10_likeAhead : ByteArray := prog_1_method_42_code
def yX10_likeAhead : MethodName := ⟨RX10, "likeAhead", "(LRainStreets$ToldStorm;IJ)LRainStreets$ToldStorm;"⟩
abbrev cX10_look : ByteArray := prog_1_method_43_code
def yX10_look : MethodName := ⟨RX10, "look", "(II)I"⟩
abbrev cX10_worst : ByteArray := prog_1_method_44_code
def yX10_worst : MethodName := ⟨RX10, "worst", "(I)I"⟩
abbrev cX10_worstLot : ByteArray := prog_1_method_45_code
def yX10_worstLot : MethodName := ⟨RX10, "worstLot", "()I"⟩
abbrev cX10_looksOf : ByteArray := prog_1_method_46_code
def yX10_looksOf : MethodName := ⟨RX10, "looksOf", "(I)I"⟩
abbrev cX10_gradesOf : ByteArray := prog_1_method_47_code
def yX10_gradesOf : MethodName := ⟨RX10, "gradesOf", "(I)I"⟩
abbrev cX10_complain : ByteArray := prog_1_method_48_code
def yX10_complain : MethodName := ⟨RX10, "complain", "(II)I"⟩
abbrev cX10_tellComplaint : ByteArray := prog_1_method_49_code
def yX10_tellComplaint : MethodName := ⟨RX10, "tellComplaint", "(II)I"⟩
abbrev cX10_close : ByteArray := prog_1_method_50_code
def yX10_close : MethodName := ⟨RX10, "close", "(I)Z"⟩
abbrev cX10_complaint : ByteArray := prog_1_method_51_code
def yX10_complaint : MethodName := ⟨RX10, "complaint", "(II)I"⟩
abbrev cX10_feed : ByteArray := prog_1_method_52_code
def yX10_feed : MethodName := ⟨RX10, "feed", "(IIIII)I"⟩
abbrev cX10_rules : ByteArray := prog_1_method_53_code
def yX10_rules : MethodName := ⟨RX10, "rules", "(I)I"⟩
abbrev cX10_fault : ByteArray := prog_1_method_54_code
def yX10_fault : MethodName := ⟨RX10, "fault", "()I"⟩
abbrev cX10_law : ByteArray := prog_1_method_55_code
def yX10_law : MethodName := ⟨RX10, "law", "(II)I"⟩
abbrev cX10_lawOn : ByteArray := prog_1_method_56_code
def yX10_lawOn : MethodName := ⟨RX10, "lawOn", "(I)LRainStreets$Law;"⟩
abbrev cX10_sum : ByteArray := prog_1_method_57_code
def yX10_sum : MethodName := ⟨RX10, "sum", "(I)J"⟩
abbrev cX10_inBowls : ByteArray := prog_1_method_58_code
def yX10_inBowls : MethodName := ⟨RX10, "inBowls", "()J"⟩
abbrev cX10_inBarrels : ByteArray := prog_1_method_59_code
def yX10_inBarrels : MethodName := ⟨RX10, "inBarrels", "()J"⟩
abbrev cX10_count : ByteArray := prog_1_method_60_code
def yX10_count : MethodName := ⟨RX10, "count", "(I)I"⟩
abbrev cX10_countBeds : ByteArray := prog_1_method_61_code
def yX10_countBeds : MethodName := ⟨RX10, "countBeds", "(Z)I"⟩
abbrev cX10_countOpen : ByteArray := prog_1_method_62_code
def yX10_countOpen : MethodName := ⟨RX10, "countOpen", "()I"⟩
abbrev cX10_within : ByteArray := prog_1_method_63_code
def yX10_within : MethodName := ⟨RX10, "within", "(III)Z"⟩
abbrev cX10_holds : ByteArray := prog_1_method_64_code
def yX10_holds : MethodName := ⟨RX10, "holds", "(II)Z"⟩
def RX11 : String := "RainStreetsModel"
def TX11 : u_T := fun k => match k with
  | 0 => ("RainStreetsModel", "today", "I", false)
  | 1 => ("RainStreetsModel", "corners", "I", false)
  | 2 => ("RainStreetsModel", "roofs", "I", false)
  | 3 => ("RainStreetsModel", "minutes", "I", false)
  | 4 => ("RainStreetsModel", "storms", "I", false)
  | 5 => ("RainStreetsModel", "looks", "I", false)
  | 6 => ("RainStreetsModel", "complaints", "I", false)
  | 7 => ("RainStreetsModel", "area", "[I", true)
  | 8 => ("RainStreetsModel", "pipe", "[I", true)
  | 9 => ("RainStreetsModel", "parking", "[I", true)
  | 10 => ("RainStreetsModel", "cellar", "[I", true)
  | 11 => ("RainStreetsModel", "below", "[I", true)
  | 12 => ("RainStreetsModel", "hasBed", "[Z", true)
  | 13 => ("RainStreetsModel", "hasTree", "[Z", true)
  | 14 => ("RainStreetsModel", "hasPlants", "[Z", true)
  | 15 => ("RainStreetsModel", "lot", "[I", true)
  | 16 => ("RainStreetsModel", "bowl", "[I", true)
  | 17 => ("RainStreetsModel", "made", "[I", true)
  | 18 => ("RainStreetsModel", "clog", "[I", true)
  | 19 => ("RainStreetsModel", "leaves", "[I", true)
  | 20 => ("RainStreetsModel", "salt", "[I", true)
  | 21 => ("RainStreetsModel", "holds", "[I", true)
  | 22 => ("RainStreetsModel", "stands", "[I", true)
  | 23 => ("RainStreetsModel", "looked", "[I", true)
  | 24 => ("RainStreetsModel", "caredOn", "[I", true)
  | 25 => ("RainStreetsModel", "roofAt", "[I", true)
  | 26 => ("RainStreetsModel", "owner", "[I", true)
  | 27 => ("RainStreetsModel", "roofArea", "[I", true)
  | 28 => ("RainStreetsModel", "barrel", "[I", true)
  | 29 => ("RainStreetsModel", "has", "[I", true)
  | 30 => ("RainStreetsModel", "proved", "[I", true)
  | 31 => ("RainStreetsModel", "drinks", "[I", true)
  | 32 => ("RainStreetsModel", "rain", "[I", true)
  | 33 => ("RainStreetsModel", "owes", "[I", true)
  | 34 => ("RainStreetsModel", "kept", "[I", true)
  | 35 => ("RainStreetsModel", "rained", "J", false)
  | 36 => ("RainStreetsModel", "drunk", "J", false)
  | 37 => ("RainStreetsModel", "spilt", "J", false)
  | 38 => ("RainStreetsModel", "works", "J", false)
  | 39 => ("RainStreetsModel", "used", "J", false)
  | 40 => ("RainStreetsModel", "barrelNow", "[I", true)
  | 41 => ("RainStreetsModel", "bowlNow", "[I", true)
  | 42 => ("RainStreetsModel", "street", "[J", true)
  | 43 => ("RainStreetsModel", "inPipe", "[J", true)
  | 44 => ("RainStreetsModel", "spiltAt", "[J", true)
  | 45 => ("RainStreetsModel", "mostAt", "[J", true)
  | 46 => ("RainStreetsModel", "wetAt", "[I", true)
  | 47 => ("RainStreetsModel", "allRain", "J", false)
  | 48 => ("RainStreetsModel", "allDrunk", "J", false)
  | 49 => ("RainStreetsModel", "allSpilt", "J", false)
  | 50 => ("RainStreetsModel", "allWorks", "J", false)
  | 51 => ("RainStreetsModel", "mostWorks", "J", false)
  | 52 => ("RainStreetsModel", "allWet", "I", false)
  | 53 => ("RainStreetsModel", "stormRain", "[J", true)
  | 54 => ("RainStreetsModel", "stormSpilt", "[J", true)
  | 55 => ("RainStreetsModel", "stormMost", "[J", true)
  | 56 => ("RainStreetsModel", "toldSpilt", "[J", true)
  | 57 => ("RainStreetsModel", "toldMost", "[J", true)
  | 58 => ("RainStreetsModel", "stormDay", "[I", true)
  | 59 => ("RainStreetsModel", "stormWet", "[I", true)
  | 60 => ("RainStreetsModel", "toldWet", "[I", true)
  | 61 => ("RainStreetsModel", "atCorner", "[I", true)
  | 62 => ("RainStreetsModel", "ofKind", "[I", true)
  | 63 => ("RainStreetsModel", "toldOn", "[I", true)
  | 64 => ("RainStreetsModel", "joinedOn", "[I", true)
  | 65 => ("RainStreetsModel", "often", "[I", true)
  | 66 => ("RainStreetsModel", "isOpen", "[Z", true)
  | 67 => ("RainStreetsModel", "rules", "I", false)
  | 68 => ("RainStreetsModel", "statements", "[I", true)
  | 69 => ("RainStreetsModel", "taken", "[I", true)
  | 70 => ("RainStreetsModel", "sort", "[I", true)
  | 71 => ("RainStreetsModel", "first", "[I", true)
  | 72 => ("RainStreetsModel", "second", "[I", true)
  | 73 => ("RainStreetsModel", "third", "[I", true)
  | 74 => ("RainStreetsModel", "fourth", "[I", true)
  | 75 => ("RainStreetsModel", "tape", "[B", true)
  | 76 => ("RainStreetsModel", "text", "[B", true)
  | 77 => ("RainStreetsModel", "taped", "I", false)
  | 78 => ("RainStreetsModel", "size", "I", false)
  | 79 => ("RainStreetsModel", "at", "I", false)
  | 80 => ("RainStreetsModel", "fault", "I", false)
  | _ => ("RainStreetsModel", "number", "I", false)
def tyX11 : Nat → FieldType := fun k => match k with
  | 0 => .int
  | 1 => .int
  | 2 => .int
  | 3 => .int
  | 4 => .int
  | 5 => .int
  | 6 => .int
  | 7 => .array .int
  | 8 => .array .int
  | 9 => .array .int
  | 10 => .array .int
  | 11 => .array .int
  | 12 => .array .boolean
  | 13 => .array .boolean
  | 14 => .array .boolean
  | 15 => .array .int
  | 16 => .array .int
  | 17 => .array .int
  | 18 => .array .int
  | 19 => .array .int
  | 20 => .array .int
  | 21 => .array .int
  | 22 => .array .int
  | 23 => .array .int
  | 24 => .array .int
  | 25 => .array .int
  | 26 => .array .int
  | 27 => .array .int
  | 28 => .array .int
  | 29 => .array .int
  | 30 => .array .int
  | 31 => .array .int
  | 32 => .array .int
  | 33 => .array .int
  | 34 => .array .int
  | 35 => .long
  | 36 => .long
  | 37 => .long
  | 38 => .long
  | 39 => .long
  | 40 => .array .int
  | 41 => .array .int
  | 42 => .array .long
  | 43 => .array .long
  | 44 => .array .long
  | 45 => .array .long
  | 46 => .array .int
  | 47 => .long
  | 48 => .long
  | 49 => .long
  | 50 => .long
  | 51 => .long
  | 52 => .int
  | 53 => .array .long
  | 54 => .array .long
  | 55 => .array .long
  | 56 => .array .long
  | 57 => .array .long
  | 58 => .array .int
  | 59 => .array .int
  | 60 => .array .int
  | 61 => .array .int
  | 62 => .array .int
  | 63 => .array .int
  | 64 => .array .int
  | 65 => .array .int
  | 66 => .array .boolean
  | 67 => .int
  | 68 => .array .int
  | 69 => .array .int
  | 70 => .array .int
  | 71 => .array .int
  | 72 => .array .int
  | 73 => .array .int
  | 74 => .array .int
  | 75 => .array .byte
  | 76 => .array .byte
  | 77 => .int
  | 78 => .int
  | 79 => .int
  | 80 => .int
  | _ => .int
theorem nmX11 : ∀ a, a < 82 → ∀ b, b < 82 → a ≠ b → (TX11 a).2.1 ≠ (TX11 b).2.1 := by decide +kernel
theorem tyX11_ok : ∀ k, k < 82 → parseFieldDescriptor (TX11 k).2.2.1 = some (tyX11 k) := by decide +kernel
abbrev cX11_init : ByteArray := prog_13_method_1_code
def yX11_init : MethodName := ⟨RX11, "<init>", "()V"⟩
abbrev cX11_isIn : ByteArray := prog_13_method_2_code
def yX11_isIn : MethodName := ⟨RX11, "isIn", "(III)Z"⟩
abbrev cX11_one : ByteArray := prog_13_method_3_code
def yX11_one : MethodName := ⟨RX11, "one", "(Z)I"⟩
abbrev cX11_isCorner : ByteArray := prog_13_method_4_code
def yX11_isCorner : MethodName := ⟨RX11, "isCorner", "(I)Z"⟩
abbrev cX11_isBed : ByteArray := prog_13_method_5_code
def yX11_isBed : MethodName := ⟨RX11, "isBed", "(I)Z"⟩
abbrev cX11_corner : ByteArray := prog_13_method_6_code
def yX11_corner : MethodName := ⟨RX11, "corner", "(IIII)I"⟩
abbrev cX11_below : ByteArray := prog_13_method_7_code
def yX11_below : MethodName := ⟨RX11, "below", "(II)Z"⟩
abbrev cX11_roof : ByteArray := prog_13_method_8_code
def yX11_roof : MethodName := ⟨RX11, "roof", "(IIII)I"⟩
abbrev cX11_lot : ByteArray := prog_13_method_9_code
def yX11_lot : MethodName := ⟨RX11, "lot", "(II)Z"⟩
abbrev cX11_parked : ByteArray := prog_13_method_10_code
def yX11_parked : MethodName := ⟨RX11, "parked", "(I)I"⟩
abbrev cX11_bed : ByteArray := prog_13_method_11_code
def yX11_bed : MethodName := ⟨RX11, "bed", "(IIIZ)Z"⟩
abbrev cX11_drinkBy : ByteArray := prog_13_method_12_code
def yX11_drinkBy : MethodName := ⟨RX11, "drinkBy", "(II)I"⟩
abbrev cX11_drink : ByteArray := prog_13_method_13_code
def yX11_drink : MethodName := ⟨RX11, "drink", "(I)I"⟩
abbrev cX11_care : ByteArray := prog_13_method_14_code
def yX11_care : MethodName := ⟨RX11, "care", "(II)Z"⟩
abbrev cX11_treat : ByteArray := prog_13_method_15_code
def yX11_treat : MethodName := ⟨RX11, "treat", "(II)Z"⟩
abbrev cX11_ages : ByteArray := prog_13_method_16_code
def yX11_ages : MethodName := ⟨RX11, "ages", "(I)V"⟩
abbrev cX11_turns : ByteArray := prog_13_method_17_code
def yX11_turns : MethodName := ⟨RX11, "turns", "()V"⟩
abbrev cX11_pass : ByteArray := prog_13_method_18_code
def yX11_pass : MethodName := ⟨RX11, "pass", "(I)I"⟩
abbrev cX11_rain : ByteArray := prog_13_method_19_code
def yX11_rain : MethodName := ⟨RX11, "rain", "(I)I"⟩
abbrev cX11_clear : ByteArray := prog_13_method_20_code
def yX11_clear : MethodName := ⟨RX11, "clear", "()I"⟩
abbrev cX11_falls : ByteArray := prog_13_method_21_code
def yX11_falls : MethodName := ⟨RX11, "falls", "(I)V"⟩
abbrev cX11_minute : ByteArray := prog_13_method_22_code
def yX11_minute : MethodName := ⟨RX11, "minute", "(II)V"⟩
abbrev cX11_roofsGive : ByteArray := prog_13_method_23_code
def yX11_roofsGive : MethodName := ⟨RX11, "roofsGive", "(II)J"⟩
abbrev cX11_storm : ByteArray := prog_13_method_24_code
def yX11_storm : MethodName := ⟨RX11, "storm", "()I"⟩
abbrev cX11_isNew : ByteArray := prog_13_method_25_code
def yX11_isNew : MethodName := ⟨RX11, "isNew", "(I)Z"⟩
abbrev cX11_tried : ByteArray := prog_13_method_26_code
def yX11_tried : MethodName := ⟨RX11, "tried", "(II)J"⟩
abbrev cX11_bits : ByteArray := prog_13_method_27_code
def yX11_bits : MethodName := ⟨RX11, "bits", "(I)I"⟩
abbrev cX11_best : ByteArray := prog_13_method_28_code
def yX11_best : MethodName := ⟨RX11, "best", "(IIII)J"⟩
abbrev cX11_helps : ByteArray := prog_13_method_29_code
def yX11_helps : MethodName := ⟨RX11, "helps", "(II)J"⟩
abbrev cX11_told : ByteArray := prog_13_method_30_code
def yX11_told : MethodName := ⟨RX11, "told", "(II)I"⟩
abbrev cX11_bedOf : ByteArray := prog_13_method_31_code
def yX11_bedOf : MethodName := ⟨RX11, "bedOf", "(II)I"⟩
abbrev cX11_roofOf : ByteArray := prog_13_method_32_code
def yX11_roofOf : MethodName := ⟨RX11, "roofOf", "(II)I"⟩
abbrev cX11_prove : ByteArray := prog_13_method_33_code
def yX11_prove : MethodName := ⟨RX11, "prove", "(I)Z"⟩
abbrev cX11_stormOf : ByteArray := prog_13_method_34_code
def yX11_stormOf : MethodName := ⟨RX11, "stormOf", "(II)J"⟩
abbrev cX11_like : ByteArray := prog_13_method_35_code
def yX11_like : MethodName := ⟨RX11, "like", "(II)I"⟩
abbrev cX11_compare : ByteArray := prog_13_method_36_code
def yX11_compare : MethodName := ⟨RX11, "compare", "(II)J"⟩
abbrev cX11_crew : ByteArray := prog_13_method_37_code
def yX11_crew : MethodName := ⟨RX11, "crew", "(II)I"⟩
abbrev cX11_neighbour : ByteArray := prog_13_method_38_code
def yX11_neighbour : MethodName := ⟨RX11, "neighbour", "(II)I"⟩
abbrev cX11_fee : ByteArray := prog_13_method_39_code
def yX11_fee : MethodName := ⟨RX11, "fee", "(II)I"⟩
abbrev cX11_look : ByteArray := prog_13_method_40_code
def yX11_look : MethodName := ⟨RX11, "look", "(II)I"⟩
abbrev cX11_worst : ByteArray := prog_13_method_41_code
def yX11_worst : MethodName := ⟨RX11, "worst", "(I)I"⟩
abbrev cX11_complain : ByteArray := prog_13_method_42_code
def yX11_complain : MethodName := ⟨RX11, "complain", "(II)I"⟩
abbrev cX11_close : ByteArray := prog_13_method_43_code
def yX11_close : MethodName := ⟨RX11, "close", "(I)Z"⟩
abbrev cX11_complaint : ByteArray := prog_13_method_44_code
def yX11_complaint : MethodName := ⟨RX11, "complaint", "(II)I"⟩
abbrev cX11_feed : ByteArray := prog_13_method_45_code
def yX11_feed : MethodName := ⟨RX11, "feed", "(IIIII)I"⟩
abbrev cX11_four : ByteArray := prog_13_method_46_code
def yX11_four : MethodName := ⟨RX11, "four", "(I)V"⟩
abbrev cX11_blanks : ByteArray := prog_13_method_47_code
def yX11_blanks : MethodName := ⟨RX11, "blanks", "()V"⟩
abbrev cX11_takes : ByteArray := prog_13_method_48_code
def yX11_takes : MethodName := ⟨RX11, "takes", "(J)Z"⟩
abbrev cX11_takesNumber : ByteArray := prog_13_method_49_code
def yX11_takesNumber : MethodName := ⟨RX11, "takesNumber", "(II)Z"⟩
abbrev cX11_takesPlain : ByteArray := prog_13_method_50_code
def yX11_takesPlain : MethodName := ⟨RX11, "takesPlain", "()Z"⟩
abbrev cX11_turnsIn : ByteArray := prog_13_method_51_code
def yX11_turnsIn : MethodName := ⟨RX11, "turnsIn", "(I)Z"⟩
abbrev cX11_grades : ByteArray := prog_13_method_52_code
def yX11_grades : MethodName := ⟨RX11, "grades", "(I)Z"⟩
abbrev cX11_row : ByteArray := prog_13_method_53_code
def yX11_row : MethodName := ⟨RX11, "row", "(IIJJ)Z"⟩
abbrev cX11_others : ByteArray := prog_13_method_54_code
def yX11_others : MethodName := ⟨RX11, "others", "(I)Z"⟩
abbrev cX11_statement : ByteArray := prog_13_method_55_code
def yX11_statement : MethodName := ⟨RX11, "statement", "(I)Z"⟩
abbrev cX11_rules : ByteArray := prog_13_method_56_code
def yX11_rules : MethodName := ⟨RX11, "rules", "(I)I"⟩
abbrev cX11_fault : ByteArray := prog_13_method_57_code
def yX11_fault : MethodName := ⟨RX11, "fault", "()I"⟩
abbrev cX11_inForce : ByteArray := prog_13_method_58_code
def yX11_inForce : MethodName := ⟨RX11, "inForce", "(I)I"⟩
abbrev cX11_plain : ByteArray := prog_13_method_59_code
def yX11_plain : MethodName := ⟨RX11, "plain", "(I)I"⟩
abbrev cX11_lawOn : ByteArray := prog_13_method_60_code
def yX11_lawOn : MethodName := ⟨RX11, "lawOn", "(II)I"⟩
abbrev cX11_now : ByteArray := prog_13_method_61_code
def yX11_now : MethodName := ⟨RX11, "now", "(I)I"⟩
abbrev cX11_isTurn : ByteArray := prog_13_method_62_code
def yX11_isTurn : MethodName := ⟨RX11, "isTurn", "(II)Z"⟩
abbrev cX11_law : ByteArray := prog_13_method_63_code
def yX11_law : MethodName := ⟨RX11, "law", "(II)I"⟩
abbrev cX11_turn : ByteArray := prog_13_method_64_code
def yX11_turn : MethodName := ⟨RX11, "turn", "(III)I"⟩
abbrev cX11_sum : ByteArray := prog_13_method_65_code
def yX11_sum : MethodName := ⟨RX11, "sum", "(I)J"⟩
abbrev cX11_count : ByteArray := prog_13_method_66_code
def yX11_count : MethodName := ⟨RX11, "count", "(I)I"⟩
def RJx145de : String := "java/io/Serializable"
def TJx145de : u_T := fun k => match k with
  | _ => ("", "", "", false)
def tyJx145de : Nat → FieldType := fun k => match k with
  | _ => .int
theorem nmJx145de : ∀ a, a < 0 → ∀ b, b < 0 → a ≠ b → (TJx145de a).2.1 ≠ (TJx145de b).2.1 := by decide +kernel
theorem tyJx145de_ok : ∀ k, k < 0 → parseFieldDescriptor (TJx145de k).2.2.1 = some (tyJx145de k) := by decide +kernel
def RJx9f9b0 : String := "java/lang/CharSequence"
def TJx9f9b0 : u_T := fun k => match k with
  | _ => ("", "", "", false)
def tyJx9f9b0 : Nat → FieldType := fun k => match k with
  | _ => .int
theorem nmJx9f9b0 : ∀ a, a < 0 → ∀ b, b < 0 → a ≠ b → (TJx9f9b0 a).2.1 ≠ (TJx9f9b0 b).2.1 := by decide +kernel
theorem tyJx9f9b0_ok : ∀ k, k < 0 → parseFieldDescriptor (TJx9f9b0 k).2.2.1 = some (tyJx9f9b0 k) := by decide +kernel
def RJx8e188 : String := "java/lang/Cloneable"
def TJx8e188 : u_T := fun k => match k with
  | _ => ("", "", "", false)
def tyJx8e188 : Nat → FieldType := fun k => match k with
  | _ => .int
theorem nmJx8e188 : ∀ a, a < 0 → ∀ b, b < 0 → a ≠ b → (TJx8e188 a).2.1 ≠ (TJx8e188 b).2.1 := by decide +kernel
theorem tyJx8e188_ok : ∀ k, k < 0 → parseFieldDescriptor (TJx8e188 k).2.2.1 = some (tyJx8e188 k) := by decide +kernel
def RJxb160c : String := "java/lang/Comparable"
def TJxb160c : u_T := fun k => match k with
  | _ => ("", "", "", false)
def tyJxb160c : Nat → FieldType := fun k => match k with
  | _ => .int
theorem nmJxb160c : ∀ a, a < 0 → ∀ b, b < 0 → a ≠ b → (TJxb160c a).2.1 ≠ (TJxb160c b).2.1 := by decide +kernel
theorem tyJxb160c_ok : ∀ k, k < 0 → parseFieldDescriptor (TJxb160c k).2.2.1 = some (tyJxb160c k) := by decide +kernel
def RJ6 : String := "java/lang/Integer"
def TJ6 : u_T := fun k => match k with
  | _ => ("", "", "", false)
def tyJ6 : Nat → FieldType := fun k => match k with
  | _ => .int
theorem nmJ6 : ∀ a, a < 0 → ∀ b, b < 0 → a ≠ b → (TJ6 a).2.1 ≠ (TJ6 b).2.1 := by decide +kernel
theorem tyJ6_ok : ∀ k, k < 0 → parseFieldDescriptor (TJ6 k).2.2.1 = some (tyJ6 k) := by decide +kernel
abbrev cJ6_bitCount_0f7a4 : ByteArray := prog_18_method_49_code
def yJ6_bitCount_0f7a4 : MethodName := ⟨RJ6, "bitCount", "(I)I"⟩
def RJxab1ab : String := "java/lang/Iterable"
def TJxab1ab : u_T := fun k => match k with
  | _ => ("", "", "", false)
def tyJxab1ab : Nat → FieldType := fun k => match k with
  | _ => .int
theorem nmJxab1ab : ∀ a, a < 0 → ∀ b, b < 0 → a ≠ b → (TJxab1ab a).2.1 ≠ (TJxab1ab b).2.1 := by decide +kernel
theorem tyJxab1ab_ok : ∀ k, k < 0 → parseFieldDescriptor (TJxab1ab k).2.2.1 = some (tyJxab1ab k) := by decide +kernel
def RJ9 : String := "java/lang/Math"
def TJ9 : u_T := fun k => match k with
  | _ => ("", "", "", false)
def tyJ9 : Nat → FieldType := fun k => match k with
  | _ => .int
theorem nmJ9 : ∀ a, a < 0 → ∀ b, b < 0 → a ≠ b → (TJ9 a).2.1 ≠ (TJ9 b).2.1 := by decide +kernel
theorem tyJ9_ok : ∀ k, k < 0 → parseFieldDescriptor (TJ9 k).2.2.1 = some (tyJ9 k) := by decide +kernel
abbrev cJ9_abs_067f4 : ByteArray := prog_20_method_61_code
def yJ9_abs_067f4 : MethodName := ⟨RJ9, "abs", "(J)J"⟩
abbrev cJ9_max_7cf53 : ByteArray := prog_20_method_65_code
def yJ9_max_7cf53 : MethodName := ⟨RJ9, "max", "(II)I"⟩
abbrev cJ9_max_f86c9 : ByteArray := prog_20_method_66_code
def yJ9_max_f86c9 : MethodName := ⟨RJ9, "max", "(JJ)J"⟩
abbrev cJ9_min_7cf53 : ByteArray := prog_20_method_69_code
def yJ9_min_7cf53 : MethodName := ⟨RJ9, "min", "(II)I"⟩
abbrev cJ9_min_f86c9 : ByteArray := prog_20_method_70_code
def yJ9_min_f86c9 : MethodName := ⟨RJ9, "min", "(JJ)J"⟩
def RJ0 : String := "java/lang/String"
def TJ0 : u_T := fun k => match k with
  | _ => ("", "", "", false)
def tyJ0 : Nat → FieldType := fun k => match k with
  | _ => .int
theorem nmJ0 : ∀ a, a < 0 → ∀ b, b < 0 → a ≠ b → (TJ0 a).2.1 ≠ (TJ0 b).2.1 := by decide +kernel
theorem tyJ0_ok : ∀ k, k < 0 → parseFieldDescriptor (TJ0 k).2.2.1 = some (tyJ0 k) := by decide +kernel
abbrev cJ0_length_8abf5 : ByteArray := prog_21_method_54_code
def yJ0_length_8abf5 : MethodName := ⟨RJ0, "length", "()I"⟩
abbrev cJ0_charAt_5068e : ByteArray := prog_21_method_56_code
def yJ0_charAt_5068e : MethodName := ⟨RJ0, "charAt", "(I)C"⟩
abbrev cJ0_coder_7d493 : ByteArray := prog_21_method_152_code
def yJ0_coder_7d493 : MethodName := ⟨RJ0, "coder", "()B"⟩
abbrev cJ0_isLatin1_aae02 : ByteArray := prog_21_method_154_code
def yJ0_isLatin1_aae02 : MethodName := ⟨RJ0, "isLatin1", "()Z"⟩
abbrev cJ0_checkIndex_df160 : ByteArray := prog_21_method_155_code
def yJ0_checkIndex_df160 : MethodName := ⟨RJ0, "checkIndex", "(II)V"⟩
def RJ1 : String := "java/lang/StringLatin1"
def TJ1 : u_T := fun k => match k with
  | _ => ("", "", "", false)
def tyJ1 : Nat → FieldType := fun k => match k with
  | _ => .int
theorem nmJ1 : ∀ a, a < 0 → ∀ b, b < 0 → a ≠ b → (TJ1 a).2.1 ≠ (TJ1 b).2.1 := by decide +kernel
theorem tyJ1_ok : ∀ k, k < 0 → parseFieldDescriptor (TJ1 k).2.2.1 = some (tyJ1 k) := by decide +kernel
abbrev cJ1_charAt_3b067 : ByteArray := prog_22_method_2_code
def yJ1_charAt_3b067 : MethodName := ⟨RJ1, "charAt", "([BI)C"⟩
def RJ2 : String := "java/lang/StringUTF16"
def TJ2 : u_T := fun k => match k with
  | _ => ("", "", "", false)
def tyJ2 : Nat → FieldType := fun k => match k with
  | _ => .int
theorem nmJ2 : ∀ a, a < 0 → ∀ b, b < 0 → a ≠ b → (TJ2 a).2.1 ≠ (TJ2 b).2.1 := by decide +kernel
theorem tyJ2_ok : ∀ k, k < 0 → parseFieldDescriptor (TJ2 k).2.2.1 = some (tyJ2 k) := by decide +kernel
abbrev cJ2_getChar_3b067 : ByteArray := prog_23_method_5_code
def yJ2_getChar_3b067 : MethodName := ⟨RJ2, "getChar", "([BI)C"⟩
abbrev cJ2_length_9d52b : ByteArray := prog_23_method_6_code
def yJ2_length_9d52b : MethodName := ⟨RJ2, "length", "([B)I"⟩
abbrev cJ2_charAt_3b067 : ByteArray := prog_23_method_83_code
def yJ2_charAt_3b067 : MethodName := ⟨RJ2, "charAt", "([BI)C"⟩
abbrev cJ2_checkIndex_2214a : ByteArray := prog_23_method_91_code
def yJ2_checkIndex_2214a : MethodName := ⟨RJ2, "checkIndex", "(I[B)V"⟩
def RJ10 : String := "java/lang/System"
def TJ10 : u_T := fun k => match k with
  | _ => ("", "", "", false)
def tyJ10 : Nat → FieldType := fun k => match k with
  | _ => .int
theorem nmJ10 : ∀ a, a < 0 → ∀ b, b < 0 → a ≠ b → (TJ10 a).2.1 ≠ (TJ10 b).2.1 := by decide +kernel
theorem tyJ10_ok : ∀ k, k < 0 → parseFieldDescriptor (TJ10 k).2.2.1 = some (tyJ10 k) := by decide +kernel
def RJxfd54e : String := "java/lang/constant/Constable"
def TJxfd54e : u_T := fun k => match k with
  | _ => ("", "", "", false)
def tyJxfd54e : Nat → FieldType := fun k => match k with
  | _ => .int
theorem nmJxfd54e : ∀ a, a < 0 → ∀ b, b < 0 → a ≠ b → (TJxfd54e a).2.1 ≠ (TJxfd54e b).2.1 := by decide +kernel
theorem tyJxfd54e_ok : ∀ k, k < 0 → parseFieldDescriptor (TJxfd54e k).2.2.1 = some (tyJxfd54e k) := by decide +kernel
def RJx3cf43 : String := "java/lang/constant/ConstantDesc"
def TJx3cf43 : u_T := fun k => match k with
  | _ => ("", "", "", false)
def tyJx3cf43 : Nat → FieldType := fun k => match k with
  | _ => .int
theorem nmJx3cf43 : ∀ a, a < 0 → ∀ b, b < 0 → a ≠ b → (TJx3cf43 a).2.1 ≠ (TJx3cf43 b).2.1 := by decide +kernel
theorem tyJx3cf43_ok : ∀ k, k < 0 → parseFieldDescriptor (TJx3cf43 k).2.2.1 = some (tyJx3cf43 k) := by decide +kernel
def RJxa1e45 : String := "java/util/AbstractCollection"
def TJxa1e45 : u_T := fun k => match k with
  | _ => ("", "", "", false)
def tyJxa1e45 : Nat → FieldType := fun k => match k with
  | _ => .int
theorem nmJxa1e45 : ∀ a, a < 0 → ∀ b, b < 0 → a ≠ b → (TJxa1e45 a).2.1 ≠ (TJxa1e45 b).2.1 := by decide +kernel
theorem tyJxa1e45_ok : ∀ k, k < 0 → parseFieldDescriptor (TJxa1e45 k).2.2.1 = some (tyJxa1e45 k) := by decide +kernel
abbrev cJxa1e45_init_da8c8 : ByteArray := prog_27_method_1_code
def yJxa1e45_init_da8c8 : MethodName := ⟨RJxa1e45, "<init>", "()V"⟩
def RJxc12de : String := "java/util/AbstractList"
def TJxc12de : u_T := fun k => match k with
  | _ => ("", "", "", false)
def tyJxc12de : Nat → FieldType := fun k => match k with
  | _ => .int
theorem nmJxc12de : ∀ a, a < 0 → ∀ b, b < 0 → a ≠ b → (TJxc12de a).2.1 ≠ (TJxc12de b).2.1 := by decide +kernel
theorem tyJxc12de_ok : ∀ k, k < 0 → parseFieldDescriptor (TJxc12de k).2.2.1 = some (tyJxc12de k) := by decide +kernel
abbrev cJxc12de_init_da8c8 : ByteArray := prog_28_method_1_code
def yJxc12de_init_da8c8 : MethodName := ⟨RJxc12de, "<init>", "()V"⟩
def RJx4a65c : String := "java/util/ArrayList"
def TJx4a65c : u_T := fun k => match k with
  | 0 => ("java/util/AbstractList", "modCount", "I", false)
  | 1 => ("java/util/ArrayList", "elementData", "[Ljava/lang/Object;", false)
  | _ => ("java/util/ArrayList", "size", "I", false)
def tyJx4a65c : Nat → FieldType := fun k => match k with
  | 0 => .int
  | 1 => .array (.object "java/lang/Object")
  | _ => .int
theorem nmJx4a65c : ∀ a, a < 3 → ∀ b, b < 3 → a ≠ b → (TJx4a65c a).2.1 ≠ (TJx4a65c b).2.1 := by decide +kernel
theorem tyJx4a65c_ok : ∀ k, k < 3 → parseFieldDescriptor (TJx4a65c k).2.2.1 = some (tyJx4a65c k) := by decide +kernel
abbrev cJx4a65c_init_da8c8 : ByteArray := prog_29_method_2_code
def yJx4a65c_init_da8c8 : MethodName := ⟨RJx4a65c, "<init>", "()V"⟩
abbrev cJx4a65c_grow_92f84 : ByteArray := prog_29_method_6_code
def yJx4a65c_grow_92f84 : MethodName := ⟨RJx4a65c, "grow", "(I)[Ljava/lang/Object;"⟩
abbrev cJx4a65c_grow_d5877 : ByteArray := prog_29_method_7_code
def yJx4a65c_grow_d5877 : MethodName := ⟨RJx4a65c, "grow", "()[Ljava/lang/Object;"⟩
abbrev cJx4a65c_size_8abf5 : ByteArray := prog_29_method_8_code
def yJx4a65c_size_8abf5 : MethodName := ⟨RJx4a65c, "size", "()I"⟩
abbrev cJx4a65c_elementData_915e3 : ByteArray := prog_29_method_18_code
def yJx4a65c_elementData_915e3 : MethodName := ⟨RJx4a65c, "elementData", "(I)Ljava/lang/Object;"⟩
abbrev cJx4a65c_get_915e3 : ByteArray := prog_29_method_20_code
def yJx4a65c_get_915e3 : MethodName := ⟨RJx4a65c, "get", "(I)Ljava/lang/Object;"⟩
abbrev cJx4a65c_add_72be8 : ByteArray := prog_29_method_24_code
def yJx4a65c_add_72be8 : MethodName := ⟨RJx4a65c, "add", "(Ljava/lang/Object;[Ljava/lang/Object;I)V"⟩
abbrev cJx4a65c_add_9ea2d : ByteArray := prog_29_method_25_code
def yJx4a65c_add_9ea2d : MethodName := ⟨RJx4a65c, "add", "(Ljava/lang/Object;)Z"⟩
def RJ7 : String := "java/util/Arrays"
def TJ7 : u_T := fun k => match k with
  | _ => ("", "", "", false)
def tyJ7 : Nat → FieldType := fun k => match k with
  | _ => .int
theorem nmJ7 : ∀ a, a < 0 → ∀ b, b < 0 → a ≠ b → (TJ7 a).2.1 ≠ (TJ7 b).2.1 := by decide +kernel
theorem tyJ7_ok : ∀ k, k < 0 → parseFieldDescriptor (TJ7 k).2.2.1 = some (tyJ7 k) := by decide +kernel
abbrev cJ7_fill_53178 : ByteArray := prog_30_method_103_code
def yJ7_fill_53178 : MethodName := ⟨RJ7, "fill", "([II)V"⟩
abbrev cJ7_copyOf_1904c : ByteArray := prog_30_method_119_code
def yJ7_copyOf_1904c : MethodName := ⟨RJ7, "copyOf", "([Ljava/lang/Object;I)[Ljava/lang/Object;"⟩
abbrev cJ7_copyOf_6403c : ByteArray := prog_30_method_120_code
def yJ7_copyOf_6403c : MethodName := ⟨RJ7, "copyOf", "([Ljava/lang/Object;ILjava/lang/Class;)[Ljava/lang/Object;"⟩
def RJx5ef63 : String := "java/util/Collection"
def TJx5ef63 : u_T := fun k => match k with
  | _ => ("", "", "", false)
def tyJx5ef63 : Nat → FieldType := fun k => match k with
  | _ => .int
theorem nmJx5ef63 : ∀ a, a < 0 → ∀ b, b < 0 → a ≠ b → (TJx5ef63 a).2.1 ≠ (TJx5ef63 b).2.1 := by decide +kernel
theorem tyJx5ef63_ok : ∀ k, k < 0 → parseFieldDescriptor (TJx5ef63 k).2.2.1 = some (tyJx5ef63 k) := by decide +kernel
def RJxbd725 : String := "java/util/List"
def TJxbd725 : u_T := fun k => match k with
  | _ => ("", "", "", false)
def tyJxbd725 : Nat → FieldType := fun k => match k with
  | _ => .int
theorem nmJxbd725 : ∀ a, a < 0 → ∀ b, b < 0 → a ≠ b → (TJxbd725 a).2.1 ≠ (TJxbd725 b).2.1 := by decide +kernel
theorem tyJxbd725_ok : ∀ k, k < 0 → parseFieldDescriptor (TJxbd725 k).2.2.1 = some (tyJxbd725 k) := by decide +kernel
def RJ15 : String := "java/util/Objects"
def TJ15 : u_T := fun k => match k with
  | _ => ("", "", "", false)
def tyJ15 : Nat → FieldType := fun k => match k with
  | _ => .int
theorem nmJ15 : ∀ a, a < 0 → ∀ b, b < 0 → a ≠ b → (TJ15 a).2.1 ≠ (TJ15 b).2.1 := by decide +kernel
theorem tyJ15_ok : ∀ k, k < 0 → parseFieldDescriptor (TJ15 k).2.2.1 = some (tyJ15 k) := by decide +kernel
abbrev cJ15_checkIndex_7cf53 : ByteArray := prog_33_method_17_code
def yJ15_checkIndex_7cf53 : MethodName := ⟨RJ15, "checkIndex", "(II)I"⟩
def RJxf0a74 : String := "java/util/RandomAccess"
def TJxf0a74 : u_T := fun k => match k with
  | _ => ("", "", "", false)
def tyJxf0a74 : Nat → FieldType := fun k => match k with
  | _ => .int
theorem nmJxf0a74 : ∀ a, a < 0 → ∀ b, b < 0 → a ≠ b → (TJxf0a74 a).2.1 ≠ (TJxf0a74 b).2.1 := by decide +kernel
theorem tyJxf0a74_ok : ∀ k, k < 0 → parseFieldDescriptor (TJxf0a74 k).2.2.1 = some (tyJxf0a74 k) := by decide +kernel
def RJxa66e6 : String := "java/util/SequencedCollection"
def TJxa66e6 : u_T := fun k => match k with
  | _ => ("", "", "", false)
def tyJxa66e6 : Nat → FieldType := fun k => match k with
  | _ => .int
theorem nmJxa66e6 : ∀ a, a < 0 → ∀ b, b < 0 → a ≠ b → (TJxa66e6 a).2.1 ≠ (TJxa66e6 b).2.1 := by decide +kernel
theorem tyJxa66e6_ok : ∀ k, k < 0 → parseFieldDescriptor (TJxa66e6 k).2.2.1 = some (tyJxa66e6 k) := by decide +kernel
def RJ8 : String := "jdk/internal/util/ArraysSupport"
def TJ8 : u_T := fun k => match k with
  | _ => ("", "", "", false)
def tyJ8 : Nat → FieldType := fun k => match k with
  | _ => .int
theorem nmJ8 : ∀ a, a < 0 → ∀ b, b < 0 → a ≠ b → (TJ8 a).2.1 ≠ (TJ8 b).2.1 := by decide +kernel
theorem tyJ8_ok : ∀ k, k < 0 → parseFieldDescriptor (TJ8 k).2.2.1 = some (tyJ8 k) := by decide +kernel
abbrev cJ8_newLength_cabcc : ByteArray := prog_36_method_27_code
def yJ8_newLength_cabcc : MethodName := ⟨RJ8, "newLength", "(III)I"⟩
abbrev cJ8_hugeLength_7cf53 : ByteArray := prog_36_method_28_code
def yJ8_hugeLength_7cf53 : MethodName := ⟨RJ8, "hugeLength", "(II)I"⟩
def RJ3 : String := "jdk/internal/util/Preconditions"
def TJ3 : u_T := fun k => match k with
  | _ => ("", "", "", false)
def tyJ3 : Nat → FieldType := fun k => match k with
  | _ => .int
theorem nmJ3 : ∀ a, a < 0 → ∀ b, b < 0 → a ≠ b → (TJ3 a).2.1 ≠ (TJ3 b).2.1 := by decide +kernel
theorem tyJ3_ok : ∀ k, k < 0 → parseFieldDescriptor (TJ3 k).2.2.1 = some (tyJ3 k) := by decide +kernel
abbrev cJ3_checkIndex_8e157 : ByteArray := prog_37_method_11_code
def yJ3_checkIndex_8e157 : MethodName := ⟨RJ3, "checkIndex", "(IILjava/util/function/BiFunction;)I"⟩
def RL : String := "RainStreetsLaw"
abbrev cL_law : ByteArray := code
def yL_law : MethodName := ⟨RL, "law", "([I)Z"⟩
abbrev vwCl : List vw_C := [(RJx4a65c, TJx4a65c, 3), (RX0, TX0, 12), (RX1, TX1, 6), (RX2, TX2, 9), (RX3, TX3, 9), (RX4, TX4, 4), (RX5, TX5, 15), (RX6, TX6, 7), (RX7, TX7, 6), (RX8, TX8, 5), (RX9, TX9, 4), (RX10, TX10, 18), (RX11, TX11, 82)]
