section
-- ===== PART A: goes FIRST, ahead of the names: the tables' words, and 'selects' of the private methods out of them =====
/-- a private method of a class that the tables say can be made, by its rows of tables_1 -/
def lw_okq (q : MethodName × Nat) : Prop := (q.1.cls ≠ "java/lang/invoke/MethodHandle" ∧ q.1.cls ≠ "java/lang/invoke/VarHandle") ∧ Cond.instantiable q.1.cls q.2 ∈ tables_1 ∧ Cond.privateMethod q.1 ∈ tables_1 ∧ Cond.instanceMethod q.1 ∈ tables_1
theorem lw_p0 : lw_okq (⟨"CellarMeter$Household", "spread", "(JI)J"⟩, 8) := ⟨⟨by decide +kernel, by decide +kernel⟩, List.mem_of_getElem? (i := 31) (by decide +kernel), List.mem_of_getElem? (i := 308) (by decide +kernel), List.mem_of_getElem? (i := 309) (by decide +kernel)⟩
theorem lw_p1 : lw_okq (⟨"CellarMeter$Household", "addRows", "(III)V"⟩, 8) := ⟨⟨by decide +kernel, by decide +kernel⟩, List.mem_of_getElem? (i := 31) (by decide +kernel), List.mem_of_getElem? (i := 312) (by decide +kernel), List.mem_of_getElem? (i := 313) (by decide +kernel)⟩
theorem lw_p2 : lw_okq (⟨"CellarMeter", "heldHouse", "()LCellarMeter$House;"⟩, 16) := ⟨⟨by decide +kernel, by decide +kernel⟩, List.mem_of_getElem? (i := 23) (by decide +kernel), List.mem_of_getElem? (i := 351) (by decide +kernel), List.mem_of_getElem? (i := 352) (by decide +kernel)⟩
theorem lw_p3 : lw_okq (⟨"CellarMeter$HouseReader", "readClause", "()V"⟩, 4) := ⟨⟨by decide +kernel, by decide +kernel⟩, List.mem_of_getElem? (i := 85) (by decide +kernel), List.mem_of_getElem? (i := 395) (by decide +kernel), List.mem_of_getElem? (i := 396) (by decide +kernel)⟩
theorem lw_p4 : lw_okq (⟨"CellarMeter$HouseReader", "readWord", "(Ljava/lang/String;)V"⟩, 4) := ⟨⟨by decide +kernel, by decide +kernel⟩, List.mem_of_getElem? (i := 85) (by decide +kernel), List.mem_of_getElem? (i := 404) (by decide +kernel), List.mem_of_getElem? (i := 405) (by decide +kernel)⟩
theorem lw_p5 : lw_okq (⟨"CellarMeter$HouseReader", "readSign", "(I)V"⟩, 4) := ⟨⟨by decide +kernel, by decide +kernel⟩, List.mem_of_getElem? (i := 85) (by decide +kernel), List.mem_of_getElem? (i := 456) (by decide +kernel), List.mem_of_getElem? (i := 457) (by decide +kernel)⟩
theorem lw_p6 : lw_okq (⟨"CellarMeter$HouseReader", "readEither", "(I)V"⟩, 4) := ⟨⟨by decide +kernel, by decide +kernel⟩, List.mem_of_getElem? (i := 85) (by decide +kernel), List.mem_of_getElem? (i := 460) (by decide +kernel), List.mem_of_getElem? (i := 461) (by decide +kernel)⟩
theorem lw_p7 : lw_okq (⟨"CellarMeter$HouseReader", "readBoth", "(I)V"⟩, 4) := ⟨⟨by decide +kernel, by decide +kernel⟩, List.mem_of_getElem? (i := 85) (by decide +kernel), List.mem_of_getElem? (i := 464) (by decide +kernel), List.mem_of_getElem? (i := 465) (by decide +kernel)⟩
theorem lw_p8 : lw_okq (⟨"CellarMeter$HouseReader", "readSingle", "(I)V"⟩, 4) := ⟨⟨by decide +kernel, by decide +kernel⟩, List.mem_of_getElem? (i := 85) (by decide +kernel), List.mem_of_getElem? (i := 468) (by decide +kernel), List.mem_of_getElem? (i := 469) (by decide +kernel)⟩
theorem lw_p9 : lw_okq (⟨"CellarMeter$HouseReader", "readTest", "()V"⟩, 4) := ⟨⟨by decide +kernel, by decide +kernel⟩, List.mem_of_getElem? (i := 85) (by decide +kernel), List.mem_of_getElem? (i := 472) (by decide +kernel), List.mem_of_getElem? (i := 473) (by decide +kernel)⟩
theorem lw_p10 : lw_okq (⟨"CellarMeter$HouseReader", "readOneOf", "(Ljava/lang/String;)I"⟩, 4) := ⟨⟨by decide +kernel, by decide +kernel⟩, List.mem_of_getElem? (i := 85) (by decide +kernel), List.mem_of_getElem? (i := 477) (by decide +kernel), List.mem_of_getElem? (i := 478) (by decide +kernel)⟩
theorem lw_p11 : lw_okq (⟨"CellarMeter$HouseReader", "readNumber", "(I)I"⟩, 4) := ⟨⟨by decide +kernel, by decide +kernel⟩, List.mem_of_getElem? (i := 85) (by decide +kernel), List.mem_of_getElem? (i := 482) (by decide +kernel), List.mem_of_getElem? (i := 483) (by decide +kernel)⟩
theorem lw_p12 : lw_okq (⟨"CellarMeter$HouseReader", "readNested", "(ZI)V"⟩, 4) := ⟨⟨by decide +kernel, by decide +kernel⟩, List.mem_of_getElem? (i := 85) (by decide +kernel), List.mem_of_getElem? (i := 498) (by decide +kernel), List.mem_of_getElem? (i := 499) (by decide +kernel)⟩
theorem lw_p13 : lw_okq (⟨"CellarMeter$HouseReader", "readTable", "(Z)V"⟩, 4) := ⟨⟨by decide +kernel, by decide +kernel⟩, List.mem_of_getElem? (i := 85) (by decide +kernel), List.mem_of_getElem? (i := 504) (by decide +kernel), List.mem_of_getElem? (i := 505) (by decide +kernel)⟩
theorem lw_p14 : lw_okq (⟨"CellarMeter", "meterAt", "(I)LCellarMeter$Meter;"⟩, 16) := ⟨⟨by decide +kernel, by decide +kernel⟩, List.mem_of_getElem? (i := 23) (by decide +kernel), List.mem_of_getElem? (i := 524) (by decide +kernel), List.mem_of_getElem? (i := 525) (by decide +kernel)⟩
theorem lw_p15 : lw_okq (⟨"CellarMeter", "laid", "()LCellarMeter$Telling;"⟩, 16) := ⟨⟨by decide +kernel, by decide +kernel⟩, List.mem_of_getElem? (i := 23) (by decide +kernel), List.mem_of_getElem? (i := 548) (by decide +kernel), List.mem_of_getElem? (i := 549) (by decide +kernel)⟩
def lw_privs_1 : List (MethodName × Nat) := [(⟨"CellarMeter$Household", "spread", "(JI)J"⟩, 8), (⟨"CellarMeter$Household", "addRows", "(III)V"⟩, 8), (⟨"CellarMeter", "heldHouse", "()LCellarMeter$House;"⟩, 16), (⟨"CellarMeter$HouseReader", "readClause", "()V"⟩, 4), (⟨"CellarMeter$HouseReader", "readWord", "(Ljava/lang/String;)V"⟩, 4), (⟨"CellarMeter$HouseReader", "readSign", "(I)V"⟩, 4), (⟨"CellarMeter$HouseReader", "readEither", "(I)V"⟩, 4), (⟨"CellarMeter$HouseReader", "readBoth", "(I)V"⟩, 4), (⟨"CellarMeter$HouseReader", "readSingle", "(I)V"⟩, 4), (⟨"CellarMeter$HouseReader", "readTest", "()V"⟩, 4), (⟨"CellarMeter$HouseReader", "readOneOf", "(Ljava/lang/String;)I"⟩, 4), (⟨"CellarMeter$HouseReader", "readNumber", "(I)I"⟩, 4), (⟨"CellarMeter$HouseReader", "readNested", "(ZI)V"⟩, 4), (⟨"CellarMeter$HouseReader", "readTable", "(Z)V"⟩, 4), (⟨"CellarMeter", "meterAt", "(I)LCellarMeter$Meter;"⟩, 16), (⟨"CellarMeter", "laid", "()LCellarMeter$Telling;"⟩, 16)]
theorem lw_r1 : ∀ q ∈ lw_privs_1, lw_okq q := List.forall_mem_cons.mpr ⟨lw_p0, List.forall_mem_cons.mpr ⟨lw_p1, List.forall_mem_cons.mpr ⟨lw_p2, List.forall_mem_cons.mpr ⟨lw_p3, List.forall_mem_cons.mpr ⟨lw_p4, List.forall_mem_cons.mpr ⟨lw_p5, List.forall_mem_cons.mpr ⟨lw_p6, List.forall_mem_cons.mpr ⟨lw_p7, List.forall_mem_cons.mpr ⟨lw_p8, List.forall_mem_cons.mpr ⟨lw_p9, List.forall_mem_cons.mpr ⟨lw_p10, List.forall_mem_cons.mpr ⟨lw_p11, List.forall_mem_cons.mpr ⟨lw_p12, List.forall_mem_cons.mpr ⟨lw_p13, List.forall_mem_cons.mpr ⟨lw_p14, List.forall_mem_cons.mpr ⟨lw_p15, fun _ h => absurd h List.not_mem_nil⟩⟩⟩⟩⟩⟩⟩⟩⟩⟩⟩⟩⟩⟩⟩⟩
theorem lw_p16 : lw_okq (⟨"CellarMeter$Telling", "near", "([IIII)J"⟩, 15) := ⟨⟨by decide +kernel, by decide +kernel⟩, List.mem_of_getElem? (i := 149) (by decide +kernel), List.mem_of_getElem? (i := 600) (by decide +kernel), List.mem_of_getElem? (i := 601) (by decide +kernel)⟩
theorem lw_p17 : lw_okq (⟨"CellarMeter$Telling", "countStep", "(I)V"⟩, 15) := ⟨⟨by decide +kernel, by decide +kernel⟩, List.mem_of_getElem? (i := 149) (by decide +kernel), List.mem_of_getElem? (i := 623) (by decide +kernel), List.mem_of_getElem? (i := 624) (by decide +kernel)⟩
theorem lw_p18 : lw_okq (⟨"CellarMeter$Telling", "reach", "()Z"⟩, 15) := ⟨⟨by decide +kernel, by decide +kernel⟩, List.mem_of_getElem? (i := 149) (by decide +kernel), List.mem_of_getElem? (i := 655) (by decide +kernel), List.mem_of_getElem? (i := 656) (by decide +kernel)⟩
theorem lw_p19 : lw_okq (⟨"CellarMeter$Household", "joined", "([JJ)J"⟩, 8) := ⟨⟨by decide +kernel, by decide +kernel⟩, List.mem_of_getElem? (i := 31) (by decide +kernel), List.mem_of_getElem? (i := 663) (by decide +kernel), List.mem_of_getElem? (i := 664) (by decide +kernel)⟩
theorem lw_p20 : lw_okq (⟨"CellarMeter$Telling", "findCheapest", "(I)I"⟩, 15) := ⟨⟨by decide +kernel, by decide +kernel⟩, List.mem_of_getElem? (i := 149) (by decide +kernel), List.mem_of_getElem? (i := 667) (by decide +kernel), List.mem_of_getElem? (i := 668) (by decide +kernel)⟩
theorem lw_p21 : lw_okq (⟨"CellarMeter$Telling", "trimBackTo", "(I)V"⟩, 15) := ⟨⟨by decide +kernel, by decide +kernel⟩, List.mem_of_getElem? (i := 149) (by decide +kernel), List.mem_of_getElem? (i := 671) (by decide +kernel), List.mem_of_getElem? (i := 672) (by decide +kernel)⟩
theorem lw_p22 : lw_okq (⟨"CellarMeter$Telling", "bestNext", "(III)I"⟩, 15) := ⟨⟨by decide +kernel, by decide +kernel⟩, List.mem_of_getElem? (i := 149) (by decide +kernel), List.mem_of_getElem? (i := 679) (by decide +kernel), List.mem_of_getElem? (i := 680) (by decide +kernel)⟩
theorem lw_p23 : lw_okq (⟨"CellarMeter$Telling", "costOf", "(IIII)I"⟩, 15) := ⟨⟨by decide +kernel, by decide +kernel⟩, List.mem_of_getElem? (i := 149) (by decide +kernel), List.mem_of_getElem? (i := 683) (by decide +kernel), List.mem_of_getElem? (i := 684) (by decide +kernel)⟩
theorem lw_p24 : lw_okq (⟨"CellarMeter", "areAlike", "(II)Z"⟩, 16) := ⟨⟨by decide +kernel, by decide +kernel⟩, List.mem_of_getElem? (i := 23) (by decide +kernel), List.mem_of_getElem? (i := 721) (by decide +kernel), List.mem_of_getElem? (i := 722) (by decide +kernel)⟩
theorem lw_p25 : lw_okq (⟨"CellarMeter", "tapeAt", "(I)LCellarMeter$Tape;"⟩, 16) := ⟨⟨by decide +kernel, by decide +kernel⟩, List.mem_of_getElem? (i := 23) (by decide +kernel), List.mem_of_getElem? (i := 765) (by decide +kernel), List.mem_of_getElem? (i := 766) (by decide +kernel)⟩
theorem lw_p26 : lw_okq (⟨"CellarMeter$Tape", "cut", "(J)J"⟩, 3) := ⟨⟨by decide +kernel, by decide +kernel⟩, List.mem_of_getElem? (i := 216) (by decide +kernel), List.mem_of_getElem? (i := 860) (by decide +kernel), List.mem_of_getElem? (i := 861) (by decide +kernel)⟩
theorem lw_p27 : lw_okq (⟨"CellarMeterModel", "in", "(III)Z"⟩, 45) := ⟨⟨by decide +kernel, by decide +kernel⟩, List.mem_of_getElem? (i := 881) (by decide +kernel), List.mem_of_getElem? (i := 1028) (by decide +kernel), List.mem_of_getElem? (i := 1029) (by decide +kernel)⟩
theorem lw_p28 : lw_okq (⟨"CellarMeterModel", "isThing", "(I)Z"⟩, 45) := ⟨⟨by decide +kernel, by decide +kernel⟩, List.mem_of_getElem? (i := 881) (by decide +kernel), List.mem_of_getElem? (i := 1036) (by decide +kernel), List.mem_of_getElem? (i := 1037) (by decide +kernel)⟩
theorem lw_p29 : lw_okq (⟨"CellarMeterModel", "isNext", "(III)Z"⟩, 45) := ⟨⟨by decide +kernel, by decide +kernel⟩, List.mem_of_getElem? (i := 881) (by decide +kernel), List.mem_of_getElem? (i := 1040) (by decide +kernel), List.mem_of_getElem? (i := 1041) (by decide +kernel)⟩
theorem lw_p30 : lw_okq (⟨"CellarMeterModel", "goes", "(I)Z"⟩, 45) := ⟨⟨by decide +kernel, by decide +kernel⟩, List.mem_of_getElem? (i := 881) (by decide +kernel), List.mem_of_getElem? (i := 1052) (by decide +kernel), List.mem_of_getElem? (i := 1053) (by decide +kernel)⟩
theorem lw_p31 : lw_okq (⟨"CellarMeterModel", "takesClause", "(I)Z"⟩, 45) := ⟨⟨by decide +kernel, by decide +kernel⟩, List.mem_of_getElem? (i := 881) (by decide +kernel), List.mem_of_getElem? (i := 1056) (by decide +kernel), List.mem_of_getElem? (i := 1057) (by decide +kernel)⟩
def lw_privs_2 : List (MethodName × Nat) := [(⟨"CellarMeter$Telling", "near", "([IIII)J"⟩, 15), (⟨"CellarMeter$Telling", "countStep", "(I)V"⟩, 15), (⟨"CellarMeter$Telling", "reach", "()Z"⟩, 15), (⟨"CellarMeter$Household", "joined", "([JJ)J"⟩, 8), (⟨"CellarMeter$Telling", "findCheapest", "(I)I"⟩, 15), (⟨"CellarMeter$Telling", "trimBackTo", "(I)V"⟩, 15), (⟨"CellarMeter$Telling", "bestNext", "(III)I"⟩, 15), (⟨"CellarMeter$Telling", "costOf", "(IIII)I"⟩, 15), (⟨"CellarMeter", "areAlike", "(II)Z"⟩, 16), (⟨"CellarMeter", "tapeAt", "(I)LCellarMeter$Tape;"⟩, 16), (⟨"CellarMeter$Tape", "cut", "(J)J"⟩, 3), (⟨"CellarMeterModel", "in", "(III)Z"⟩, 45), (⟨"CellarMeterModel", "isThing", "(I)Z"⟩, 45), (⟨"CellarMeterModel", "isNext", "(III)Z"⟩, 45), (⟨"CellarMeterModel", "goes", "(I)Z"⟩, 45), (⟨"CellarMeterModel", "takesClause", "(I)Z"⟩, 45)]
theorem lw_r2 : ∀ q ∈ lw_privs_2, lw_okq q := List.forall_mem_cons.mpr ⟨lw_p16, List.forall_mem_cons.mpr ⟨lw_p17, List.forall_mem_cons.mpr ⟨lw_p18, List.forall_mem_cons.mpr ⟨lw_p19, List.forall_mem_cons.mpr ⟨lw_p20, List.forall_mem_cons.mpr ⟨lw_p21, List.forall_mem_cons.mpr ⟨lw_p22, List.forall_mem_cons.mpr ⟨lw_p23, List.forall_mem_cons.mpr ⟨lw_p24, List.forall_mem_cons.mpr ⟨lw_p25, List.forall_mem_cons.mpr ⟨lw_p26, List.forall_mem_cons.mpr ⟨lw_p27, List.forall_mem_cons.mpr ⟨lw_p28, List.forall_mem_cons.mpr ⟨lw_p29, List.forall_mem_cons.mpr ⟨lw_p30, List.forall_mem_cons.mpr ⟨lw_p31, fun _ h => absurd h List.not_mem_nil⟩⟩⟩⟩⟩⟩⟩⟩⟩⟩⟩⟩⟩⟩⟩⟩
theorem lw_p32 : lw_okq (⟨"CellarMeterModel", "next", "()I"⟩, 45) := ⟨⟨by decide +kernel, by decide +kernel⟩, List.mem_of_getElem? (i := 881) (by decide +kernel), List.mem_of_getElem? (i := 1060) (by decide +kernel), List.mem_of_getElem? (i := 1061) (by decide +kernel)⟩
theorem lw_p33 : lw_okq (⟨"CellarMeterModel", "takesWord", "(II)Z"⟩, 45) := ⟨⟨by decide +kernel, by decide +kernel⟩, List.mem_of_getElem? (i := 881) (by decide +kernel), List.mem_of_getElem? (i := 1065) (by decide +kernel), List.mem_of_getElem? (i := 1066) (by decide +kernel)⟩
theorem lw_p34 : lw_okq (⟨"CellarMeterModel", "takesSign", "(I)Z"⟩, 45) := ⟨⟨by decide +kernel, by decide +kernel⟩, List.mem_of_getElem? (i := 881) (by decide +kernel), List.mem_of_getElem? (i := 1069) (by decide +kernel), List.mem_of_getElem? (i := 1070) (by decide +kernel)⟩
theorem lw_p35 : lw_okq (⟨"CellarMeterModel", "takesState", "(I)Z"⟩, 45) := ⟨⟨by decide +kernel, by decide +kernel⟩, List.mem_of_getElem? (i := 881) (by decide +kernel), List.mem_of_getElem? (i := 1073) (by decide +kernel), List.mem_of_getElem? (i := 1074) (by decide +kernel)⟩
theorem lw_p36 : lw_okq (⟨"CellarMeterModel", "takesFigure", "()Z"⟩, 45) := ⟨⟨by decide +kernel, by decide +kernel⟩, List.mem_of_getElem? (i := 881) (by decide +kernel), List.mem_of_getElem? (i := 1077) (by decide +kernel), List.mem_of_getElem? (i := 1078) (by decide +kernel)⟩
theorem lw_p37 : lw_okq (⟨"CellarMeterModel", "takesNumber", "(I)Z"⟩, 45) := ⟨⟨by decide +kernel, by decide +kernel⟩, List.mem_of_getElem? (i := 881) (by decide +kernel), List.mem_of_getElem? (i := 1081) (by decide +kernel), List.mem_of_getElem? (i := 1082) (by decide +kernel)⟩
theorem lw_p38 : lw_okq (⟨"CellarMeterModel", "isDigit", "()Z"⟩, 45) := ⟨⟨by decide +kernel, by decide +kernel⟩, List.mem_of_getElem? (i := 881) (by decide +kernel), List.mem_of_getElem? (i := 1085) (by decide +kernel), List.mem_of_getElem? (i := 1086) (by decide +kernel)⟩
theorem lw_p39 : lw_okq (⟨"CellarMeterModel", "takesE", "(I)Z"⟩, 45) := ⟨⟨by decide +kernel, by decide +kernel⟩, List.mem_of_getElem? (i := 881) (by decide +kernel), List.mem_of_getElem? (i := 1089) (by decide +kernel), List.mem_of_getElem? (i := 1090) (by decide +kernel)⟩
theorem lw_p40 : lw_okq (⟨"CellarMeterModel", "takesTest", "()Z"⟩, 45) := ⟨⟨by decide +kernel, by decide +kernel⟩, List.mem_of_getElem? (i := 881) (by decide +kernel), List.mem_of_getElem? (i := 1093) (by decide +kernel), List.mem_of_getElem? (i := 1094) (by decide +kernel)⟩
theorem lw_p41 : lw_okq (⟨"CellarMeterModel", "put", "(I)V"⟩, 45) := ⟨⟨by decide +kernel, by decide +kernel⟩, List.mem_of_getElem? (i := 881) (by decide +kernel), List.mem_of_getElem? (i := 1097) (by decide +kernel), List.mem_of_getElem? (i := 1098) (by decide +kernel)⟩
theorem lw_p42 : lw_okq (⟨"CellarMeterModel", "whole", "()V"⟩, 45) := ⟨⟨by decide +kernel, by decide +kernel⟩, List.mem_of_getElem? (i := 881) (by decide +kernel), List.mem_of_getElem? (i := 1101) (by decide +kernel), List.mem_of_getElem? (i := 1102) (by decide +kernel)⟩
theorem lw_p43 : lw_okq (⟨"CellarMeterModel", "settle", "(I)V"⟩, 45) := ⟨⟨by decide +kernel, by decide +kernel⟩, List.mem_of_getElem? (i := 881) (by decide +kernel), List.mem_of_getElem? (i := 1105) (by decide +kernel), List.mem_of_getElem? (i := 1106) (by decide +kernel)⟩
theorem lw_p44 : lw_okq (⟨"CellarMeterModel", "second", "()I"⟩, 45) := ⟨⟨by decide +kernel, by decide +kernel⟩, List.mem_of_getElem? (i := 881) (by decide +kernel), List.mem_of_getElem? (i := 1109) (by decide +kernel), List.mem_of_getElem? (i := 1110) (by decide +kernel)⟩
theorem lw_p45 : lw_okq (⟨"CellarMeterModel", "last", "(II)I"⟩, 45) := ⟨⟨by decide +kernel, by decide +kernel⟩, List.mem_of_getElem? (i := 881) (by decide +kernel), List.mem_of_getElem? (i := 1119) (by decide +kernel), List.mem_of_getElem? (i := 1120) (by decide +kernel)⟩
theorem lw_p46 : lw_okq (⟨"CellarMeterModel", "first", "()I"⟩, 45) := ⟨⟨by decide +kernel, by decide +kernel⟩, List.mem_of_getElem? (i := 881) (by decide +kernel), List.mem_of_getElem? (i := 1123) (by decide +kernel), List.mem_of_getElem? (i := 1124) (by decide +kernel)⟩
theorem lw_p47 : lw_okq (⟨"CellarMeterModel", "behind", "()I"⟩, 45) := ⟨⟨by decide +kernel, by decide +kernel⟩, List.mem_of_getElem? (i := 881) (by decide +kernel), List.mem_of_getElem? (i := 1127) (by decide +kernel), List.mem_of_getElem? (i := 1128) (by decide +kernel)⟩
def lw_privs_3 : List (MethodName × Nat) := [(⟨"CellarMeterModel", "next", "()I"⟩, 45), (⟨"CellarMeterModel", "takesWord", "(II)Z"⟩, 45), (⟨"CellarMeterModel", "takesSign", "(I)Z"⟩, 45), (⟨"CellarMeterModel", "takesState", "(I)Z"⟩, 45), (⟨"CellarMeterModel", "takesFigure", "()Z"⟩, 45), (⟨"CellarMeterModel", "takesNumber", "(I)Z"⟩, 45), (⟨"CellarMeterModel", "isDigit", "()Z"⟩, 45), (⟨"CellarMeterModel", "takesE", "(I)Z"⟩, 45), (⟨"CellarMeterModel", "takesTest", "()Z"⟩, 45), (⟨"CellarMeterModel", "put", "(I)V"⟩, 45), (⟨"CellarMeterModel", "whole", "()V"⟩, 45), (⟨"CellarMeterModel", "settle", "(I)V"⟩, 45), (⟨"CellarMeterModel", "second", "()I"⟩, 45), (⟨"CellarMeterModel", "last", "(II)I"⟩, 45), (⟨"CellarMeterModel", "first", "()I"⟩, 45), (⟨"CellarMeterModel", "behind", "()I"⟩, 45)]
theorem lw_r3 : ∀ q ∈ lw_privs_3, lw_okq q := List.forall_mem_cons.mpr ⟨lw_p32, List.forall_mem_cons.mpr ⟨lw_p33, List.forall_mem_cons.mpr ⟨lw_p34, List.forall_mem_cons.mpr ⟨lw_p35, List.forall_mem_cons.mpr ⟨lw_p36, List.forall_mem_cons.mpr ⟨lw_p37, List.forall_mem_cons.mpr ⟨lw_p38, List.forall_mem_cons.mpr ⟨lw_p39, List.forall_mem_cons.mpr ⟨lw_p40, List.forall_mem_cons.mpr ⟨lw_p41, List.forall_mem_cons.mpr ⟨lw_p42, List.forall_mem_cons.mpr ⟨lw_p43, List.forall_mem_cons.mpr ⟨lw_p44, List.forall_mem_cons.mpr ⟨lw_p45, List.forall_mem_cons.mpr ⟨lw_p46, List.forall_mem_cons.mpr ⟨lw_p47, fun _ h => absurd h List.not_mem_nil⟩⟩⟩⟩⟩⟩⟩⟩⟩⟩⟩⟩⟩⟩⟩⟩
theorem lw_p48 : lw_okq (⟨"CellarMeterModel", "isReading", "(I)Z"⟩, 45) := ⟨⟨by decide +kernel, by decide +kernel⟩, List.mem_of_getElem? (i := 881) (by decide +kernel), List.mem_of_getElem? (i := 1143) (by decide +kernel), List.mem_of_getElem? (i := 1144) (by decide +kernel)⟩
theorem lw_p49 : lw_okq (⟨"CellarMeterModel", "layAll", "()V"⟩, 45) := ⟨⟨by decide +kernel, by decide +kernel⟩, List.mem_of_getElem? (i := 881) (by decide +kernel), List.mem_of_getElem? (i := 1147) (by decide +kernel), List.mem_of_getElem? (i := 1148) (by decide +kernel)⟩
theorem lw_p50 : lw_okq (⟨"CellarMeterModel", "layWay", "(I)V"⟩, 45) := ⟨⟨by decide +kernel, by decide +kernel⟩, List.mem_of_getElem? (i := 881) (by decide +kernel), List.mem_of_getElem? (i := 1151) (by decide +kernel), List.mem_of_getElem? (i := 1152) (by decide +kernel)⟩
theorem lw_p51 : lw_okq (⟨"CellarMeterModel", "mayBe", "(II)Z"⟩, 45) := ⟨⟨by decide +kernel, by decide +kernel⟩, List.mem_of_getElem? (i := 881) (by decide +kernel), List.mem_of_getElem? (i := 1155) (by decide +kernel), List.mem_of_getElem? (i := 1156) (by decide +kernel)⟩
theorem lw_p52 : lw_okq (⟨"CellarMeterModel", "isUnder", "(II)Z"⟩, 45) := ⟨⟨by decide +kernel, by decide +kernel⟩, List.mem_of_getElem? (i := 881) (by decide +kernel), List.mem_of_getElem? (i := 1159) (by decide +kernel), List.mem_of_getElem? (i := 1160) (by decide +kernel)⟩
theorem lw_p53 : lw_okq (⟨"CellarMeterModel", "holds", "(III)Z"⟩, 45) := ⟨⟨by decide +kernel, by decide +kernel⟩, List.mem_of_getElem? (i := 881) (by decide +kernel), List.mem_of_getElem? (i := 1163) (by decide +kernel), List.mem_of_getElem? (i := 1164) (by decide +kernel)⟩
theorem lw_p54 : lw_okq (⟨"CellarMeterModel", "layFits", "(II)V"⟩, 45) := ⟨⟨by decide +kernel, by decide +kernel⟩, List.mem_of_getElem? (i := 881) (by decide +kernel), List.mem_of_getElem? (i := 1167) (by decide +kernel), List.mem_of_getElem? (i := 1168) (by decide +kernel)⟩
theorem lw_p55 : lw_okq (⟨"CellarMeterModel", "isNear", "(III)Z"⟩, 45) := ⟨⟨by decide +kernel, by decide +kernel⟩, List.mem_of_getElem? (i := 881) (by decide +kernel), List.mem_of_getElem? (i := 1171) (by decide +kernel), List.mem_of_getElem? (i := 1172) (by decide +kernel)⟩
theorem lw_p56 : lw_okq (⟨"CellarMeterModel", "look", "()Z"⟩, 45) := ⟨⟨by decide +kernel, by decide +kernel⟩, List.mem_of_getElem? (i := 881) (by decide +kernel), List.mem_of_getElem? (i := 1179) (by decide +kernel), List.mem_of_getElem? (i := 1180) (by decide +kernel)⟩
theorem lw_p57 : lw_okq (⟨"CellarMeterModel", "findLive", "()Z"⟩, 45) := ⟨⟨by decide +kernel, by decide +kernel⟩, List.mem_of_getElem? (i := 881) (by decide +kernel), List.mem_of_getElem? (i := 1183) (by decide +kernel), List.mem_of_getElem? (i := 1184) (by decide +kernel)⟩
theorem lw_p58 : lw_okq (⟨"CellarMeterModel", "findTale", "(II)I"⟩, 45) := ⟨⟨by decide +kernel, by decide +kernel⟩, List.mem_of_getElem? (i := 881) (by decide +kernel), List.mem_of_getElem? (i := 1196) (by decide +kernel), List.mem_of_getElem? (i := 1197) (by decide +kernel)⟩
theorem lw_p59 : lw_okq (⟨"CellarMeterModel", "costOf", "(III)I"⟩, 45) := ⟨⟨by decide +kernel, by decide +kernel⟩, List.mem_of_getElem? (i := 881) (by decide +kernel), List.mem_of_getElem? (i := 1201) (by decide +kernel), List.mem_of_getElem? (i := 1202) (by decide +kernel)⟩
theorem lw_p60 : lw_okq (⟨"CellarMeterModel", "onAt", "(IZ)I"⟩, 45) := ⟨⟨by decide +kernel, by decide +kernel⟩, List.mem_of_getElem? (i := 881) (by decide +kernel), List.mem_of_getElem? (i := 1213) (by decide +kernel), List.mem_of_getElem? (i := 1214) (by decide +kernel)⟩
theorem lw_p61 : lw_okq (⟨"CellarMeterModel", "areAlike", "(II)Z"⟩, 45) := ⟨⟨by decide +kernel, by decide +kernel⟩, List.mem_of_getElem? (i := 881) (by decide +kernel), List.mem_of_getElem? (i := 1221) (by decide +kernel), List.mem_of_getElem? (i := 1222) (by decide +kernel)⟩
theorem lw_p62 : lw_okq (⟨"CellarMeterModel", "stands", "(I)Z"⟩, 45) := ⟨⟨by decide +kernel, by decide +kernel⟩, List.mem_of_getElem? (i := 881) (by decide +kernel), List.mem_of_getElem? (i := 1225) (by decide +kernel), List.mem_of_getElem? (i := 1226) (by decide +kernel)⟩
theorem lw_p63 : lw_okq (⟨"CellarMeterModel", "wireSum", "(II)I"⟩, 45) := ⟨⟨by decide +kernel, by decide +kernel⟩, List.mem_of_getElem? (i := 881) (by decide +kernel), List.mem_of_getElem? (i := 1241) (by decide +kernel), List.mem_of_getElem? (i := 1242) (by decide +kernel)⟩
def lw_privs_4 : List (MethodName × Nat) := [(⟨"CellarMeterModel", "isReading", "(I)Z"⟩, 45), (⟨"CellarMeterModel", "layAll", "()V"⟩, 45), (⟨"CellarMeterModel", "layWay", "(I)V"⟩, 45), (⟨"CellarMeterModel", "mayBe", "(II)Z"⟩, 45), (⟨"CellarMeterModel", "isUnder", "(II)Z"⟩, 45), (⟨"CellarMeterModel", "holds", "(III)Z"⟩, 45), (⟨"CellarMeterModel", "layFits", "(II)V"⟩, 45), (⟨"CellarMeterModel", "isNear", "(III)Z"⟩, 45), (⟨"CellarMeterModel", "look", "()Z"⟩, 45), (⟨"CellarMeterModel", "findLive", "()Z"⟩, 45), (⟨"CellarMeterModel", "findTale", "(II)I"⟩, 45), (⟨"CellarMeterModel", "costOf", "(III)I"⟩, 45), (⟨"CellarMeterModel", "onAt", "(IZ)I"⟩, 45), (⟨"CellarMeterModel", "areAlike", "(II)Z"⟩, 45), (⟨"CellarMeterModel", "stands", "(I)Z"⟩, 45), (⟨"CellarMeterModel", "wireSum", "(II)I"⟩, 45)]
theorem lw_r4 : ∀ q ∈ lw_privs_4, lw_okq q := List.forall_mem_cons.mpr ⟨lw_p48, List.forall_mem_cons.mpr ⟨lw_p49, List.forall_mem_cons.mpr ⟨lw_p50, List.forall_mem_cons.mpr ⟨lw_p51, List.forall_mem_cons.mpr ⟨lw_p52, List.forall_mem_cons.mpr ⟨lw_p53, List.forall_mem_cons.mpr ⟨lw_p54, List.forall_mem_cons.mpr ⟨lw_p55, List.forall_mem_cons.mpr ⟨lw_p56, List.forall_mem_cons.mpr ⟨lw_p57, List.forall_mem_cons.mpr ⟨lw_p58, List.forall_mem_cons.mpr ⟨lw_p59, List.forall_mem_cons.mpr ⟨lw_p60, List.forall_mem_cons.mpr ⟨lw_p61, List.forall_mem_cons.mpr ⟨lw_p62, List.forall_mem_cons.mpr ⟨lw_p63, fun _ h => absurd h List.not_mem_nil⟩⟩⟩⟩⟩⟩⟩⟩⟩⟩⟩⟩⟩⟩⟩⟩
theorem lw_p64 : lw_okq (⟨"CellarMeterModel", "isTape", "(I)Z"⟩, 45) := ⟨⟨by decide +kernel, by decide +kernel⟩, List.mem_of_getElem? (i := 881) (by decide +kernel), List.mem_of_getElem? (i := 1253) (by decide +kernel), List.mem_of_getElem? (i := 1254) (by decide +kernel)⟩
theorem lw_p65 : lw_okq (⟨"CellarMeterModel", "takesAct", "(II)I"⟩, 45) := ⟨⟨by decide +kernel, by decide +kernel⟩, List.mem_of_getElem? (i := 881) (by decide +kernel), List.mem_of_getElem? (i := 1269) (by decide +kernel), List.mem_of_getElem? (i := 1270) (by decide +kernel)⟩
theorem lw_p66 : lw_okq (⟨"CellarMeterModel", "body", "(I)V"⟩, 45) := ⟨⟨by decide +kernel, by decide +kernel⟩, List.mem_of_getElem? (i := 881) (by decide +kernel), List.mem_of_getElem? (i := 1273) (by decide +kernel), List.mem_of_getElem? (i := 1274) (by decide +kernel)⟩
theorem lw_p67 : lw_okq (⟨"CellarMeterModel", "plainTakes", "(II)I"⟩, 45) := ⟨⟨by decide +kernel, by decide +kernel⟩, List.mem_of_getElem? (i := 881) (by decide +kernel), List.mem_of_getElem? (i := 1277) (by decide +kernel), List.mem_of_getElem? (i := 1278) (by decide +kernel)⟩
theorem lw_p68 : lw_okq (⟨"CellarMeterModel", "followsAct", "(II)I"⟩, 45) := ⟨⟨by decide +kernel, by decide +kernel⟩, List.mem_of_getElem? (i := 881) (by decide +kernel), List.mem_of_getElem? (i := 1281) (by decide +kernel), List.mem_of_getElem? (i := 1282) (by decide +kernel)⟩
theorem lw_p69 : lw_okq (⟨"CellarMeterModel", "switchFollows", "(II)I"⟩, 45) := ⟨⟨by decide +kernel, by decide +kernel⟩, List.mem_of_getElem? (i := 881) (by decide +kernel), List.mem_of_getElem? (i := 1285) (by decide +kernel), List.mem_of_getElem? (i := 1286) (by decide +kernel)⟩
theorem lw_p70 : lw_okq (⟨"CellarMeterModel", "plainFollows", "(II)I"⟩, 45) := ⟨⟨by decide +kernel, by decide +kernel⟩, List.mem_of_getElem? (i := 881) (by decide +kernel), List.mem_of_getElem? (i := 1289) (by decide +kernel), List.mem_of_getElem? (i := 1290) (by decide +kernel)⟩
theorem lw_p71 : lw_okq (⟨"CellarMeterModel", "tellsAct", "(II)I"⟩, 45) := ⟨⟨by decide +kernel, by decide +kernel⟩, List.mem_of_getElem? (i := 881) (by decide +kernel), List.mem_of_getElem? (i := 1293) (by decide +kernel), List.mem_of_getElem? (i := 1294) (by decide +kernel)⟩
theorem lw_p72 : lw_okq (⟨"CellarMeterModel", "plainTells", "(II)I"⟩, 45) := ⟨⟨by decide +kernel, by decide +kernel⟩, List.mem_of_getElem? (i := 881) (by decide +kernel), List.mem_of_getElem? (i := 1297) (by decide +kernel), List.mem_of_getElem? (i := 1298) (by decide +kernel)⟩
theorem lw_p73 : lw_okq (⟨"CellarMeterModel", "narrow", "(IJ)J"⟩, 45) := ⟨⟨by decide +kernel, by decide +kernel⟩, List.mem_of_getElem? (i := 881) (by decide +kernel), List.mem_of_getElem? (i := 1321) (by decide +kernel), List.mem_of_getElem? (i := 1322) (by decide +kernel)⟩
def lw_privs_5 : List (MethodName × Nat) := [(⟨"CellarMeterModel", "isTape", "(I)Z"⟩, 45), (⟨"CellarMeterModel", "takesAct", "(II)I"⟩, 45), (⟨"CellarMeterModel", "body", "(I)V"⟩, 45), (⟨"CellarMeterModel", "plainTakes", "(II)I"⟩, 45), (⟨"CellarMeterModel", "followsAct", "(II)I"⟩, 45), (⟨"CellarMeterModel", "switchFollows", "(II)I"⟩, 45), (⟨"CellarMeterModel", "plainFollows", "(II)I"⟩, 45), (⟨"CellarMeterModel", "tellsAct", "(II)I"⟩, 45), (⟨"CellarMeterModel", "plainTells", "(II)I"⟩, 45), (⟨"CellarMeterModel", "narrow", "(IJ)J"⟩, 45)]
theorem lw_r5 : ∀ q ∈ lw_privs_5, lw_okq q := List.forall_mem_cons.mpr ⟨lw_p64, List.forall_mem_cons.mpr ⟨lw_p65, List.forall_mem_cons.mpr ⟨lw_p66, List.forall_mem_cons.mpr ⟨lw_p67, List.forall_mem_cons.mpr ⟨lw_p68, List.forall_mem_cons.mpr ⟨lw_p69, List.forall_mem_cons.mpr ⟨lw_p70, List.forall_mem_cons.mpr ⟨lw_p71, List.forall_mem_cons.mpr ⟨lw_p72, List.forall_mem_cons.mpr ⟨lw_p73, fun _ h => absurd h List.not_mem_nil⟩⟩⟩⟩⟩⟩⟩⟩⟩⟩
def lw_privs : List (MethodName × Nat) := lw_privs_1 ++ (lw_privs_2 ++ (lw_privs_3 ++ (lw_privs_4 ++ (lw_privs_5))))
def lw_tbl : List Cond := k2_sels lw_privs ++ tables_1
theorem lw_privs_ok : ∀ q ∈ lw_privs, lw_okq q := by
  show ∀ q ∈ lw_privs_1 ++ (lw_privs_2 ++ (lw_privs_3 ++ (lw_privs_4 ++ (lw_privs_5)))), lw_okq q
  exact List.forall_mem_append.mpr ⟨lw_r1, List.forall_mem_append.mpr ⟨lw_r2, List.forall_mem_append.mpr ⟨lw_r3, List.forall_mem_append.mpr ⟨lw_r4, lw_r5⟩⟩⟩⟩
end
section
def RX1 : String := "CellarMeter$House"
def TX1 : u_T := fun k => match k with
  | 0 => ("CellarMeter$House", "takes", "[I", true)
  | 1 => ("CellarMeter$House", "glads", "[I", true)
  | 2 => ("CellarMeter$House", "steps", "[I", true)
  | 3 => ("CellarMeter$House", "stepCount", "I", false)
  | 4 => ("CellarMeter$House", "named", "I", false)
  | _ => ("CellarMeter$House", "give", "I", false)
def tyX1 : Nat → FieldType := fun k => match k with
  | 0 => .array .int
  | 1 => .array .int
  | 2 => .array .int
  | 3 => .int
  | 4 => .int
  | _ => .int
theorem nmX1 : ∀ a, a < 6 → ∀ b, b < 6 → a ≠ b → (TX1 a).2.1 ≠ (TX1 b).2.1 := by decide +kernel
theorem tyX1_ok : ∀ k, k < 6 → parseFieldDescriptor (TX1 k).2.2.1 = some (tyX1 k) := by decide +kernel
def RX2 : String := "CellarMeter$HouseReader"
def TX2 : u_T := fun k => match k with
  | 0 => ("CellarMeter$HouseReader", "text", "LCellarMeter$Text;", true)
  | 1 => ("CellarMeter$HouseReader", "house", "LCellarMeter$House;", false)
  | 2 => ("CellarMeter$HouseReader", "place", "I", false)
  | _ => ("CellarMeter$HouseReader", "right", "Z", false)
def tyX2 : Nat → FieldType := fun k => match k with
  | 0 => .object "CellarMeter$Text"
  | 1 => .object "CellarMeter$House"
  | 2 => .int
  | _ => .boolean
theorem nmX2 : ∀ a, a < 4 → ∀ b, b < 4 → a ≠ b → (TX2 a).2.1 ≠ (TX2 b).2.1 := by decide +kernel
theorem tyX2_ok : ∀ k, k < 4 → parseFieldDescriptor (TX2 k).2.2.1 = some (tyX2 k) := by decide +kernel
def RX3 : String := "CellarMeter$Household"
def TX3 : u_T := fun k => match k with
  | 0 => ("CellarMeter$Household", "things", "[LCellarMeter$Thing;", true)
  | 1 => ("CellarMeter$Household", "waysIn", "[J", true)
  | 2 => ("CellarMeter$Household", "after", "[J", true)
  | 3 => ("CellarMeter$Household", "before", "[J", true)
  | 4 => ("CellarMeter$Household", "figures", "[I", true)
  | 5 => ("CellarMeter$Household", "lawful", "J", false)
  | 6 => ("CellarMeter$Household", "count", "I", false)
  | _ => ("CellarMeter$Household", "ways", "I", false)
def tyX3 : Nat → FieldType := fun k => match k with
  | 0 => .array (.object "CellarMeter$Thing")
  | 1 => .array .long
  | 2 => .array .long
  | 3 => .array .long
  | 4 => .array .int
  | 5 => .long
  | 6 => .int
  | _ => .int
theorem nmX3 : ∀ a, a < 8 → ∀ b, b < 8 → a ≠ b → (TX3 a).2.1 ≠ (TX3 b).2.1 := by decide +kernel
theorem tyX3_ok : ∀ k, k < 8 → parseFieldDescriptor (TX3 k).2.2.1 = some (tyX3 k) := by decide +kernel
def RX5 : String := "CellarMeter$Meter"
def TX5 : u_T := fun k => match k with
  | 0 => ("CellarMeter$Meter", "watts", "[I", true)
  | _ => ("CellarMeter$Meter", "count", "I", false)
def tyX5 : Nat → FieldType := fun k => match k with
  | 0 => .array .int
  | _ => .int
theorem nmX5 : ∀ a, a < 2 → ∀ b, b < 2 → a ≠ b → (TX5 a).2.1 ≠ (TX5 b).2.1 := by decide +kernel
theorem tyX5_ok : ∀ k, k < 2 → parseFieldDescriptor (TX5 k).2.2.1 = some (tyX5 k) := by decide +kernel
def RX6 : String := "CellarMeter$Tape"
def TX6 : u_T := fun k => match k with
  | 0 => ("CellarMeter$Tape", "items", "[J", true)
  | 1 => ("CellarMeter$Tape", "sort", "I", false)
  | _ => ("CellarMeter$Tape", "size", "I", false)
def tyX6 : Nat → FieldType := fun k => match k with
  | 0 => .array .long
  | 1 => .int
  | _ => .int
theorem nmX6 : ∀ a, a < 3 → ∀ b, b < 3 → a ≠ b → (TX6 a).2.1 ≠ (TX6 b).2.1 := by decide +kernel
theorem tyX6_ok : ∀ k, k < 3 → parseFieldDescriptor (TX6 k).2.2.1 = some (tyX6 k) := by decide +kernel
def RX7 : String := "CellarMeter$Telling"
def TX7 : u_T := fun k => match k with
  | 0 => ("CellarMeter$Telling", "home", "LCellarMeter$Household;", true)
  | 1 => ("CellarMeter$Telling", "meter", "LCellarMeter$Meter;", true)
  | 2 => ("CellarMeter$Telling", "open", "[J", true)
  | 3 => ("CellarMeter$Telling", "fit", "[J", true)
  | 4 => ("CellarMeter$Telling", "inTales", "[J", true)
  | 5 => ("CellarMeter$Telling", "stack", "[J", true)
  | 6 => ("CellarMeter$Telling", "totals", "[I", true)
  | 7 => ("CellarMeter$Telling", "sums", "[I", true)
  | 8 => ("CellarMeter$Telling", "counts", "[I", true)
  | 9 => ("CellarMeter$Telling", "newer", "[I", true)
  | 10 => ("CellarMeter$Telling", "cheapest", "[I", true)
  | 11 => ("CellarMeter$Telling", "row", "[I", true)
  | 12 => ("CellarMeter$Telling", "house", "LCellarMeter$House;", false)
  | 13 => ("CellarMeter$Telling", "length", "I", false)
  | _ => ("CellarMeter$Telling", "ways", "I", false)
def tyX7 : Nat → FieldType := fun k => match k with
  | 0 => .object "CellarMeter$Household"
  | 1 => .object "CellarMeter$Meter"
  | 2 => .array .long
  | 3 => .array .long
  | 4 => .array .long
  | 5 => .array .long
  | 6 => .array .int
  | 7 => .array .int
  | 8 => .array .int
  | 9 => .array .int
  | 10 => .array .int
  | 11 => .array .int
  | 12 => .object "CellarMeter$House"
  | 13 => .int
  | _ => .int
theorem nmX7 : ∀ a, a < 15 → ∀ b, b < 15 → a ≠ b → (TX7 a).2.1 ≠ (TX7 b).2.1 := by decide +kernel
theorem tyX7_ok : ∀ k, k < 15 → parseFieldDescriptor (TX7 k).2.2.1 = some (tyX7 k) := by decide +kernel
def RX8 : String := "CellarMeter$Text"
def TX8 : u_T := fun k => match k with
  | 0 => ("CellarMeter$Text", "bytes", "[I", true)
  | _ => ("CellarMeter$Text", "length", "I", false)
def tyX8 : Nat → FieldType := fun k => match k with
  | 0 => .array .int
  | _ => .int
theorem nmX8 : ∀ a, a < 2 → ∀ b, b < 2 → a ≠ b → (TX8 a).2.1 ≠ (TX8 b).2.1 := by decide +kernel
theorem tyX8_ok : ∀ k, k < 2 → parseFieldDescriptor (TX8 k).2.2.1 = some (tyX8 k) := by decide +kernel
def RX9 : String := "CellarMeter$Thing"
def TX9 : u_T := fun k => match k with
  | 0 => ("CellarMeter$Thing", "number", "I", true)
  | 1 => ("CellarMeter$Thing", "kind", "I", true)
  | _ => ("CellarMeter$Thing", "states", "I", true)
def tyX9 : Nat → FieldType := fun k => match k with
  | 0 => .int
  | 1 => .int
  | _ => .int
theorem nmX9 : ∀ a, a < 3 → ∀ b, b < 3 → a ≠ b → (TX9 a).2.1 ≠ (TX9 b).2.1 := by decide +kernel
theorem tyX9_ok : ∀ k, k < 3 → parseFieldDescriptor (TX9 k).2.2.1 = some (tyX9 k) := by decide +kernel
def RX10 : String := "CellarMeter$Trace"
def TX10 : u_T := fun k => match k with
  | 0 => ("CellarMeter$Trace", "bodies", "[I", true)
  | _ => ("CellarMeter$Trace", "ran", "I", false)
def tyX10 : Nat → FieldType := fun k => match k with
  | 0 => .array .int
  | _ => .int
theorem nmX10 : ∀ a, a < 2 → ∀ b, b < 2 → a ≠ b → (TX10 a).2.1 ≠ (TX10 b).2.1 := by decide +kernel
theorem tyX10_ok : ∀ k, k < 2 → parseFieldDescriptor (TX10 k).2.2.1 = some (tyX10 k) := by decide +kernel
def RX11 : String := "CellarMeter"
def TX11 : u_T := fun k => match k with
  | 0 => ("CellarMeter", "home", "LCellarMeter$Household;", true)
  | 1 => ("CellarMeter", "text", "LCellarMeter$Text;", true)
  | 2 => ("CellarMeter", "reader", "LCellarMeter$HouseReader;", true)
  | 3 => ("CellarMeter", "houses", "[LCellarMeter$House;", true)
  | 4 => ("CellarMeter", "bare", "LCellarMeter$House;", true)
  | 5 => ("CellarMeter", "first", "LCellarMeter$Meter;", true)
  | 6 => ("CellarMeter", "second", "LCellarMeter$Meter;", true)
  | 7 => ("CellarMeter", "imagedFirst", "LCellarMeter$Meter;", true)
  | 8 => ("CellarMeter", "imagedSecond", "LCellarMeter$Meter;", true)
  | 9 => ("CellarMeter", "telling", "LCellarMeter$Telling;", true)
  | 10 => ("CellarMeter", "latest", "LCellarMeter$Trace;", true)
  | 11 => ("CellarMeter", "tapes", "[LCellarMeter$Tape;", true)
  | 12 => ("CellarMeter", "houseCount", "I", false)
  | 13 => ("CellarMeter", "held", "I", false)
  | 14 => ("CellarMeter", "imagedHeld", "I", false)
  | _ => ("CellarMeter", "imaged", "Z", false)
def tyX11 : Nat → FieldType := fun k => match k with
  | 0 => .object "CellarMeter$Household"
  | 1 => .object "CellarMeter$Text"
  | 2 => .object "CellarMeter$HouseReader"
  | 3 => .array (.object "CellarMeter$House")
  | 4 => .object "CellarMeter$House"
  | 5 => .object "CellarMeter$Meter"
  | 6 => .object "CellarMeter$Meter"
  | 7 => .object "CellarMeter$Meter"
  | 8 => .object "CellarMeter$Meter"
  | 9 => .object "CellarMeter$Telling"
  | 10 => .object "CellarMeter$Trace"
  | 11 => .array (.object "CellarMeter$Tape")
  | 12 => .int
  | 13 => .int
  | 14 => .int
  | _ => .boolean
theorem nmX11 : ∀ a, a < 16 → ∀ b, b < 16 → a ≠ b → (TX11 a).2.1 ≠ (TX11 b).2.1 := by decide +kernel
theorem tyX11_ok : ∀ k, k < 16 → parseFieldDescriptor (TX11 k).2.2.1 = some (tyX11 k) := by decide +kernel
def RX12 : String := "CellarMeterModel"
def TX12 : u_T := fun k => match k with
  | 0 => ("CellarMeterModel", "things", "I", false)
  | 1 => ("CellarMeterModel", "ways", "I", false)
  | 2 => ("CellarMeterModel", "kind", "[I", true)
  | 3 => ("CellarMeterModel", "states", "[I", true)
  | 4 => ("CellarMeterModel", "houses", "I", false)
  | 5 => ("CellarMeterModel", "the", "I", false)
  | 6 => ("CellarMeterModel", "fed", "I", false)
  | 7 => ("CellarMeterModel", "at", "I", false)
  | 8 => ("CellarMeterModel", "digits", "I", false)
  | 9 => ("CellarMeterModel", "text", "[I", true)
  | 10 => ("CellarMeterModel", "clauses", "[I", true)
  | 11 => ("CellarMeterModel", "word", "[I", true)
  | 12 => ("CellarMeterModel", "of", "[I", true)
  | 13 => ("CellarMeterModel", "number", "[I", true)
  | 14 => ("CellarMeterModel", "from", "[I", true)
  | 15 => ("CellarMeterModel", "to", "[I", true)
  | 16 => ("CellarMeterModel", "sign", "[I", true)
  | 17 => ("CellarMeterModel", "waits", "[I", true)
  | 18 => ("CellarMeterModel", "signs", "I", false)
  | 19 => ("CellarMeterModel", "waiting", "I", false)
  | 20 => ("CellarMeterModel", "open", "I", false)
  | 21 => ("CellarMeterModel", "watts", "[I", true)
  | 22 => ("CellarMeterModel", "many", "[I", true)
  | 23 => ("CellarMeterModel", "state", "[I", true)
  | 24 => ("CellarMeterModel", "sums", "[I", true)
  | 25 => ("CellarMeterModel", "glads", "[I", true)
  | 26 => ("CellarMeterModel", "changes", "[I", true)
  | 27 => ("CellarMeterModel", "takes", "[I", true)
  | 28 => ("CellarMeterModel", "next", "[Z", true)
  | 29 => ("CellarMeterModel", "pile", "[Z", true)
  | 30 => ("CellarMeterModel", "may", "[Z", true)
  | 31 => ("CellarMeterModel", "fit", "[Z", true)
  | 32 => ("CellarMeterModel", "live", "[Z", true)
  | 33 => ("CellarMeterModel", "best", "[I", true)
  | 34 => ("CellarMeterModel", "tale", "[I", true)
  | 35 => ("CellarMeterModel", "hasImage", "Z", false)
  | 36 => ("CellarMeterModel", "imageThe", "I", false)
  | 37 => ("CellarMeterModel", "imageWatts", "[I", true)
  | 38 => ("CellarMeterModel", "imageMany", "[I", true)
  | 39 => ("CellarMeterModel", "ran", "I", false)
  | 40 => ("CellarMeterModel", "bodies", "[I", true)
  | 41 => ("CellarMeterModel", "sort", "[I", true)
  | 42 => ("CellarMeterModel", "length", "[I", true)
  | 43 => ("CellarMeterModel", "item", "[J", true)
  | _ => ("CellarMeterModel", "aside", "[J", true)
def tyX12 : Nat → FieldType := fun k => match k with
  | 0 => .int
  | 1 => .int
  | 2 => .array .int
  | 3 => .array .int
  | 4 => .int
  | 5 => .int
  | 6 => .int
  | 7 => .int
  | 8 => .int
  | 9 => .array .int
  | 10 => .array .int
  | 11 => .array .int
  | 12 => .array .int
  | 13 => .array .int
  | 14 => .array .int
  | 15 => .array .int
  | 16 => .array .int
  | 17 => .array .int
  | 18 => .int
  | 19 => .int
  | 20 => .int
  | 21 => .array .int
  | 22 => .array .int
  | 23 => .array .int
  | 24 => .array .int
  | 25 => .array .int
  | 26 => .array .int
  | 27 => .array .int
  | 28 => .array .boolean
  | 29 => .array .boolean
  | 30 => .array .boolean
  | 31 => .array .boolean
  | 32 => .array .boolean
  | 33 => .array .int
  | 34 => .array .int
  | 35 => .boolean
  | 36 => .int
  | 37 => .array .int
  | 38 => .array .int
  | 39 => .int
  | 40 => .array .int
  | 41 => .array .int
  | 42 => .array .int
  | 43 => .array .long
  | _ => .array .long
theorem nmX12 : ∀ a, a < 45 → ∀ b, b < 45 → a ≠ b → (TX12 a).2.1 ≠ (TX12 b).2.1 := by decide +kernel
theorem tyX12_ok : ∀ k, k < 45 → parseFieldDescriptor (TX12 k).2.2.1 = some (tyX12 k) := by decide +kernel
def RX0 : String := "CellarMeter$Acts"
def RX4 : String := "CellarMeter$Kinds"
def RJ6 : String := "java/lang/Integer"
def RJ13 : String := "java/lang/Long"
def RJ9 : String := "java/lang/Math"
def RJ0 : String := "java/lang/String"
def RJ1 : String := "java/lang/StringLatin1"
def RJ2 : String := "java/lang/StringUTF16"
def RJ10 : String := "java/lang/System"
def RJ3 : String := "jdk/internal/util/Preconditions"
def cm_cl : List vw_C := [(RX1, TX1, 6), (RX2, TX2, 4), (RX3, TX3, 8), (RX5, TX5, 2), (RX6, TX6, 3), (RX7, TX7, 15), (RX8, TX8, 2), (RX9, TX9, 3), (RX10, TX10, 2), (RX11, TX11, 16), (RX12, TX12, 45)]
end
section
/-! THE ABSTRACT MACHINE: memory as functions of (cell, place); an abstract reference k is the cell at base + k. Each instruction's rule is proved once from the kit's row. -/
abbrev cm_M : Type := MethodName × ByteArray × Nat × Option FieldType
def cm_W0 : List Cond := lw_tbl.filter goodWord
def cm_ws (y : cm_M) : List Cond := .code y.1 y.2.1 y.2.2.1 y.2.2.2 :: cm_W0
def cm_isN : Cond → Bool
  | .fieldLinkNest .. => true
  | .methodLinkNest .. => true
  | _ => false
def cm_nest : List Cond := lw_tbl.filter cm_isN
/-- base, the statics' values, the classes' ids and slots, the array classes' ids by type number -/
abbrev cm_G : Type := Nat × (Nat → Value) × va_G × (Nat → ClassId)
abbrev cm_I : Type := Nat → Nat → Int32
abbrev cm_L : Type := Nat → Nat → Int64
abbrev cm_R : Type := Nat → Nat → Option Nat
/-- what a cell is: an array (number of its type, length), or an object (number of its class) -/
abbrev cm_E : Type := (Nat × Nat) ⊕ Nat
abbrev cm_Ds : Type := List cm_E
/-- an abstract value: .ref k a cell of ours, .retAddr j a static thing, .float 0 a local that is unset -/
def cm_em (g : cm_G) : Value → Value
  | .ref k => .ref (g.1 + k)
  | .retAddr j => g.2.1 j
  | v => v
def cm_rv : Option Nat → Value
  | none => .null
  | some a => .ref a
def cm_isr : Value → Prop
  | .ref _ => True
  | .null => True
  | .retAddr _ => True
  | _ => False
theorem cm_isr_rv (o : Option Nat) : cm_isr (cm_rv o) := by cases o <;> trivial
/-- kinds of the fields: 0 int, 1 long, 2 reference, 3 boolean -/
def cm_kl : List (List Nat) := [[2, 2, 2, 0, 0, 0], [2, 2, 0, 3], [2, 2, 2, 2, 2, 1, 0, 0], [2, 0], [2, 0, 0], [2, 2, 2, 2, 2, 2, 2, 2, 2, 2, 2, 2, 2, 0, 0], [2, 0], [0, 0, 0], [2, 0], [2, 2, 2, 2, 2, 2, 2, 2, 2, 2, 2, 2, 0, 0, 0, 3], [0, 0, 2, 2, 0, 0, 0, 0, 0, 2, 2, 2, 2, 2, 2, 2, 2, 2, 0, 0, 0, 2, 2, 2, 2, 2, 2, 2, 2, 2, 2, 2, 2, 2, 2, 3, 0, 2, 2, 0, 2, 2, 2, 2, 2]]
def cm_ks (ci : Nat) : List Nat := cm_kl.getD ci []
def cm_aty : Nat → FieldType
  | 0 => .int
  | 1 => .long
  | 2 => .boolean
  | 3 => .object "CellarMeter$Thing"
  | 4 => .object "CellarMeter$House"
  | _ => .object "CellarMeter$Tape"
def cm_tys (g : cm_G) : List (ClassId × FieldType) := (List.range 6).map fun t => (g.2.2.2 t, cm_aty t)
def cm_sv (I : cm_I) (L : cm_L) (R : cm_R) (a k kd : Nat) : Value := if kd = 2 then cm_rv (R a k) else if kd = 1 then .long (L a k) else .int (I a k)
def cm_fs (g : cm_G) (I : cm_I) (L : cm_L) (R : cm_R) (a ci : Nat) : List Value := (cm_ks ci).mapIdx fun k kd => cm_em g (cm_sv I L R a k kd)
def cm_ent (g : cm_G) (I : cm_I) (L : cm_L) (R : cm_R) (a : Nat) : cm_E → va_E
  | .inl (t, n) => .inl (g.2.2.2 t, n, if t = 0 ∨ t = 2 then .inl (I a) else if t = 1 then .inr (.inl (L a)) else .inr (.inr (.inr (.inr (fun j => (R a j).map (g.1 + ·))))))
  | .inr ci => .inr (ci, cm_fs g I L R a ci)
def cm_cells (g : cm_G) (I : cm_I) (L : cm_L) (R : cm_R) (ds : cm_Ds) : va_W := ds.mapIdx fun a d => (g.1 + a, cm_ent g I L R a d)
def cm_u {α : Type} (f : Nat → Nat → α) (a k : Nat) (v : α) : Nat → Nat → α := fun b j => if b = a then (if j = k then v else f b j) else f b j
def cm_A (g : cm_G) : Nat → Prop := fun q => g.1 ≤ q
/-- the String constants: entry in HouseReader's pool, text, bytes -/
def cm_str : List (Nat × String × List Int32) := [(48, "bar ", [98, 97, 114, 32]), (57, "glad ", [103, 108, 97, 100, 32]), (63, "give ", [103, 105, 118, 101, 32]), (71, "take ", [116, 97, 107, 101, 32]), (73, "0123", [48, 49, 50, 51]), (102, "abcdr", [97, 98, 99, 100, 114]), (104, "<=>", [60, 61, 62]), (109, "0123456789", [48, 49, 50, 51, 52, 53, 54, 55, 56, 57])]
/-- the statics: 0 ABOVE, 1 BODIES, 2 the formatter (a reference or null), 10 + i a text, 30 + i its bytes -/
def cm_St (g : cm_G) (U : State) (H : Heap) : Prop :=
  (∀ w ∈ cm_nest, va_Nw w U) ∧ (∀ j, (∃ t, g.2.1 j = .ref t) ∨ g.2.1 j = .null) ∧
  (∃ t, g.2.1 0 = .ref t ∧ va_Z "CellarMeter$Kinds" "ABOVE" "[I" (.ref t) (cm_A g) U H ∧ va_T .int t 7 (fun j => .int (([-1, 0, 0, 0, 1, 0, 5] : List Int32).getD j 0)) (cm_A g) U H) ∧
  (∃ t, g.2.1 1 = .ref t ∧ va_Z "CellarMeter$Acts" "BODIES" "[I" (.ref t) (cm_A g) U H ∧ va_T .int t 21 (fun j => .int (([10, 11, 12, 0, 20, 0, 30, 0, 0, 0, 0, 40, 50, 51, 0, 0, 0, 60, 71, 70, 0] : List Int32).getD j 0)) (cm_A g) U H) ∧
  va_Z "jdk/internal/util/Preconditions" "SIOOBE_FORMATTER" "Ljava/util/function/BiFunction;" (g.2.1 2) (cm_A g) U H ∧
  va_Z "java/lang/String" "COMPACT_STRINGS" "Z" (.int 1) (cm_A g) U H ∧
  (∃ adK adV : Nat → Nat, vk_S 8 (cm_str.map fun q => q.2.2.length) (cm_str.map fun q => q.2.2) adK adV (cm_A g) U H ∧ ∀ i (q : Nat × String × List Int32), cm_str[i]? = some q → g.2.1 (10 + i) = .ref (adK i) ∧ g.2.1 (30 + i) = .ref (adV i) ∧ vk_R "CellarMeter$HouseReader" q.1 q.2.1 (adK i) U)
def cm_Cx (g : cm_G) (y : cm_M) (p : Program) (s : State) (m : MethodId) (args : Array Value) (meth : Method) (c : Code) : Prop :=
  p.tables.exec = Jvm.exec ∧ c.code = y.2.1 ∧ c.maxLocals = y.2.2.1 ∧ meth.sig.returnType = y.2.2.2 ∧ s.vm.findClass y.1.cls = some m.cls ∧ (∀ w ∈ cm_ws y, w.before args s = true) ∧ meth.name = y.1.name ∧ meth.locks = false ∧ cm_St g s s.heap ∧ va_K g.2.2.1 cm_cl (cm_tys g) s ∧ g.1 ≤ s.heap.size
def cm_Wd (g : cm_G) (I : cm_I) (L : cm_L) (R : cm_R) (ds : cm_Ds) (H : Heap) : Prop := va_P g.2.2.1 cm_cl (cm_cells g I L R ds) H ∧ H.size = g.1 + ds.length
def cm_Rm (d mc ms cells slots kc ks : Nat) (Rm : Room) : Prop := d ≤ Rm.frames ∧ 64 * d ≤ Rm.locals ∧ cells + mc ≤ kc ∧ slots + ms ≤ ks ∧ kc ≤ Rm.cells ∧ ks ≤ Rm.slots
def cm_lv (g : cm_G) : Nat → List Value → List (Nat × Value)
  | _, [] => []
  | i, v :: r => match v with
    | .float _ => cm_lv g (i + 1) r
    | w => (i, cm_em g w) :: cm_lv g (i + 1) r
abbrev cm_Post : Type := Option Value → cm_I → cm_L → cm_R → cm_Ds → Prop
def cm_Qc (g : cm_G) (Q : cm_Post) : Array Value → State → Outcome → State → Prop := fun _ st oc t =>
  (∃ (r : Option Value) (I : cm_I) (L : cm_L) (R : cm_R) (ds : cm_Ds), oc = .returned (r.map (cm_em g)) ∧ Q r I L R ds ∧ cm_Wd g I L R ds t.heap) ∧ va_F (cm_A g) st t
/-- from the frame (method y at pc, locals ls, stack st) over the memory (I, L, R, ds) the method returns, and Q holds of its answer and the memory behind it; at most mc cells of ms places are made; calls go at most d deep -/
def cm_Ex (l : Launch) (g : cm_G) (d mc ms : Nat) (y : cm_M) (pc : Nat) (ls st : List Value) (I : cm_I) (L : cm_L) (R : cm_R) (ds : cm_Ds) (Q : cm_Post) : Prop :=
  ∀ (p : Program) (e : Env) (Rm : Room) (s : State) (m : MethodId) (args : Array Value) (below : List Frame) (meth : Method) (c : Code) (H : Heap) (locs : List Loc) (cells slots kc ks : Nat) (als : Array Slot),
    cm_Cx g y p s m args meth c → cm_Wd g I L R ds H → va_S (cm_A g) s.heap H locs → lv_has als y.2.2.1 (cm_lv g 0 ls) → cm_Rm d mc ms cells slots kc ks Rm →
    W p l e Rm s m args below meth c H locs cells slots (MQ below (cm_Qc g Q) args s kc ks (cm_A g)) (F0 m pc als (st.map (cm_em g)))
def cm_N (y : cm_M) (pc : Nat) (i : Instr) (n pc' : Nat) : Prop := decode y.2.1 pc = .ok (i, n) ∧ pc + n = pc'
section CM
variable {l : Launch} {g : cm_G} {d mc ms : Nat} {y : cm_M} {pc pc' : Nat} {ls st : List Value} {I : cm_I} {L : cm_L} {R : cm_R} {ds : cm_Ds} {Q : cm_Post}
theorem x_iadd (hq : cm_N y pc .iadd 1 pc') {a b : Int32} (k : cm_Ex l g d mc ms y pc' ls (.int (a + b) :: st) I L R ds Q) : cm_Ex l g d mc ms y pc ls (.int b :: .int a :: st) I L R ds Q := by
  obtain ⟨hd, rfl⟩ := hq
  exact fun p e Rm s m args below meth c H locs cells slots kc ks als C w hS hl hr => lv_iadd C.1 C.2.1 hd (k p e Rm s m args below meth c H locs cells slots kc ks als C w hS hl hr)
end CM
end
