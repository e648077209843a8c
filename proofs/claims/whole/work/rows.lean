section
-- ===== PART A: goes FIRST, ahead of the names: the tables' words, and 'selects' of the private methods out of them =====
/-- a private method of a class that the tables say can be made, by its rows of tables_1 -/
def lw_okq (q : MethodName × Nat) : Prop := (q.1.cls ≠ "java/lang/invoke/MethodHandle" ∧ q.1.cls ≠ "java/lang/invoke/VarHandle") ∧ Cond.instantiable q.1.cls q.2 ∈ tables_1 ∧ Cond.privateMethod q.1 ∈ tables_1 ∧ Cond.instanceMethod q.1 ∈ tables_1
theorem lw_p0 : lw_okq (⟨"CellarMeter$Household", "spread", "(JI)J"⟩, 8) := ⟨⟨by decide +kernel, by decide +kernel⟩, List.mem_of_getElem? (i := 31) (by decide +kernel), List.mem_of_getElem? (i := 308) (by decide +kernel), List.mem_of_getElem? (i := 309) (by decide +kernel)⟩
theorem lw_p1 : lw_okq (⟨"CellarMeter$Household", "addRows", "(III)V"⟩, 8) := ⟨⟨by decide +kernel, by decide +kernel⟩, List.mem_of_getElem? (i := 31) (by decide +kernel), List.mem_of_getElem? (i := 312) (by decide +kernel), List.mem_of_getElem? (i := 313) (by decide +kernel)⟩
theorem lw_p2 : lw_okq (⟨"CellarMeter", "heldHouse", "()LCellarMeter$House;"⟩, 16) := ⟨⟨by decide +kernel, by decide +kernel⟩, List.mem_of_getElem? (i := 23) (by decide +kernel), List.mem_of_getElem? (i := 351) (by decide +kernel), List.mem_of_getElem? (i := 352) (by decide +kernel)⟩
theorem lw_p3 : lw_okq (⟨"CellarMeter$HouseReader", "readClause", "()V"⟩, 4) := ⟨⟨by decide +kernel, by decide +kernel⟩, List.mem_of_getElem? (i := 85) (by decide +kernel), List.mem_of_getElem? (i := 395) (by decide +kernel), List.mem_of_getElem? (i := 396) (by decide +kernel)⟩
theorem lw_p4 : lw_okq (⟨"CellarMeter$HouseReader", "readWord", "(Ljava/lang/String;)V"⟩, 4) := ⟨⟨by decide +kernel, by decide +kernel⟩, List.mem_of_getElem? (i := 85) (by decide +kernel), List.mem_of_getElem? (i := 404) (by decide +kernel), List.mem_of_getElem? (i := 405) (by decide +kernel)⟩
theorem lw_p5 : lw_okq (⟨"CellarMeter$HouseReader", "readSign", "(I)V"⟩, 4) := ⟨⟨by decide +kernel, by decide +kernel⟩, List.mem_of_getElem? (i := 85) (by decide +kernel), List.mem_of_getElem? (i := 456) (by decide +kernel), List.mem_of_getElem? (i := 457) (by decide +kernel)⟩
theorem lw_p6 : lw_okq (⟨"CellarMeter$HouseReader", "readEither", "(I)V"⟩, 4) := ⟨⟨by decide +kernel, by decide +kernel⟩, List.mem_of_getElem? (i := 85) (by decide +kernel), List.mem_of_getElem? (i := 460) (by decide +kernel), List.mem_of_getElem? (i := 461) (by decide +kernel)⟩
theorem lw_p7 : lw_okq (⟨"CellarMeter$HouseReader", "readBoth", "(I)V"⟩, 4) := ⟨⟨by decide +kernel, by decide +kernel⟩, List.mem_of_getElem? (i := 85) (by decide +kernel), List.mem_of_getElem? (i := 464) (by decide +kernel), List.mem_of_getElem? (i := 465) (by decide +kernel)⟩
theorem lw_p8 : lw_okq (⟨"CellarMeter$HouseReader", "readSingle", "(I)V"⟩, 4) := ⟨⟨by decide +kernel, by decide +kernel⟩, List.mem_of_getElem? (i := 85) (by decide +kernel), List.mem_of_getElem? (i := 468) (by decide +kernel), List.mem_of_getElem? (i := 469) (by decide +kernel)⟩
theorem lw_p9 : lw_okq (⟨"CellarMeter$HouseReader", "readTest", "()V"⟩, 4) := ⟨⟨by decide +kernel, by decide +kernel⟩, List.mem_of_getElem? (i := 85) (by decide +kernel), List.mem_of_getElem? (i := 472) (by decide +kernel), List.mem_of_getElem? (i := 473) (by decide +kernel)⟩
theorem lw_p10 : lw_okq (⟨"CellarMeter$HouseReader", "readOneOf", "(Ljava/lang/String;)I"⟩, 4) := ⟨⟨by decide +kernel, by decide +kernel⟩, List.mem_of_getElem? (i := 85) (by decide +kernel), List.mem_of_getElem? (i := 477) (by decide +kernel), List.mem_of_getElem? (i := 478) (by decide +kernel)⟩
theorem lw_p11 : lw_okq (⟨"CellarMeter$HouseReader", "readNumber", "(I)I"⟩, 4) := ⟨⟨by decide +kernel, by decide +kernel⟩, List.mem_of_getElem? (i := 85) (by decide +kernel), List.mem_of_getElem? (i := 482) (by decide +kernel), List.mem_of_getElem? (i := 483) (by decide +kernel)⟩
theorem lw_p12 : lw_okq (⟨"CellarMeter$HouseReader", "readNested", "(ZI)V"⟩, 4) := ⟨⟨by decide +kernel, by decide +kernel⟩, List.mem_of_getElem? (i := 85) (by decide +kernel), List.mem_of_getElem? (i := 498) (by decide +kernel), List.mem_of_getElem? (i := 499) (by decide +kernel)⟩
theorem lw_p13 : lw_okq (⟨"CellarMeter$HouseReader", "readTable", "(Z)V"⟩, 4) := ⟨⟨by decide +kernel, by decide +kernel⟩, List.mem_of_getElem? (i := 85) (by decide +kernel), List.mem_of_getElem? (i := 504) (by decide +kernel), List.mem_of_getElem? (i := 505) (by decide +kernel)⟩
theorem lw_p14 : lw_okq (⟨"CellarMeter", "meterAt", "(I)LCellarMeter$Meter;"⟩, 16) := ⟨⟨by decide +kernel, by decide +kernel⟩, List.mem_of_getElem? (i := 23) (by decide +kernel), List.mem_of_getElem? (i := 524) (by decide +kernel), List.mem_of_getElem? (i := 525) (by decide +kernel)⟩
theorem lw_p15 : lw_okq (⟨"CellarMeter", "laid", "()LCellarMeter$Telling;"⟩, 16) := ⟨⟨by decide +kernel, by decide +kernel⟩, List.mem_of_getElem? (i := 23) (by decide +kernel), List.mem_of_getElem? (i := 548) (by decide +kernel), List.mem_of_getElem? (i := 549) (by decide +kernel)⟩
def lw_privs_1 : List (MethodName × Nat) := [(⟨"CellarMeter$Household", "spread", "(JI)J"⟩, 8), (⟨"CellarMeter$Household", "addRows", "(III)V"⟩, 8), (⟨"CellarMeter", "heldHouse", "()LCellarMeter$House;"⟩, 16), (⟨"CellarMeter$HouseReader", "readClause", "()V"⟩, 4), (⟨"CellarMeter$HouseReader", "readWord", "(Ljava/lang/String;)V"⟩, 4), (⟨"CellarMeter$HouseReader", "readSign", "(I)V"⟩, 4), (⟨"CellarMeter$HouseReader", "readEither", "(I)V"⟩, 4), (⟨"CellarMeter$HouseReader", "readBoth", "(I)V"⟩, 4), (⟨"CellarMeter$HouseReader", "readSingle", "(I)V"⟩, 4), (⟨"CellarMeter$HouseReader", "readTest", "()V"⟩, 4), (⟨"CellarMeter$HouseReader", "readOneOf", "(Ljava/lang/String;)I"⟩, 4), (⟨"CellarMeter$HouseReader", "readNumber", "(I)I"⟩, 4), (⟨"CellarMeter$HouseReader", "readNested", "(ZI)V"⟩, 4), (⟨"CellarMeter$HouseReader", "readTable", "(Z)V"⟩, 4), (⟨"CellarMeter", "meterAt", "(I)LCellarMeter$Meter;"⟩, 16), (⟨"CellarMeter", "laid", "()LCellarMeter$Telling;"⟩, 16)]
theorem lw_r1 : ∀ q ∈ lw_privs_1, lw_okq q := List.forall_mem_cons.mpr ⟨lw_p0, List.forall_mem_cons.mpr ⟨lw_p1, List.forall_mem_cons.mpr ⟨lw_p2, List.forall_mem_cons.mpr ⟨lw_p3, List.forall_mem_cons.mpr ⟨lw_p4, List.forall_mem_cons.mpr ⟨lw_p5, List.forall_mem_cons.mpr ⟨lw_p6, List.forall_mem_cons.mpr ⟨lw_p7, List.forall_mem_cons.mpr ⟨lw_p8, List.forall_mem_cons.mpr ⟨lw_p9, List.forall_mem_cons.mpr ⟨lw_p10, List.forall_mem_cons.mpr ⟨lw_p11, List.forall_mem_cons.mpr ⟨lw_p12, List.forall_mem_cons.mpr ⟨lw_p13, List.forall_mem_cons.mpr ⟨lw_p14, List.forall_mem_cons.mpr ⟨lw_p15, fun _ h => absurd h List.not_mem_nil⟩⟩⟩⟩⟩⟩⟩⟩⟩⟩⟩⟩⟩⟩⟩⟩
theorem lw_p16 : lw_okq (⟨"CellarMeter$Telling", "near", "([IIII)J"⟩, 15) := ⟨⟨by decide +kernel, by decide +kernel⟩, List.mem_of_getElem? (i := 149) (by decide +kernel), List.mem_of_getElem? (i := 600) (by decide +kernel), List.mem_of_getElem? (i := 601) (by decide +kernel)⟩
theorem lw_p17 : lw_okq (⟨"CellarMeter$Telling", "countStep", "(I)V"⟩, 15) := ⟨⟨by decide +kernel, by decide +kernel⟩, List.mem_of_getElem? (i := 149) (by decide +kernel), List.mem_of_getElem? (i := 623) (by decide +kernel), List.mem_of_getElem? (i := 624) (by decide +kernel)⟩
theorem lw_p18 : lw_okq (⟨"CellarMeter$Telling", "reach", "()Z"⟩, 15) := ⟨⟨by decide +kernel, by decide +kernel⟩, List.mem_of_getElem? (i := 149) (by decide +kernel), List.mem_of_getElem? (i := 655) (by decide +kernel), List.mem_of_getElem? (i := 656) (by decide +kernel)⟩
theorem lw_p19 : lw_okq (⟨"CellarMeter$Household", "joined", "([JJ)J"⟩, 8) := ⟨⟨by decide +kernel, by decide +kernel⟩, List.mem_of_getElem? (i := 31) (by decide +kernel), List.mem_of_getElem? (i := 663) (by decide +kernel), List.mem_of_getElem? (i := 664) (by decide +kernel)⟩
theorem lw_p20 : lw_okq (⟨"CellarMeter$Telling", "findCheapest", "(I)I"⟩, 15) := ⟨⟨by decide +kernel, by decide +kernel⟩, List.mem_of_getElem? (i := 149) (by decide +kernel), List.mem_of_getElem? (i := 667) (by decide +kernel), List.mem_of_getElem? (i := 668) (by decide +kernel)⟩
theorem lw_p21 : lw_okq (⟨"CellarMeter$Telling", "trimBackTo", "(I)V"⟩, 15) := ⟨⟨by decide +kernel, by decide +kernel⟩, List.mem_of_getElem? (i := 149) (by decide +kernel), List.mem_of_getElem? (i := 671) (by decide +kernel), List.mem_of_getElem? (i := 672) (by decide +kernel)⟩
theorem lw_p22 : lw_okq (⟨"CellarMeter$Telling", "bestNext", "(III)I"⟩, 15) := ⟨⟨by decide +kernel, by decide +kernel⟩, List.mem_of_getElem? (i := 149) (by decide +kernel), List.mem_of_getElem? (i := 679) (by decide +kernel), List.mem_of_getElem? (i := 680) (by decide +kernel)⟩
theorem lw_p23 : lw_okq (⟨"CellarMeter$Telling", "costOf", "(IIII)I"⟩, 15) := ⟨⟨by decide +kernel, by decide +kernel⟩, List.mem_of_getElem? (i := 149) (by decide +kernel), List.mem_of_getElem? (i := 683) (by decide +kernel), List.mem_of_getElem? (i := 684) (by decide +kernel)⟩
theorem lw_p24 : lw_okq (⟨"CellarMeter", "areAlike", "(II)Z"⟩, 16) := ⟨⟨by decide +kernel, by decide +kernel⟩, List.mem_of_getElem? (i := 23) (by decide +kernel), List.mem_of_getElem? (i := 721) (by decide +kernel), List.mem_of_getElem? (i := 722) (by decide +kernel)⟩
theorem lw_p25 : lw_okq (⟨"CellarMeter", "tapeAt", "(I)LCellarMeter$Tape;"⟩, 16) := ⟨⟨by decide +kernel, by decide +kernel⟩, List.mem_of_getElem? (i := 23) (by decide +kernel), List.mem_of_getElem? (i := 765) (by decide +kernel), List.mem_of_getElem? (i := 766) (by decide +kernel)⟩
theorem lw_p26 : lw_okq (⟨"CellarMeter$Tape", "cut", "(J)J"⟩, 3) := ⟨⟨by decide +kernel, by decide +kernel⟩, List.mem_of_getElem? (i := 216) (by decide +kernel), List.mem_of_getElem? (i := 860) (by decide +kernel), List.mem_of_getElem? (i := 861) (by decide +kernel)⟩
theorem lw_p27 : lw_okq (⟨"CellarMeterModel", "in", "(III)Z"⟩, 45) := ⟨⟨by decide +kernel, by decide +kernel⟩, List.mem_of_getElem? (i := 881) (by decide +kernel), List.mem_of_getElem? (i := 1028) (by decide +kernel), List.mem_of_getElem? (i := 1029) (by decide +kernel)⟩
theorem lw_p28 : lw_okq (⟨"CellarMeterModel", "isThing", "(I)Z"⟩, 45) := ⟨⟨by decide +kernel, by decide +kernel⟩, List.mem_of_getElem? (i := 881) (by decide +kernel), List.mem_of_getElem? (i := 1036) (by decide +kernel), List.mem_of_getElem? (i := 1037) (by decide +kernel)⟩
theorem lw_p29 : lw_okq (⟨"CellarMeterModel", "isNext", "(III)Z"⟩, 45) := ⟨⟨by decide +kernel, by decide +kernel⟩, List.mem_of_getElem? (i := 881) (by decide +kernel), List.mem_of_getElem? (i := 1040) (by decide +kernel), List.mem_of_getElem? (i := 1041) (by decide +kernel)⟩
theorem lw_p30 : lw_okq (⟨"CellarMeterModel", "goes", "(I)Z"⟩, 45) := ⟨⟨by decide +kernel, by decide +kernel⟩, List.mem_of_getElem? (i := 881) (by decide +kernel), List.mem_of_getElem? (i := 1052) (by decide +kernel), List.mem_of_getElem? (i := 1053) (by decide +kernel)⟩
theorem lw_p31 : lw_okq (⟨"CellarMeterModel", "takesClause", "(I)Z"⟩, 45) := ⟨⟨by decide +kernel, by decide +kernel⟩, List.mem_of_getElem? (i := 881) (by decide +kernel), List.mem_of_getElem? (i := 1056) (by decide +kernel), List.mem_of_getElem? (i := 1057) (by decide +kernel)⟩
def lw_privs_2 : List (MethodName × Nat) := [(⟨"CellarMeter$Telling", "near", "([IIII)J"⟩, 15), (⟨"CellarMeter$Telling", "countStep", "(I)V"⟩, 15), (⟨"CellarMeter$Telling", "reach", "()Z"⟩, 15), (⟨"CellarMeter$Household", "joined", "([JJ)J"⟩, 8), (⟨"CellarMeter$Telling", "findCheapest", "(I)I"⟩, 15), (⟨"CellarMeter$Telling", "trimBackTo", "(I)V"⟩, 15), (⟨"CellarMeter$Telling", "bestNext", "(III)I"⟩, 15), (⟨"CellarMeter$Telling", "costOf", "(IIII)I"⟩, 15), (⟨"CellarMeter", "areAlike", "(II)Z"⟩, 16), (⟨"CellarMeter", "tapeAt", "(I)LCellarMeter$Tape;"⟩, 16), (⟨"CellarMeter$Tape", "cut", "(J)J"⟩, 3), (⟨"CellarMeterModel", "in", "(III)Z"⟩, 45), (⟨"CellarMeterModel", "isThing", "(I)Z"⟩, 45), (⟨"CellarMeterModel", "isNext", "(III)Z"⟩, 45), (⟨"CellarMeterModel", "goes", "(I)Z"⟩, 45), (⟨"CellarMeterModel", "takesClause", "(I)Z"⟩, 45)]
theorem lw_r2 : ∀ q ∈ lw_privs_2, lw_okq q := List.forall_mem_cons.mpr ⟨lw_p16, List.forall_mem_cons.mpr ⟨lw_p17, List.forall_mem_cons.mpr ⟨lw_p18, List.forall_mem_cons.mpr ⟨lw_p19, List.forall_mem_cons.mpr ⟨lw_p20, List.forall_mem_cons.mpr ⟨lw_p21, List.forall_mem_cons.mpr ⟨lw_p22, List.forall_mem_cons.mpr ⟨lw_p23, List.forall_mem_cons.mpr ⟨lw_p24, List.forall_mem_cons.mpr ⟨lw_p25, List.forall_mem_cons.mpr ⟨lw_p26, List.forall_mem_cons.mpr ⟨lw_p27, List.forall_mem_cons.mpr ⟨lw_p28, List.forall_mem_cons.mpr ⟨lw_p29, List.forall_mem_cons.mpr ⟨lw_p30, List.forall_mem_cons.mpr ⟨lw_p31, fun _ h => absurd h List.not_mem_nil⟩⟩⟩⟩⟩⟩⟩⟩⟩⟩⟩⟩⟩⟩⟩⟩
theorem lw_p32 : lw_okq (⟨"CellarMeterModel", "next", "()I"⟩, 45) := ⟨⟨by decide +kernel, by decide +kernel⟩, List.mem_of_getElem? (i := 881) (by decide +kernel), List.mem_of_getElem? (i := 1060) (by decide +kernel), List.mem_of_getElem? (i := 1061) (by decide +kernel)⟩
theorem lw_p33 : lw_okq (⟨"CellarMeterModel", "takesWord", "(II)Z"⟩, 45) := ⟨⟨by decide +kernel, by decide +kernel⟩, List.mem_of_getElem? (i := 881) (by decide +kernel), List.mem_of_getElem? (i := 1065) (by decide +kernel), List.mem_of_getElem? (i := 1066) (by decide +kernel)⟩
theorem lw_p34 : lw_okq (⟨"CellarMeterModel", "takesSign", "(I)Z"⟩, 45) := ⟨⟨by decide +kernel, by decide +kernel⟩, List.mem_of_getElem? (i := 881) (by decide +kernel), List.mem_of_getElem? (i := 1069) (by decide +kernel), List.mem_of_getElem? (i := 1070) (by decide +kernel)⟩
theorem lw_p35 : lw_okq (⟨"CellarMeterModel", "takesState", "(I)Z"⟩, 45) := ⟨⟨by decide +kernel, by decide +kernel⟩, List.mem_of_getElem? (i := 881) (by decide +kernel), List.mem_of_getElem? (i := 1073) (by decide +kernel), List.mem_of_getElem? (i := 1074) (by decide +kernel)⟩
theorem lw_p36 : lw_okq (⟨"CellarMeterModel", "takesFigure", "()Z"⟩, 45) := ⟨⟨by decide +kernel, by decide +kernel⟩, List.mem_of_getElem? (i := 881) (by decide +kernel), List.mem_of_getElem? (i := 1077) (by decide +kernel), List.mem_of_getElem? (i := 1078) (by decide +kernel)⟩
theorem lw_p37 : lw_okq (⟨"CellarMeterModel", "takesNumber", "(I)Z"⟩, 45) := ⟨⟨by decide +kernel, by decide +kernel⟩, List.mem_of_getElem? (i := 881) (by decide +kernel), List.mem_of_getElem? (i := 1081) (by decide +kernel), List.mem_of_getElem? (i := 1082) (by decide +kernel)⟩
theorem lw_p38 : lw_okq (⟨"CellarMeterModel", "isDigit", "()Z"⟩, 45) := ⟨⟨by decide +kernel, by decide +kernel⟩, List.mem_of_getElem? (i := 881) (by decide +kernel), List.mem_of_getElem? (i := 1085) (by decide +kernel), List.mem_of_getElem? (i := 1086) (by decide +kernel)⟩
theorem lw_p39 : lw_okq (⟨"CellarMeterModel", "takesE", "(I)Z"⟩, 45) := ⟨⟨by decide +kernel, by decide +kernel⟩, List.mem_of_getElem? (i := 881) (by decide +kernel), List.mem_of_getElem? (i := 1089) (by decide +kernel), List.mem_of_getElem? (i := 1090) (by decide +kernel)⟩
theorem lw_p40 : lw_okq (⟨"CellarMeterModel", "takesTest", "()Z"⟩, 45) := ⟨⟨by decide +kernel, by decide +kernel⟩, List.mem_of_getElem? (i := 881) (by decide +kernel), List.mem_of_getElem? (i := 1093) (by decide +kernel), List.mem_of_getElem? (i := 1094) (by decide +kernel)⟩
theorem lw_p41 : lw_okq (⟨"CellarMeterModel", "put", "(I)V"⟩, 45) := ⟨⟨by decide +kernel, by decide +kernel⟩, List.mem_of_getElem? (i := 881) (by decide +kernel), List.mem_of_getElem? (i := 1097) (by decide +kernel), List.mem_of_getElem? (i := 1098) (by decide +kernel)⟩
theorem lw_p42 : lw_okq (⟨"CellarMeterModel", "whole", "()V"⟩, 45) := ⟨⟨by decide +kernel, by decide +kernel⟩, List.mem_of_getElem? (i := 881) (by decide +kernel), List.mem_of_getElem? (i := 1101) (by decide +kernel), List.mem_of_getElem? (i := 1102) (by decide +kernel)⟩
theorem lw_p43 : lw_okq (⟨"CellarMeterModel", "settle", "(I)V"⟩, 45) := ⟨⟨by decide +kernel, by decide +kernel⟩, List.mem_of_getElem? (i := 881) (by decide +kernel), List.mem_of_getElem? (i := 1105) (by decide +kernel), List.mem_of_getElem? (i := 1106) (by decide +kernel)⟩
theorem lw_p44 : lw_okq (⟨"CellarMeterModel", "second", "()I"⟩, 45) := ⟨⟨by decide +kernel, by decide +kernel⟩, List.mem_of_getElem? (i := 881) (by decide +kernel), List.mem_of_getElem? (i := 1109) (by decide +kernel), List.mem_of_getElem? (i := 1110) (by decide +kernel)⟩
theorem lw_p45 : lw_okq (⟨"CellarMeterModel", "last", "(II)I"⟩, 45) := ⟨⟨by decide +kernel, by decide +kernel⟩, List.mem_of_getElem? (i := 881) (by decide +kernel), List.mem_of_getElem? (i := 1119) (by decide +kernel), List.mem_of_getElem? (i := 1120) (by decide +kernel)⟩
theorem lw_p46 : lw_okq (⟨"CellarMeterModel", "first", "()I"⟩, 45) := ⟨⟨by decide +kernel, by decide +kernel⟩, List.mem_of_getElem? (i := 881) (by decide +kernel), List.mem_of_getElem? (i := 1123) (by decide +kernel), List.mem_of_getElem? (i := 1124) (by decide +kernel)⟩
theorem lw_p47 : lw_okq (⟨"CellarMeterModel", "behind", "()I"⟩, 45) := ⟨⟨by decide +kernel, by decide +kernel⟩, List.mem_of_getElem? (i := 881) (by decide +kernel), List.mem_of_getElem? (i := 1127) (by decide +kernel), List.mem_of_getElem? (i := 1128) (by decide +kernel)⟩
def lw_privs_3 : List (MethodName × Nat) := [(⟨"CellarMeterModel", "next", "()I"⟩, 45), (⟨"CellarMeterModel", "takesWord", "(II)Z"⟩, 45), (⟨"CellarMeterModel", "takesSign", "(I)Z"⟩, 45), (⟨"CellarMeterModel", "takesState", "(I)Z"⟩, 45), (⟨"CellarMeterModel", "takesFigure", "()Z"⟩, 45), (⟨"CellarMeterModel", "takesNumber", "(I)Z"⟩, 45), (⟨"CellarMeterModel", "isDigit", "()Z"⟩, 45), (⟨"CellarMeterModel", "takesE", "(I)Z"⟩, 45), (⟨"CellarMeterModel", "takesTest", "()Z"⟩, 45), (⟨"CellarMeterModel", "put", "(I)V"⟩, 45), (⟨"CellarMeterModel", "whole", "()V"⟩, 45), (⟨"CellarMeterModel", "settle", "(I)V"⟩, 45), (⟨"CellarMeterModel", "second", "()I"⟩, 45), (⟨"CellarMeterModel", "last", "(II)I"⟩, 45), (⟨"CellarMeterModel", "first", "()I"⟩, 45), (⟨"CellarMeterModel", "behind", "()I"⟩, 45)]
theorem lw_r3 : ∀ q ∈ lw_privs_3, lw_okq q := List.forall_mem_cons.mpr ⟨lw_p32, List.forall_mem_cons.mpr ⟨lw_p33, List.forall_mem_cons.mpr ⟨lw_p34, List.forall_mem_cons.mpr ⟨lw_p35, List.forall_mem_cons.mpr ⟨lw_p36, List.forall_mem_cons.mpr ⟨lw_p37, List.forall_mem_cons.mpr ⟨lw_p38, List.forall_mem_cons.mpr ⟨lw_p39, List.forall_mem_cons.mpr ⟨lw_p40, List.forall_mem_cons.mpr ⟨lw_p41, List.forall_mem_cons.mpr ⟨lw_p42, List.forall_mem_cons.mpr ⟨lw_p43, List.forall_mem_cons.mpr ⟨lw_p44, List.forall_mem_cons.mpr ⟨lw_p45, List.forall_mem_cons.mpr ⟨lw_p46, List.forall_mem_cons.mpr ⟨lw_p47, fun _ h => absurd h List.not_mem_nil⟩⟩⟩⟩⟩⟩⟩⟩⟩⟩⟩⟩⟩⟩⟩⟩
theorem lw_p48 : lw_okq (⟨"CellarMeterModel", "isReading", "(I)Z"⟩, 45) := ⟨⟨by decide +kernel, by decide +kernel⟩, List.mem_of_getElem? (i := 881) (by decide +kernel), List.mem_of_getElem? (i := 1143) (by decide +kernel), List.mem_of_getElem? (i := 1144) (by decide +kernel)⟩
theorem lw_p49 : lw_okq (⟨"CellarMeterModel", "layAll", "()V"⟩, 45) := ⟨⟨by decide +kernel, by decide +kernel⟩, List.mem_of_getElem? (i := 881) (by decide +kernel), List.mem_of_getElem? (i := 1147) (by decide +kernel), List.mem_of_getElem? (i := 1148) (by decide +kernel)⟩
theorem lw_p50 : lw_okq (⟨"CellarMeterModel", "layWay", "(I)V"⟩, 45) := ⟨⟨by decide +kernel, by decide +kernel⟩, List.mem_of_getElem? (i := 881) (by decide +kernel), List.mem_of_getElem? (i := 1151) (by decide +kernel), List.mem_of_getElem? (i := 1152) (by decide +kernel)⟩
theorem lw_p51 : lw_okq (⟨"CellarMeterModel", "mayBe", "(II)Z"⟩, 45) := ⟨⟨by decide +kernel, by decide +kernel⟩, List.mem_of_getElem? (i := 881) (by decide +kernel), List.mem_of_getElem? (i := 1155) (by decide +kernel), List.mem_of_getElem? (i := 1156) (by decide +kernel)⟩
theorem lw_p52 : lw_okq (⟨"CellarMeterModel", "isUnder", "(II)Z"⟩, 45) := ⟨⟨by decide +kernel, by decide +kernel⟩, List.mem_of_getElem? (i := 881) (by decide +kernel), List.mem_of_getElem? (i := 1159) (by decide +kernel), List.mem_of_getElem? (i := 1160) (by decide +kernel)⟩
theorem lw_p53 : lw_okq (⟨"CellarMeterModel", "holds", "(III)Z"⟩, 45) := ⟨⟨by decide +kernel, by decide +kernel⟩, List.mem_of_getElem? (i := 881) (by decide +kernel), List.mem_of_getElem? (i := 1163) (by decide +kernel), List.mem_of_getElem? (i := 1164) (by decide +kernel)⟩
theorem lw_p54 : lw_okq (⟨"CellarMeterModel", "layFits", "(II)V"⟩, 45) := ⟨⟨by decide +kernel, by decide +kernel⟩, List.mem_of_getElem? (i := 881) (by decide +kernel), List.mem_of_getElem? (i := 1167) (by decide +kernel), List.mem_of_getElem? (i := 1168) (by decide +kernel)⟩
theorem lw_p55 : lw_okq (⟨"CellarMeterModel", "isNear", "(III)Z"⟩, 45) := ⟨⟨by decide +kernel, by decide +kernel⟩, List.mem_of_getElem? (i := 881) (by decide +kernel), List.mem_of_getElem? (i := 1171) (by decide +kernel), List.mem_of_getElem? (i := 1172) (by decide +kernel)⟩
theorem lw_p56 : lw_okq (⟨"CellarMeterModel", "look", "()Z"⟩, 45) := ⟨⟨by decide +kernel, by decide +kernel⟩, List.mem_of_getElem? (i := 881) (by decide +kernel), List.mem_of_getElem? (i := 1179) (by decide +kernel), List.mem_of_getElem? (i := 1180) (by decide +kernel)⟩
theorem lw_p57 : lw_okq (⟨"CellarMeterModel", "findLive", "()Z"⟩, 45) := ⟨⟨by decide +kernel, by decide +kernel⟩, List.mem_of_getElem? (i := 881) (by decide +kernel), List.mem_of_getElem? (i := 1183) (by decide +kernel), List.mem_of_getElem? (i := 1184) (by decide +kernel)⟩
theorem lw_p58 : lw_okq (⟨"CellarMeterModel", "findTale", "(II)I"⟩, 45) := ⟨⟨by decide +kernel, by decide +kernel⟩, List.mem_of_getElem? (i := 881) (by decide +kernel), List.mem_of_getElem? (i := 1196) (by decide +kernel), List.mem_of_getElem? (i := 1197) (by decide +kernel)⟩
theorem lw_p59 : lw_okq (⟨"CellarMeterModel", "costOf", "(III)I"⟩, 45) := ⟨⟨by decide +kernel, by decide +kernel⟩, List.mem_of_getElem? (i := 881) (by decide +kernel), List.mem_of_getElem? (i := 1201) (by decide +kernel), List.mem_of_getElem? (i := 1202) (by decide +kernel)⟩
theorem lw_p60 : lw_okq (⟨"CellarMeterModel", "onAt", "(IZ)I"⟩, 45) := ⟨⟨by decide +kernel, by decide +kernel⟩, List.mem_of_getElem? (i := 881) (by decide +kernel), List.mem_of_getElem? (i := 1213) (by decide +kernel), List.mem_of_getElem? (i := 1214) (by decide +kernel)⟩
theorem lw_p61 : lw_okq (⟨"CellarMeterModel", "areAlike", "(II)Z"⟩, 45) := ⟨⟨by decide +kernel, by decide +kernel⟩, List.mem_of_getElem? (i := 881) (by decide +kernel), List.mem_of_getElem? (i := 1221) (by decide +kernel), List.mem_of_getElem? (i := 1222) (by decide +kernel)⟩
theorem lw_p62 : lw_okq (⟨"CellarMeterModel", "stands", "(I)Z"⟩, 45) := ⟨⟨by decide +kernel, by decide +kernel⟩, List.mem_of_getElem? (i := 881) (by decide +kernel), List.mem_of_getElem? (i := 1225) (by decide +kernel), List.mem_of_getElem? (i := 1226) (by decide +kernel)⟩
theorem lw_p63 : lw_okq (⟨"CellarMeterModel", "wireSum", "(II)I"⟩, 45) := ⟨⟨by decide +kernel, by decide +kernel⟩, List.mem_of_getElem? (i := 881) (by decide +kernel), List.mem_of_getElem? (i := 1241) (by decide +kernel), List.mem_of_getElem? (i := 1242) (by decide +kernel)⟩
def lw_privs_4 : List (MethodName × Nat) := [(⟨"CellarMeterModel", "isReading", "(I)Z"⟩, 45), (⟨"CellarMeterModel", "layAll", "()V"⟩, 45), (⟨"CellarMeterModel", "layWay", "(I)V"⟩, 45), (⟨"CellarMeterModel", "mayBe", "(II)Z"⟩, 45), (⟨"CellarMeterModel", "isUnder", "(II)Z"⟩, 45), (⟨"CellarMeterModel", "holds", "(III)Z"⟩, 45), (⟨"CellarMeterModel", "layFits", "(II)V"⟩, 45), (⟨"CellarMeterModel", "isNear", "(III)Z"⟩, 45), (⟨"CellarMeterModel", "look", "()Z"⟩, 45), (⟨"CellarMeterModel", "findLive", "()Z"⟩, 45), (⟨"CellarMeterModel", "findTale", "(II)I"⟩, 45), (⟨"CellarMeterModel", "costOf", "(III)I"⟩, 45), (⟨"CellarMeterModel", "onAt", "(IZ)I"⟩, 45), (⟨"CellarMeterModel", "areAlike", "(II)Z"⟩, 45), (⟨"CellarMeterModel", "stands", "(I)Z"⟩, 45), (⟨"CellarMeterModel", "wireSum", "(II)I"⟩, 45)]
theorem lw_r4 : ∀ q ∈ lw_privs_4, lw_okq q := List.forall_mem_cons.mpr ⟨lw_p48, List.forall_mem_cons.mpr ⟨lw_p49, List.forall_mem_cons.mpr ⟨lw_p50, List.forall_mem_cons.mpr ⟨lw_p51, List.forall_mem_cons.mpr ⟨lw_p52, List.forall_mem_cons.mpr ⟨lw_p53, List.forall_mem_cons.mpr ⟨lw_p54, List.forall_mem_cons.mpr ⟨lw_p55, List.forall_mem_cons.mpr ⟨lw_p56, List.forall_mem_cons.mpr ⟨lw_p57, List.forall_mem_cons.mpr ⟨lw_p58, List.forall_mem_cons.mpr ⟨lw_p59, List.forall_mem_cons.mpr ⟨lw_p60, List.forall_mem_cons.mpr ⟨lw_p61, List.forall_mem_cons.mpr ⟨lw_p62, List.forall_mem_cons.mpr ⟨lw_p63, fun _ h => absurd h List.not_mem_nil⟩⟩⟩⟩⟩⟩⟩⟩⟩⟩⟩⟩⟩⟩⟩⟩
theorem lw_p64 : lw_okq (⟨"CellarMeterModel", "isTape", "(I)Z"⟩, 45) := ⟨⟨by decide +kernel, by decide +kernel⟩, List.mem_of_getElem? (i := 881) (by decide +kernel), List.mem_of_getElem? (i := 1253) (by decide +kernel), List.mem_of_getElem? (i := 1254) (by decide +kernel)⟩
theorem lw_p65 : lw_okq (⟨"CellarMeterModel", "takesAct", "(II)I"⟩, 45) := ⟨⟨by decide +kernel, by decide +kernel⟩, List.mem_of_getElem? (i := 881) (by decide +kernel), List.mem_of_getElem? (i := 1269) (by decide +kernel), List.mem_of_getElem? (i := 1270) (by decide +kernel)⟩
theorem lw_p66 : lw_okq (⟨"CellarMeterModel", "body", "(I)V"⟩, 45) := ⟨⟨by decide +kernel, by decide +kernel⟩, List.mem_of_getElem? (i := 881) (by decide +kernel), List.mem_of_getElem? (i := 1273) (by decide +kernel), List.mem_of_getElem? (i := 1274) (by decide +kernel)⟩
theorem lw_p67 : lw_okq (⟨"CellarMeterModel", "plainTakes", "(II)I"⟩, 45) := ⟨⟨by decide +kernel, by decide +kernel⟩, List.mem_of_getElem? (i := 881) (by decide +kernel), List.mem_of_getElem? (i := 1277) (by decide +kernel), List.mem_of_getElem? (i := 1278) (by decide +kernel)⟩
theorem lw_p68 : lw_okq (⟨"CellarMeterModel", "followsAct", "(II)I"⟩, 45) := ⟨⟨by decide +kernel, by decide +kernel⟩, List.mem_of_getElem? (i := 881) (by decide +kernel), List.mem_of_getElem? (i := 1281) (by decide +kernel), List.mem_of_getElem? (i := 1282) (by decide +kernel)⟩
theorem lw_p69 : lw_okq (⟨"CellarMeterModel", "switchFollows", "(II)I"⟩, 45) := ⟨⟨by decide +kernel, by decide +kernel⟩, List.mem_of_getElem? (i := 881) (by decide +kernel), List.mem_of_getElem? (i := 1285) (by decide +kernel), List.mem_of_getElem? (i := 1286) (by decide +kernel)⟩
theorem lw_p70 : lw_okq (⟨"CellarMeterModel", "plainFollows", "(II)I"⟩, 45) := ⟨⟨by decide +kernel, by decide +kernel⟩, List.mem_of_getElem? (i := 881) (by decide +kernel), List.mem_of_getElem? (i := 1289) (by decide +kernel), List.mem_of_getElem? (i := 1290) (by decide +kernel)⟩
theorem lw_p71 : lw_okq (⟨"CellarMeterModel", "tellsAct", "(II)I"⟩, 45) := ⟨⟨by decide +kernel, by decide +kernel⟩, List.mem_of_getElem? (i := 881) (by decide +kernel), List.mem_of_getElem? (i := 1293) (by decide +kernel), List.mem_of_getElem? (i := 1294) (by decide +kernel)⟩
theorem lw_p72 : lw_okq (⟨"CellarMeterModel", "plainTells", "(II)I"⟩, 45) := ⟨⟨by decide +kernel, by decide +kernel⟩, List.mem_of_getElem? (i := 881) (by decide +kernel), List.mem_of_getElem? (i := 1297) (by decide +kernel), List.mem_of_getElem? (i := 1298) (by decide +kernel)⟩
theorem lw_p73 : lw_okq (⟨"CellarMeterModel", "narrow", "(IJ)J"⟩, 45) := ⟨⟨by decide +kernel, by decide +kernel⟩, List.mem_of_getElem? (i := 881) (by decide +kernel), List.mem_of_getElem? (i := 1321) (by decide +kernel), List.mem_of_getElem? (i := 1322) (by decide +kernel)⟩
def lw_privs_5 : List (MethodName × Nat) := [(⟨"CellarMeterModel", "isTape", "(I)Z"⟩, 45), (⟨"CellarMeterModel", "takesAct", "(II)I"⟩, 45), (⟨"CellarMeterModel", "body", "(I)V"⟩, 45), (⟨"CellarMeterModel", "plainTakes", "(II)I"⟩, 45), (⟨"CellarMeterModel", "followsAct", "(II)I"⟩, 45), (⟨"CellarMeterModel", "switchFollows", "(II)I"⟩, 45), (⟨"CellarMeterModel", "plainFollows", "(II)I"⟩, 45), (⟨"CellarMeterModel", "tellsAct", "(II)I"⟩, 45), (⟨"CellarMeterModel", "plainTells", "(II)I"⟩, 45), (⟨"CellarMeterModel", "narrow", "(IJ)J"⟩, 45)]
theorem lw_r5 : ∀ q ∈ lw_privs_5, lw_okq q := List.forall_mem_cons.mpr ⟨lw_p64, List.forall_mem_cons.mpr ⟨lw_p65, List.forall_mem_cons.mpr ⟨lw_p66, List.forall_mem_cons.mpr ⟨lw_p67, List.forall_mem_cons.mpr ⟨lw_p68, List.forall_mem_cons.mpr ⟨lw_p69, List.forall_mem_cons.mpr ⟨lw_p70, List.forall_mem_cons.mpr ⟨lw_p71, List.forall_mem_cons.mpr ⟨lw_p72, List.forall_mem_cons.mpr ⟨lw_p73, fun _ h => absurd h List.not_mem_nil⟩⟩⟩⟩⟩⟩⟩⟩⟩⟩
def lw_privs : List (MethodName × Nat) := lw_privs_1 ++ (lw_privs_2 ++ (lw_privs_3 ++ (lw_privs_4 ++ (lw_privs_5))))
def lw_tbl : List Cond := k2_sels lw_privs ++ tables_1
theorem lw_privs_ok : ∀ q ∈ lw_privs, lw_okq q := by
  show ∀ q ∈ lw_privs_1 ++ (lw_privs_2 ++ (lw_privs_3 ++ (lw_privs_4 ++ (lw_privs_5)))), lw_okq q
  exact List.forall_mem_append.mpr ⟨lw_r1, List.forall_mem_append.mpr ⟨lw_r2, List.forall_mem_append.mpr ⟨lw_r3, List.forall_mem_append.mpr ⟨lw_r4, lw_r5⟩⟩⟩⟩
end
section
def RX1 : String := "CellarMeter$House"
def TX1 : u_T := fun k => match k with
  | 0 => ("CellarMeter$House", "takes", "[I", true)
  | 1 => ("CellarMeter$House", "glads", "[I", true)
  | 2 => ("CellarMeter$House", "steps", "[I", true)
  | 3 => ("CellarMeter$House", "stepCount", "I", false)
  | 4 => ("CellarMeter$House", "named", "I", false)
  | _ => ("CellarMeter$House", "give", "I", false)
def tyX1 : Nat → FieldType := fun k => match k with
  | 0 => .array .int
  | 1 => .array .int
  | 2 => .array .int
  | 3 => .int
  | 4 => .int
  | _ => .int
theorem nmX1 : ∀ a, a < 6 → ∀ b, b < 6 → a ≠ b → (TX1 a).2.1 ≠ (TX1 b).2.1 := by decide +kernel
theorem tyX1_ok : ∀ k, k < 6 → parseFieldDescriptor (TX1 k).2.2.1 = some (tyX1 k) := by decide +kernel
def RX2 : String := "CellarMeter$HouseReader"
def TX2 : u_T := fun k => match k with
  | 0 => ("CellarMeter$HouseReader", "text", "LCellarMeter$Text;", true)
  | 1 => ("CellarMeter$HouseReader", "house", "LCellarMeter$House;", false)
  | 2 => ("CellarMeter$HouseReader", "place", "I", false)
  | _ => ("CellarMeter$HouseReader", "right", "Z", false)
def tyX2 : Nat → FieldType := fun k => match k with
  | 0 => .object "CellarMeter$Text"
  | 1 => .object "CellarMeter$House"
  | 2 => .int
  | _ => .boolean
theorem nmX2 : ∀ a, a < 4 → ∀ b, b < 4 → a ≠ b → (TX2 a).2.1 ≠ (TX2 b).2.1 := by decide +kernel
theorem tyX2_ok : ∀ k, k < 4 → parseFieldDescriptor (TX2 k).2.2.1 = some (tyX2 k) := by decide +kernel
def RX3 : String := "CellarMeter$Household"
def TX3 : u_T := fun k => match k with
  | 0 => ("CellarMeter$Household", "things", "[LCellarMeter$Thing;", true)
  | 1 => ("CellarMeter$Household", "waysIn", "[J", true)
  | 2 => ("CellarMeter$Household", "after", "[J", true)
  | 3 => ("CellarMeter$Household", "before", "[J", true)
  | 4 => ("CellarMeter$Household", "figures", "[I", true)
  | 5 => ("CellarMeter$Household", "lawful", "J", false)
  | 6 => ("CellarMeter$Household", "count", "I", false)
  | _ => ("CellarMeter$Household", "ways", "I", false)
def tyX3 : Nat → FieldType := fun k => match k with
  | 0 => .array (.object "CellarMeter$Thing")
  | 1 => .array .long
  | 2 => .array .long
  | 3 => .array .long
  | 4 => .array .int
  | 5 => .long
  | 6 => .int
  | _ => .int
theorem nmX3 : ∀ a, a < 8 → ∀ b, b < 8 → a ≠ b → (TX3 a).2.1 ≠ (TX3 b).2.1 := by decide +kernel
theorem tyX3_ok : ∀ k, k < 8 → parseFieldDescriptor (TX3 k).2.2.1 = some (tyX3 k) := by decide +kernel
def RX5 : String := "CellarMeter$Meter"
def TX5 : u_T := fun k => match k with
  | 0 => ("CellarMeter$Meter", "watts", "[I", true)
  | _ => ("CellarMeter$Meter", "count", "I", false)
def tyX5 : Nat → FieldType := fun k => match k with
  | 0 => .array .int
  | _ => .int
theorem nmX5 : ∀ a, a < 2 → ∀ b, b < 2 → a ≠ b → (TX5 a).2.1 ≠ (TX5 b).2.1 := by decide +kernel
theorem tyX5_ok : ∀ k, k < 2 → parseFieldDescriptor (TX5 k).2.2.1 = some (tyX5 k) := by decide +kernel
def RX6 : String := "CellarMeter$Tape"
def TX6 : u_T := fun k => match k with
  | 0 => ("CellarMeter$Tape", "items", "[J", true)
  | 1 => ("CellarMeter$Tape", "sort", "I", false)
  | _ => ("CellarMeter$Tape", "size", "I", false)
def tyX6 : Nat → FieldType := fun k => match k with
  | 0 => .array .long
  | 1 => .int
  | _ => .int
theorem nmX6 : ∀ a, a < 3 → ∀ b, b < 3 → a ≠ b → (TX6 a).2.1 ≠ (TX6 b).2.1 := by decide +kernel
theorem tyX6_ok : ∀ k, k < 3 → parseFieldDescriptor (TX6 k).2.2.1 = some (tyX6 k) := by decide +kernel
def RX7 : String := "CellarMeter$Telling"
def TX7 : u_T := fun k => match k with
  | 0 => ("CellarMeter$Telling", "home", "LCellarMeter$Household;", true)
  | 1 => ("CellarMeter$Telling", "meter", "LCellarMeter$Meter;", true)
  | 2 => ("CellarMeter$Telling", "open", "[J", true)
  | 3 => ("CellarMeter$Telling", "fit", "[J", true)
  | 4 => ("CellarMeter$Telling", "inTales", "[J", true)
  | 5 => ("CellarMeter$Telling", "stack", "[J", true)
  | 6 => ("CellarMeter$Telling", "totals", "[I", true)
  | 7 => ("CellarMeter$Telling", "sums", "[I", true)
  | 8 => ("CellarMeter$Telling", "counts", "[I", true)
  | 9 => ("CellarMeter$Telling", "newer", "[I", true)
  | 10 => ("CellarMeter$Telling", "cheapest", "[I", true)
  | 11 => ("CellarMeter$Telling", "row", "[I", true)
  | 12 => ("CellarMeter$Telling", "house", "LCellarMeter$House;", false)
  | 13 => ("CellarMeter$Telling", "length", "I", false)
  | _ => ("CellarMeter$Telling", "ways", "I", false)
def tyX7 : Nat → FieldType := fun k => match k with
  | 0 => .object "CellarMeter$Household"
  | 1 => .object "CellarMeter$Meter"
  | 2 => .array .long
  | 3 => .array .long
  | 4 => .array .long
  | 5 => .array .long
  | 6 => .array .int
  | 7 => .array .int
  | 8 => .array .int
  | 9 => .array .int
  | 10 => .array .int
  | 11 => .array .int
  | 12 => .object "CellarMeter$House"
  | 13 => .int
  | _ => .int
theorem nmX7 : ∀ a, a < 15 → ∀ b, b < 15 → a ≠ b → (TX7 a).2.1 ≠ (TX7 b).2.1 := by decide +kernel
theorem tyX7_ok : ∀ k, k < 15 → parseFieldDescriptor (TX7 k).2.2.1 = some (tyX7 k) := by decide +kernel
def RX8 : String := "CellarMeter$Text"
def TX8 : u_T := fun k => match k with
  | 0 => ("CellarMeter$Text", "bytes", "[I", true)
  | _ => ("CellarMeter$Text", "length", "I", false)
def tyX8 : Nat → FieldType := fun k => match k with
  | 0 => .array .int
  | _ => .int
theorem nmX8 : ∀ a, a < 2 → ∀ b, b < 2 → a ≠ b → (TX8 a).2.1 ≠ (TX8 b).2.1 := by decide +kernel
theorem tyX8_ok : ∀ k, k < 2 → parseFieldDescriptor (TX8 k).2.2.1 = some (tyX8 k) := by decide +kernel
def RX9 : String := "CellarMeter$Thing"
def TX9 : u_T := fun k => match k with
  | 0 => ("CellarMeter$Thing", "number", "I", true)
  | 1 => ("CellarMeter$Thing", "kind", "I", true)
  | _ => ("CellarMeter$Thing", "states", "I", true)
def tyX9 : Nat → FieldType := fun k => match k with
  | 0 => .int
  | 1 => .int
  | _ => .int
theorem nmX9 : ∀ a, a < 3 → ∀ b, b < 3 → a ≠ b → (TX9 a).2.1 ≠ (TX9 b).2.1 := by decide +kernel
theorem tyX9_ok : ∀ k, k < 3 → parseFieldDescriptor (TX9 k).2.2.1 = some (tyX9 k) := by decide +kernel
def RX10 : String := "CellarMeter$Trace"
def TX10 : u_T := fun k => match k with
  | 0 => ("CellarMeter$Trace", "bodies", "[I", true)
  | _ => ("CellarMeter$Trace", "ran", "I", false)
def tyX10 : Nat → FieldType := fun k => match k with
  | 0 => .array .int
  | _ => .int
theorem nmX10 : ∀ a, a < 2 → ∀ b, b < 2 → a ≠ b → (TX10 a).2.1 ≠ (TX10 b).2.1 := by decide +kernel
theorem tyX10_ok : ∀ k, k < 2 → parseFieldDescriptor (TX10 k).2.2.1 = some (tyX10 k) := by decide +kernel
def RX11 : String := "CellarMeter"
def TX11 : u_T := fun k => match k with
  | 0 => ("CellarMeter", "home", "LCellarMeter$Household;", true)
  | 1 => ("CellarMeter", "text", "LCellarMeter$Text;", true)
  | 2 => ("CellarMeter", "reader", "LCellarMeter$HouseReader;", true)
  | 3 => ("CellarMeter", "houses", "[LCellarMeter$House;", true)
  | 4 => ("CellarMeter", "bare", "LCellarMeter$House;", true)
  | 5 => ("CellarMeter", "first", "LCellarMeter$Meter;", true)
  | 6 => ("CellarMeter", "second", "LCellarMeter$Meter;", true)
  | 7 => ("CellarMeter", "imagedFirst", "LCellarMeter$Meter;", true)
  | 8 => ("CellarMeter", "imagedSecond", "LCellarMeter$Meter;", true)
  | 9 => ("CellarMeter", "telling", "LCellarMeter$Telling;", true)
  | 10 => ("CellarMeter", "latest", "LCellarMeter$Trace;", true)
  | 11 => ("CellarMeter", "tapes", "[LCellarMeter$Tape;", true)
  | 12 => ("CellarMeter", "houseCount", "I", false)
  | 13 => ("CellarMeter", "held", "I", false)
  | 14 => ("CellarMeter", "imagedHeld", "I", false)
  | _ => ("CellarMeter", "imaged", "Z", false)
def tyX11 : Nat → FieldType := fun k => match k with
  | 0 => .object "CellarMeter$Household"
  | 1 => .object "CellarMeter$Text"
  | 2 => .object "CellarMeter$HouseReader"
  | 3 => .array (.object "CellarMeter$House")
  | 4 => .object "CellarMeter$House"
  | 5 => .object "CellarMeter$Meter"
  | 6 => .object "CellarMeter$Meter"
  | 7 => .object "CellarMeter$Meter"
  | 8 => .object "CellarMeter$Meter"
  | 9 => .object "CellarMeter$Telling"
  | 10 => .object "CellarMeter$Trace"
  | 11 => .array (.object "CellarMeter$Tape")
  | 12 => .int
  | 13 => .int
  | 14 => .int
  | _ => .boolean
theorem nmX11 : ∀ a, a < 16 → ∀ b, b < 16 → a ≠ b → (TX11 a).2.1 ≠ (TX11 b).2.1 := by decide +kernel
theorem tyX11_ok : ∀ k, k < 16 → parseFieldDescriptor (TX11 k).2.2.1 = some (tyX11 k) := by decide +kernel
def RX12 : String := "CellarMeterModel"
def TX12 : u_T := fun k => match k with
  | 0 => ("CellarMeterModel", "things", "I", false)
  | 1 => ("CellarMeterModel", "ways", "I", false)
  | 2 => ("CellarMeterModel", "kind", "[I", true)
  | 3 => ("CellarMeterModel", "states", "[I", true)
  | 4 => ("CellarMeterModel", "houses", "I", false)
  | 5 => ("CellarMeterModel", "the", "I", false)
  | 6 => ("CellarMeterModel", "fed", "I", false)
  | 7 => ("CellarMeterModel", "at", "I", false)
  | 8 => ("CellarMeterModel", "digits", "I", false)
  | 9 => ("CellarMeterModel", "text", "[I", true)
  | 10 => ("CellarMeterModel", "clauses", "[I", true)
  | 11 => ("CellarMeterModel", "word", "[I", true)
  | 12 => ("CellarMeterModel", "of", "[I", true)
  | 13 => ("CellarMeterModel", "number", "[I", true)
  | 14 => ("CellarMeterModel", "from", "[I", true)
  | 15 => ("CellarMeterModel", "to", "[I", true)
  | 16 => ("CellarMeterModel", "sign", "[I", true)
  | 17 => ("CellarMeterModel", "waits", "[I", true)
  | 18 => ("CellarMeterModel", "signs", "I", false)
  | 19 => ("CellarMeterModel", "waiting", "I", false)
  | 20 => ("CellarMeterModel", "open", "I", false)
  | 21 => ("CellarMeterModel", "watts", "[I", true)
  | 22 => ("CellarMeterModel", "many", "[I", true)
  | 23 => ("CellarMeterModel", "state", "[I", true)
  | 24 => ("CellarMeterModel", "sums", "[I", true)
  | 25 => ("CellarMeterModel", "glads", "[I", true)
  | 26 => ("CellarMeterModel", "changes", "[I", true)
  | 27 => ("CellarMeterModel", "takes", "[I", true)
  | 28 => ("CellarMeterModel", "next", "[Z", true)
  | 29 => ("CellarMeterModel", "pile", "[Z", true)
  | 30 => ("CellarMeterModel", "may", "[Z", true)
  | 31 => ("CellarMeterModel", "fit", "[Z", true)
  | 32 => ("CellarMeterModel", "live", "[Z", true)
  | 33 => ("CellarMeterModel", "best", "[I", true)
  | 34 => ("CellarMeterModel", "tale", "[I", true)
  | 35 => ("CellarMeterModel", "hasImage", "Z", false)
  | 36 => ("CellarMeterModel", "imageThe", "I", false)
  | 37 => ("CellarMeterModel", "imageWatts", "[I", true)
  | 38 => ("CellarMeterModel", "imageMany", "[I", true)
  | 39 => ("CellarMeterModel", "ran", "I", false)
  | 40 => ("CellarMeterModel", "bodies", "[I", true)
  | 41 => ("CellarMeterModel", "sort", "[I", true)
  | 42 => ("CellarMeterModel", "length", "[I", true)
  | 43 => ("CellarMeterModel", "item", "[J", true)
  | _ => ("CellarMeterModel", "aside", "[J", true)
def tyX12 : Nat → FieldType := fun k => match k with
  | 0 => .int
  | 1 => .int
  | 2 => .array .int
  | 3 => .array .int
  | 4 => .int
  | 5 => .int
  | 6 => .int
  | 7 => .int
  | 8 => .int
  | 9 => .array .int
  | 10 => .array .int
  | 11 => .array .int
  | 12 => .array .int
  | 13 => .array .int
  | 14 => .array .int
  | 15 => .array .int
  | 16 => .array .int
  | 17 => .array .int
  | 18 => .int
  | 19 => .int
  | 20 => .int
  | 21 => .array .int
  | 22 => .array .int
  | 23 => .array .int
  | 24 => .array .int
  | 25 => .array .int
  | 26 => .array .int
  | 27 => .array .int
  | 28 => .array .boolean
  | 29 => .array .boolean
  | 30 => .array .boolean
  | 31 => .array .boolean
  | 32 => .array .boolean
  | 33 => .array .int
  | 34 => .array .int
  | 35 => .boolean
  | 36 => .int
  | 37 => .array .int
  | 38 => .array .int
  | 39 => .int
  | 40 => .array .int
  | 41 => .array .int
  | 42 => .array .int
  | 43 => .array .long
  | _ => .array .long
theorem nmX12 : ∀ a, a < 45 → ∀ b, b < 45 → a ≠ b → (TX12 a).2.1 ≠ (TX12 b).2.1 := by decide +kernel
theorem tyX12_ok : ∀ k, k < 45 → parseFieldDescriptor (TX12 k).2.2.1 = some (tyX12 k) := by decide +kernel
def RX0 : String := "CellarMeter$Acts"
def RX4 : String := "CellarMeter$Kinds"
def RJ6 : String := "java/lang/Integer"
def RJ13 : String := "java/lang/Long"
def RJ9 : String := "java/lang/Math"
def RJ0 : String := "java/lang/String"
def RJ1 : String := "java/lang/StringLatin1"
def RJ2 : String := "java/lang/StringUTF16"
def RJ10 : String := "java/lang/System"
def RJ3 : String := "jdk/internal/util/Preconditions"
def cm_cl : List vw_C := [(RX1, TX1, 6), (RX2, TX2, 4), (RX3, TX3, 8), (RX5, TX5, 2), (RX6, TX6, 3), (RX7, TX7, 15), (RX8, TX8, 2), (RX9, TX9, 3), (RX10, TX10, 2), (RX11, TX11, 16), (RX12, TX12, 45)]
end
section
/-! THE ABSTRACT MACHINE: memory as functions of (cell, place); an abstract reference k is the cell at base + k. Each instruction's rule is proved once from the kit's row. -/
abbrev cm_M : Type := MethodName × ByteArray × Nat × Option FieldType
def cm_W0 : List Cond := lw_tbl.filter goodWord
def cm_ws (y : cm_M) : List Cond := .code y.1 y.2.1 y.2.2.1 y.2.2.2 :: cm_W0
def cm_isN : Cond → Bool
  | .fieldLinkNest .. => true
  | .methodLinkNest .. => true
  | _ => false
def cm_nest : List Cond := lw_tbl.filter cm_isN
/-- base, the statics' values, the classes' ids and slots, the array classes' ids by type number, the script's length and its ints -/
abbrev cm_G : Type := Nat × (Nat → Value) × va_G × (Nat → ClassId) × Nat × (Nat → Int32)
abbrev cm_I : Type := Nat → Nat → Int32
abbrev cm_L : Type := Nat → Nat → Int64
abbrev cm_R : Type := Nat → Nat → Option Nat
/-- what a cell is: an array (number of its type, length), or an object (number of its class) -/
abbrev cm_E : Type := (Nat × Nat) ⊕ Nat
abbrev cm_Ds : Type := List cm_E
/-- an abstract value: .ref k a cell of ours, .retAddr j a static thing, .float 0 a local that is unset -/
def cm_em (g : cm_G) : Value → Value
  | .ref k => .ref (g.1 + k)
  | .retAddr j => g.2.1 j
  | v => v
def cm_rv : Option Nat → Value
  | none => .null
  | some a => .ref a
def cm_isr : Value → Prop
  | .ref _ => True
  | .null => True
  | .retAddr _ => True
  | _ => False
theorem cm_isr_rv (o : Option Nat) : cm_isr (cm_rv o) := by cases o <;> trivial
/-- kinds of the fields: 0 int, 1 long, 2 reference, 3 boolean -/
def cm_kl : List (List Nat) := [[2, 2, 2, 0, 0, 0], [2, 2, 0, 3], [2, 2, 2, 2, 2, 1, 0, 0], [2, 0], [2, 0, 0], [2, 2, 2, 2, 2, 2, 2, 2, 2, 2, 2, 2, 2, 0, 0], [2, 0], [0, 0, 0], [2, 0], [2, 2, 2, 2, 2, 2, 2, 2, 2, 2, 2, 2, 0, 0, 0, 3], [0, 0, 2, 2, 0, 0, 0, 0, 0, 2, 2, 2, 2, 2, 2, 2, 2, 2, 0, 0, 0, 2, 2, 2, 2, 2, 2, 2, 2, 2, 2, 2, 2, 2, 2, 3, 0, 2, 2, 0, 2, 2, 2, 2, 2]]
def cm_ks (ci : Nat) : List Nat := cm_kl.getD ci []
def cm_aty : Nat → FieldType
  | 0 => .int
  | 1 => .long
  | 2 => .boolean
  | 3 => .object "CellarMeter$Thing"
  | 4 => .object "CellarMeter$House"
  | _ => .object "CellarMeter$Tape"
def cm_tys (g : cm_G) : List (ClassId × FieldType) := (List.range 6).map fun t => (g.2.2.2.1 t, cm_aty t)
def cm_sv (I : cm_I) (L : cm_L) (R : cm_R) (a k kd : Nat) : Value := if kd = 2 then cm_rv (R a k) else if kd = 1 then .long (L a k) else .int (I a k)
def cm_fs (g : cm_G) (I : cm_I) (L : cm_L) (R : cm_R) (a ci : Nat) : List Value := (cm_ks ci).mapIdx fun k kd => cm_em g (cm_sv I L R a k kd)
def cm_ent (g : cm_G) (I : cm_I) (L : cm_L) (R : cm_R) (a : Nat) : cm_E → va_E
  | .inl (t, n) => .inl (g.2.2.2.1 t, n, if t = 0 ∨ t = 2 then .inl (I a) else if t = 1 then .inr (.inl (L a)) else .inr (.inr (.inr (.inr (fun j => (R a j).map (g.1 + ·))))))
  | .inr ci => .inr (ci, cm_fs g I L R a ci)
def cm_cells (g : cm_G) (I : cm_I) (L : cm_L) (R : cm_R) (ds : cm_Ds) : va_W := ds.mapIdx fun a d => (g.1 + a, cm_ent g I L R a d)
def cm_u {α : Type} (f : Nat → Nat → α) (a k : Nat) (v : α) : Nat → Nat → α := fun b j => if b = a then (if j = k then v else f b j) else f b j
def cm_A (g : cm_G) : Nat → Prop := fun q => g.1 ≤ q
/-- the String constants: entry in HouseReader's pool, text, bytes -/
def cm_str : List (Nat × String × List Int32) := [(48, "bar ", [98, 97, 114, 32]), (57, "glad ", [103, 108, 97, 100, 32]), (63, "give ", [103, 105, 118, 101, 32]), (71, "take ", [116, 97, 107, 101, 32]), (73, "0123", [48, 49, 50, 51]), (102, "abcdr", [97, 98, 99, 100, 114]), (104, "<=>", [60, 61, 62]), (109, "0123456789", [48, 49, 50, 51, 52, 53, 54, 55, 56, 57])]
/-- the statics: 0 ABOVE, 1 BODIES, 2 the formatter (a reference or null), 3 the script, 10 + i a text, 30 + i its bytes -/
def cm_St (g : cm_G) (U : State) (H : Heap) : Prop :=
  ((∀ w ∈ cm_nest, va_Nw w U) ∧ va_AO "CellarMeter$Thing" U ∧ va_AO "CellarMeter$House" U ∧ va_AO "CellarMeter$Tape" U) ∧ (∀ j, (∃ t, g.2.1 j = .ref t) ∨ g.2.1 j = .null) ∧
  (∃ t, g.2.1 0 = .ref t ∧ va_Z "CellarMeter$Kinds" "ABOVE" "[I" (.ref t) (cm_A g) U H ∧ va_T .int t 7 (fun j => .int (([-1, 0, 0, 0, 1, 0, 5] : List Int32).getD j 0)) (cm_A g) U H) ∧
  (∃ t, g.2.1 1 = .ref t ∧ va_Z "CellarMeter$Acts" "BODIES" "[I" (.ref t) (cm_A g) U H ∧ va_T .int t 21 (fun j => .int (([10, 11, 12, 0, 20, 0, 30, 0, 0, 0, 0, 40, 50, 51, 0, 0, 0, 60, 71, 70, 0] : List Int32).getD j 0)) (cm_A g) U H) ∧
  va_Z "jdk/internal/util/Preconditions" "SIOOBE_FORMATTER" "Ljava/util/function/BiFunction;" (g.2.1 2) (cm_A g) U H ∧
  va_Z "java/lang/String" "COMPACT_STRINGS" "Z" (.int 1) (cm_A g) U H ∧
  (∃ t, g.2.1 3 = .ref t ∧ va_T .int t g.2.2.2.2.1 (fun j => .int (g.2.2.2.2.2 j)) (cm_A g) U H ∧ g.2.2.2.2.1 ≤ 3072) ∧
  (∃ adK adV : Nat → Nat, vk_S 8 (cm_str.map fun q => q.2.2.length) (cm_str.map fun q => q.2.2) adK adV (cm_A g) U H ∧ ∀ i (q : Nat × String × List Int32), cm_str[i]? = some q → g.2.1 (10 + i) = .ref (adK i) ∧ g.2.1 (30 + i) = .ref (adV i) ∧ vk_R "CellarMeter$HouseReader" q.1 q.2.1 (adK i) U)
def cm_Cx (g : cm_G) (y : cm_M) (p : Program) (s : State) (m : MethodId) (args : Array Value) (meth : Method) (c : Code) : Prop :=
  p.tables.exec = Jvm.exec ∧ c.code = y.2.1 ∧ c.maxLocals = y.2.2.1 ∧ meth.sig.returnType = y.2.2.2 ∧ s.vm.findClass y.1.cls = some m.cls ∧ (∀ w ∈ cm_ws y, w.before args s = true) ∧ meth.name = y.1.name ∧ meth.locks = false ∧ cm_St g s s.heap ∧ va_K g.2.2.1 cm_cl (cm_tys g) s ∧ g.1 ≤ s.heap.size
def cm_Wd (g : cm_G) (I : cm_I) (L : cm_L) (R : cm_R) (ds : cm_Ds) (H : Heap) : Prop := va_P g.2.2.1 cm_cl (cm_cells g I L R ds) H ∧ H.size = g.1 + ds.length
def cm_Rm (d mc ms cells slots kc ks : Nat) (Rm : Room) : Prop := d ≤ Rm.frames ∧ 64 * d ≤ Rm.locals ∧ cells + mc ≤ kc ∧ slots + ms ≤ ks ∧ kc ≤ Rm.cells ∧ ks ≤ Rm.slots
def cm_lv (g : cm_G) : Nat → List Value → List (Nat × Value)
  | _, [] => []
  | i, v :: r => match v with
    | .float _ => cm_lv g (i + 1) r
    | w => (i, cm_em g w) :: cm_lv g (i + 1) r
abbrev cm_Post : Type := Option Value → cm_I → cm_L → cm_R → cm_Ds → Prop
def cm_Qc (g : cm_G) (Q : cm_Post) : Array Value → State → Outcome → State → Prop := fun _ st oc t =>
  (∃ (r : Option Value) (I : cm_I) (L : cm_L) (R : cm_R) (ds : cm_Ds), oc = .returned (r.map (cm_em g)) ∧ Q r I L R ds ∧ cm_Wd g I L R ds t.heap) ∧ va_F (cm_A g) st t
/-- from the frame (method y at pc, locals ls, stack st) over the memory (I, L, R, ds) the method returns, and Q holds of its answer and the memory behind it; at most mc cells of ms places are made; calls go at most d deep -/
def cm_Ex (l : Launch) (g : cm_G) (d mc ms : Nat) (y : cm_M) (pc : Nat) (ls st : List Value) (I : cm_I) (L : cm_L) (R : cm_R) (ds : cm_Ds) (Q : cm_Post) : Prop :=
  ∀ (p : Program) (e : Env) (Rm : Room) (s : State) (m : MethodId) (args : Array Value) (below : List Frame) (meth : Method) (c : Code) (H : Heap) (locs : List Loc) (cells slots kc ks : Nat) (als : Array Slot),
    cm_Cx g y p s m args meth c → cm_Wd g I L R ds H → va_S (cm_A g) s.heap H locs → lv_has als y.2.2.1 (cm_lv g 0 ls) → cm_Rm d mc ms cells slots kc ks Rm →
    W p l e Rm s m args below meth c H locs cells slots (MQ below (cm_Qc g Q) args s kc ks (cm_A g)) (F0 m pc als (st.map (cm_em g)))
def cm_N (y : cm_M) (pc : Nat) (i : Instr) (n pc' : Nat) : Prop := decode y.2.1 pc = .ok (i, n) ∧ pc + n = pc'
end
section
/-! helpers: locals, cells -/
theorem cm_cat {g : cm_G} (hz : ∀ j, (∃ t, g.2.1 j = .ref t) ∨ g.2.1 j = .null) (v : Value) : (cm_em g v).category = v.category := by
  cases v with
  | retAddr j =>
    show (g.2.1 j).category = 1
    rcases hz j with ⟨t, h⟩ | h <;> rw [h] <;> rfl
  | _ => rfl
theorem cm_lv_mem {g : cm_G} : ∀ {ls : List Value} {i : Nat} {q : Nat × Value}, q ∈ cm_lv g i ls → ∃ j v, ls[j]? = some v ∧ q = (i + j, cm_em g v) ∧ ∀ b, v ≠ .float b := by
  intro ls
  induction ls with
  | nil => intro i q h; simp [cm_lv] at h
  | cons v r ih =>
    intro i q h
    have tail : q ∈ cm_lv g (i + 1) r → ∃ j v', (v :: r)[j]? = some v' ∧ q = (i + j, cm_em g v') ∧ ∀ b, v' ≠ .float b := by
      intro h
      obtain ⟨j, v', h1, h2, h3⟩ := ih h
      exact ⟨j + 1, v', by simpa using h1, by rw [h2]; congr 1; omega, h3⟩
    have head : (∀ b, v ≠ .float b) → q ∈ (i, cm_em g v) :: cm_lv g (i + 1) r → ∃ j v', (v :: r)[j]? = some v' ∧ q = (i + j, cm_em g v') ∧ ∀ b, v' ≠ .float b := by
      intro hb h
      rcases List.mem_cons.mp h with h | h
      · exact ⟨0, v, rfl, by rw [h]; rfl, hb⟩
      · exact tail h
    cases v with
    | float b => exact tail h
    | int x => exact head (fun b h => by cases h) h
    | long x => exact head (fun b h => by cases h) h
    | double x => exact head (fun b h => by cases h) h
    | null => exact head (fun b h => by cases h) h
    | ref a => exact head (fun b h => by cases h) h
    | retAddr j => exact head (fun b h => by cases h) h
theorem cm_lv_in {g : cm_G} : ∀ {ls : List Value} {i j : Nat} {v : Value}, ls[j]? = some v → (∀ b, v ≠ .float b) → (i + j, cm_em g v) ∈ cm_lv g i ls := by
  intro ls
  induction ls with
  | nil => intro i j v h; simp at h
  | cons w r ih =>
    intro i j v h hb
    cases j with
    | zero =>
      have hw : w = v := by simpa using h
      subst hw
      cases w with
      | float b => exact absurd rfl (hb b)
      | int x => exact List.mem_cons_self
      | long x => exact List.mem_cons_self
      | double x => exact List.mem_cons_self
      | null => exact List.mem_cons_self
      | ref a => exact List.mem_cons_self
      | retAddr j => exact List.mem_cons_self
    | succ j =>
      have h' : r[j]? = some v := by simpa using h
      have hm := ih (i := i + 1) h' hb
      rw [show i + 1 + j = i + (j + 1) by omega] at hm
      cases w with
      | float b => exact hm
      | int x => exact List.mem_cons_of_mem _ hm
      | long x => exact List.mem_cons_of_mem _ hm
      | double x => exact List.mem_cons_of_mem _ hm
      | null => exact List.mem_cons_of_mem _ hm
      | ref a => exact List.mem_cons_of_mem _ hm
      | retAddr j => exact List.mem_cons_of_mem _ hm
theorem cm_lv_at {g : cm_G} {als : Array Slot} {n : Nat} {ls : List Value} (h : lv_has als n (cm_lv g 0 ls)) {i : Nat} {v : Value} (hv : ls[i]? = some v) (hb : ∀ b, v ≠ .float b) : als[i]? = some (.val (cm_em g v)) := by
  have h1 := h.2.2 _ (cm_lv_in (g := g) (i := 0) hv hb)
  simpa using h1
theorem cm_lv_has {g : cm_G} {als : Array Slot} {n : Nat} {l : List (Nat × Value)} {ls : List Value} (h : lv_has als n l) (hs : ∀ j v, ls[j]? = some v → (∀ b, v ≠ .float b) → (j, cm_em g v) ∈ l) : lv_has als n (cm_lv g 0 ls) := by
  refine ⟨h.1, h.2.1, fun q hq => ?_⟩
  obtain ⟨j, v, h1, h2, h3⟩ := cm_lv_mem hq
  rw [h2, Nat.zero_add]
  exact h.2.2 _ (hs j v h1 h3)
/-- behind a store of one slot -/
theorem cm_lv_st1 {g : cm_G} (hz : ∀ j, (∃ t, g.2.1 j = .ref t) ∨ g.2.1 j = .null) {als : Array Slot} {n : Nat} {ls : List Value} {i : Nat} {v : Value}
    (h : lv_has als n ((i, cm_em g v) :: (cm_lv g 0 ls).filter (fun q => !(q.1 == i) && !(q.1 + 1 == i && q.2.category == 2)))) (hc : ∀ w, 0 < i → ls[i - 1]? = some w → w.category = 1) : lv_has als n (cm_lv g 0 (ls.set i v)) := by
  refine cm_lv_has h fun j w hj hb => ?_
  by_cases e : j = i
  · subst e
    have hl : j < ls.length := by
      have := (List.getElem?_eq_some_iff.mp hj).1
      simpa using this
    rw [List.getElem?_set_self hl] at hj
    cases hj
    exact List.mem_cons_self
  · rw [List.getElem?_set_ne (Ne.symm e)] at hj
    refine List.mem_cons_of_mem _ (List.mem_filter.mpr ⟨?_, ?_⟩)
    · have := cm_lv_in (g := g) (i := 0) hj hb
      simpa using this
    · simp only [Bool.and_eq_true, Bool.not_eq_true', beq_eq_false_iff_ne, ne_eq, Bool.and_eq_false_iff]
      refine ⟨e, ?_⟩
      by_cases e2 : j + 1 = i
      · right
        rw [cm_cat hz, hc w (by omega) (by rw [← e2]; simpa using hj)]
        decide
      · exact Or.inl e2
/-- behind a store of two slots -/
theorem cm_lv_st2 {g : cm_G} (hz : ∀ j, (∃ t, g.2.1 j = .ref t) ∨ g.2.1 j = .null) {als : Array Slot} {n : Nat} {ls : List Value} {i : Nat} {v : Value}
    (h : lv_has als n ((i, cm_em g v) :: (cm_lv g 0 ls).filter (fun q => !(q.1 == i) && (!(q.1 == i + 1) && !(q.1 + 1 == i && q.2.category == 2))))) (hc : ∀ w, 0 < i → ls[i - 1]? = some w → w.category = 1) : lv_has als n (cm_lv g 0 ((ls.set i v).set (i + 1) (.float 0))) := by
  refine cm_lv_has h fun j w hj hb => ?_
  by_cases e1 : j = i + 1
  · subst e1
    have hl : i + 1 < ls.length := by
      have := (List.getElem?_eq_some_iff.mp hj).1
      simpa using this
    rw [List.getElem?_set_self (by simpa using hl)] at hj
    cases hj
    exact absurd rfl (hb 0)
  rw [List.getElem?_set_ne (Ne.symm e1)] at hj
  by_cases e : j = i
  · subst e
    have hl : j < ls.length := by
      have := (List.getElem?_eq_some_iff.mp hj).1
      simpa using this
    rw [List.getElem?_set_self hl] at hj
    cases hj
    exact List.mem_cons_self
  · rw [List.getElem?_set_ne (Ne.symm e)] at hj
    refine List.mem_cons_of_mem _ (List.mem_filter.mpr ⟨?_, ?_⟩)
    · have := cm_lv_in (g := g) (i := 0) hj hb
      simpa using this
    · simp only [Bool.and_eq_true, Bool.not_eq_true', beq_eq_false_iff_ne, ne_eq, Bool.and_eq_false_iff]
      refine ⟨e, e1, ?_⟩
      by_cases e2 : j + 1 = i
      · right
        rw [cm_cat hz, hc w (by omega) (by rw [← e2]; simpa using hj)]
        decide
      · exact Or.inl e2
/-! cells -/
theorem cm_cells_at (g : cm_G) (I : cm_I) (L : cm_L) (R : cm_R) {ds : cm_Ds} {a : Nat} {d : cm_E} (h : ds[a]? = some d) : (cm_cells g I L R ds)[a]? = some (g.1 + a, cm_ent g I L R a d) := by
  simp [cm_cells, List.getElem?_mapIdx, h]
theorem cm_ent_of {g : cm_G} {I I' : cm_I} {L L' : cm_L} {R R' : cm_R} {a : Nat} (hI : I' a = I a) (hL : L' a = L a) (hR : R' a = R a) (d : cm_E) : cm_ent g I' L' R' a d = cm_ent g I L R a d := by
  rcases d with ⟨t, n⟩ | ci
  · simp only [cm_ent, hI, hL, hR]
  · simp only [cm_ent, cm_fs, cm_sv, hI, hL, hR]
theorem cm_cells_set {g : cm_G} {I I' : cm_I} {L L' : cm_L} {R R' : cm_R} {ds : cm_Ds} {a : Nat} {d : cm_E} (h : ds[a]? = some d) {e : va_E} (he : cm_ent g I' L' R' a d = e) (hI : ∀ b, b ≠ a → I' b = I b) (hL : ∀ b, b ≠ a → L' b = L b) (hR : ∀ b, b ≠ a → R' b = R b) :
    (cm_cells g I L R ds).set a (g.1 + a, e) = cm_cells g I' L' R' ds := by
  apply List.ext_getElem?
  intro i
  by_cases hi : i = a
  · subst hi
    have hl : i < (cm_cells g I L R ds).length := (List.getElem?_eq_some_iff.mp (cm_cells_at g I L R h)).1
    rw [List.getElem?_set_self hl, cm_cells_at g I' L' R' h, he]
  · rw [List.getElem?_set_ne (Ne.symm hi)]
    simp only [cm_cells, List.getElem?_mapIdx]
    cases hd : ds[i]? with
    | none => rfl
    | some d' => simp [cm_ent_of (hI i hi) (hL i hi) (hR i hi)]
theorem cm_u_ne {α : Type} {f : Nat → Nat → α} {a k : Nat} {v : α} {b : Nat} (h : b ≠ a) : cm_u f a k v b = f b := by
  funext j; simp [cm_u, h]
theorem cm_dst {g : cm_G} {I : cm_I} {L : cm_L} {R : cm_R} {ds : cm_Ds} : va_D (cm_A g) (cm_cells g I L R ds) := by
  have key : ∀ (k : Nat) (q : Nat × va_E), (cm_cells g I L R ds)[k]? = some q → q.1 = g.1 + k := by
    intro k q h
    simp only [cm_cells, List.getElem?_mapIdx] at h
    cases hd : ds[k]? with
    | none => rw [hd] at h; cases h
    | some d => rw [hd] at h; cases h; rfl
  refine ⟨fun i j p q hi hj hpq => ?_, fun k q hk => ?_⟩
  · rw [key i p hi, key j q hj] at hpq
    omega
  · rw [key k q hk]
    exact Nat.le_add_right _ _
theorem cm_cells_push {g : cm_G} {I I' : cm_I} {L L' : cm_L} {R R' : cm_R} {ds : cm_Ds} {d : cm_E} {e : va_E} (he : cm_ent g I' L' R' ds.length d = e) (hI : ∀ b, b < ds.length → I' b = I b) (hL : ∀ b, b < ds.length → L' b = L b) (hR : ∀ b, b < ds.length → R' b = R b) :
    cm_cells g I L R ds ++ [(g.1 + ds.length, e)] = cm_cells g I' L' R' (ds ++ [d]) := by
  apply List.ext_getElem?
  intro i
  have hlen : (cm_cells g I L R ds).length = ds.length := by simp [cm_cells]
  by_cases hi : i < ds.length
  · rw [List.getElem?_append_left (by rw [hlen]; exact hi)]
    simp only [cm_cells, List.getElem?_mapIdx]
    rw [List.getElem?_append_left hi]
    cases hd : ds[i]? with
    | none => rfl
    | some d' => simp [cm_ent_of (hI i hi) (hL i hi) (hR i hi)]
  · rw [List.getElem?_append_right (by rw [hlen]; omega), hlen]
    simp only [cm_cells, List.getElem?_mapIdx]
    rw [List.getElem?_append_right (by omega)]
    by_cases h2 : i = ds.length
    · subst h2
      simp [he]
    · rw [List.getElem?_eq_none (by simp; omega), List.getElem?_eq_none (by simp; omega)]
      rfl
/-! what the tables say of fields and methods, by numbers -/
def cm_fl (own : String) (idx ci k kd : Nat) (fin : Bool) : Prop := ∃ (C : String) (T : u_T) (N : Nat) (ty : Nat → FieldType), cm_cl[ci]? = some (C, T, N) ∧ (∀ w ∈ u_ws C T N, w ∈ cm_W0) ∧ (∀ k, k < N → parseFieldDescriptor (T k).2.2.1 = some (ty k)) ∧ (∀ a, a < N → ∀ b, b < N → a ≠ b → (T a).2.1 ≠ (T b).2.1) ∧ k < N ∧ (cm_ks ci)[k]? = some kd ∧
  (Cond.fieldLink own idx (T k).1 (T k).2.1 (T k).2.2.1 ∈ cm_W0 ∨ (fin = false ∧ ∃ host, Cond.fieldLinkNest own idx (T k).1 (T k).2.1 (T k).2.2.1 host ∈ cm_nest)) ∧
  (T k).2.2.2 = fin ∧ (fin = true → (T k).1 = own) ∧ (kd = 0 → ty k = .int) ∧ (kd = 1 → ty k = .long) ∧ (kd = 3 → ty k = .boolean) ∧ (kd = 2 → (∃ n, ty k = .object n) ∨ ∃ t, ty k = .array t)
theorem cm_ksv {g : cm_G} {I : cm_I} {L : cm_L} {R : cm_R} {a ci k kd : Nat} (h : (cm_ks ci)[k]? = some kd) : (cm_fs g I L R a ci)[k]? = some (cm_em g (cm_sv I L R a k kd)) := by
  simp [cm_fs, List.getElem?_mapIdx, h]
section CM
variable {l : Launch} {g : cm_G} {d mc ms : Nat} {y : cm_M} {pc pc' : Nat} {ls st : List Value} {I : cm_I} {L : cm_L} {R : cm_R} {ds : cm_Ds} {Q : cm_Post}
theorem x_getf {idx : Nat} (hq : cm_N y pc (.getfield idx) 3 pc') {ci k kd a : Nat} {fin : Bool} (hf : cm_fl y.1.cls idx ci k kd fin) (hd : ds[a]? = some (.inr ci)) (kk : cm_Ex l g d mc ms y pc' ls (cm_sv I L R a k kd :: st) I L R ds Q) : cm_Ex l g d mc ms y pc ls (.ref a :: st) I L R ds Q := by
  obtain ⟨hdg, rfl⟩ := hq
  obtain ⟨Cn, T, N, ty, h1, h2, h3, h4, h5, h6, h8, -⟩ := hf
  intro p e Rm s m args below meth c H locs cells slots kc ks als C w hS hl hr
  have hts : ∀ w ∈ cm_ws y, w.before args s = true := C.2.2.2.2.2.1
  have hin : ∀ w ∈ u_ws Cn T N, w ∈ cm_ws y := fun w hw => List.mem_cons_of_mem _ (h2 w hw)
  have k1 := kk p e Rm s m args below meth c H locs cells slots kc ks als C w hS hl hr
  rcases h8 with h8 | ⟨-, host, h8⟩
  · exact va_get C.1 C.2.1 hts hin C.2.2.2.2.1 C.2.2.2.2.2.2.2.2.2.1 w.1 a (cm_cells_at g I L R hd) h1 k h5 (hts _ (List.mem_cons_of_mem _ h8)) (fun _ h => h) (cm_ksv h6) hdg k1
  · exact va_getN C.1 C.2.1 hts hin C.2.2.2.2.1 C.2.2.2.2.2.2.2.2.2.1 w.1 a (cm_cells_at g I L R hd) h1 k h5 (va_Nw.use rfl (C.2.2.2.2.2.2.2.2.1.1.1 _ h8)) (fun _ h => h) (cm_ksv h6) hdg k1
end CM
end
section
section CM
variable {l : Launch} {g : cm_G} {d mc ms : Nat} {y : cm_M} {pc pc' : Nat} {ls st : List Value} {I : cm_I} {L : cm_L} {R : cm_R} {ds : cm_Ds} {Q : cm_Post}
theorem x_iadd {a b : Int32} (hq : cm_N y pc .iadd 1 pc')  (k : cm_Ex l g d mc ms y pc' ls (.int (a + b) :: st) I L R ds Q) : cm_Ex l g d mc ms y pc ls (.int b :: .int a :: st) I L R ds Q := by
  obtain ⟨hdg, rfl⟩ := hq
  exact fun p e Rm s m args below meth c H locs cells slots kc ks als C w hS hl hr => lv_iadd C.1 C.2.1 hdg (k p e Rm s m args below meth c H locs cells slots kc ks als C w hS hl hr)
theorem x_isub {a b : Int32} (hq : cm_N y pc .isub 1 pc')  (k : cm_Ex l g d mc ms y pc' ls (.int (a - b) :: st) I L R ds Q) : cm_Ex l g d mc ms y pc ls (.int b :: .int a :: st) I L R ds Q := by
  obtain ⟨hdg, rfl⟩ := hq
  exact fun p e Rm s m args below meth c H locs cells slots kc ks als C w hS hl hr => lv_isub C.1 C.2.1 hdg (k p e Rm s m args below meth c H locs cells slots kc ks als C w hS hl hr)
theorem x_imul {a b : Int32} (hq : cm_N y pc .imul 1 pc')  (k : cm_Ex l g d mc ms y pc' ls (.int (a * b) :: st) I L R ds Q) : cm_Ex l g d mc ms y pc ls (.int b :: .int a :: st) I L R ds Q := by
  obtain ⟨hdg, rfl⟩ := hq
  exact fun p e Rm s m args below meth c H locs cells slots kc ks als C w hS hl hr => lv_imul C.1 C.2.1 hdg (k p e Rm s m args below meth c H locs cells slots kc ks als C w hS hl hr)
theorem x_iand {a b : Int32} (hq : cm_N y pc .iand 1 pc')  (k : cm_Ex l g d mc ms y pc' ls (.int (a &&& b) :: st) I L R ds Q) : cm_Ex l g d mc ms y pc ls (.int b :: .int a :: st) I L R ds Q := by
  obtain ⟨hdg, rfl⟩ := hq
  exact fun p e Rm s m args below meth c H locs cells slots kc ks als C w hS hl hr => lv_iand C.1 C.2.1 hdg (k p e Rm s m args below meth c H locs cells slots kc ks als C w hS hl hr)
theorem x_ior {a b : Int32} (hq : cm_N y pc .ior 1 pc')  (k : cm_Ex l g d mc ms y pc' ls (.int (a ||| b) :: st) I L R ds Q) : cm_Ex l g d mc ms y pc ls (.int b :: .int a :: st) I L R ds Q := by
  obtain ⟨hdg, rfl⟩ := hq
  exact fun p e Rm s m args below meth c H locs cells slots kc ks als C w hS hl hr => lv_ior C.1 C.2.1 hdg (k p e Rm s m args below meth c H locs cells slots kc ks als C w hS hl hr)
theorem x_ixor {a b : Int32} (hq : cm_N y pc .ixor 1 pc')  (k : cm_Ex l g d mc ms y pc' ls (.int (a ^^^ b) :: st) I L R ds Q) : cm_Ex l g d mc ms y pc ls (.int b :: .int a :: st) I L R ds Q := by
  obtain ⟨hdg, rfl⟩ := hq
  exact fun p e Rm s m args below meth c H locs cells slots kc ks als C w hS hl hr => lv_ixor C.1 C.2.1 hdg (k p e Rm s m args below meth c H locs cells slots kc ks als C w hS hl hr)
theorem x_ishl {a b : Int32} (hq : cm_N y pc .ishl 1 pc')  (k : cm_Ex l g d mc ms y pc' ls (.int (a <<< (b &&& 31)) :: st) I L R ds Q) : cm_Ex l g d mc ms y pc ls (.int b :: .int a :: st) I L R ds Q := by
  obtain ⟨hdg, rfl⟩ := hq
  exact fun p e Rm s m args below meth c H locs cells slots kc ks als C w hS hl hr => lv_ishl C.1 C.2.1 hdg (k p e Rm s m args below meth c H locs cells slots kc ks als C w hS hl hr)
theorem x_ishr {a b : Int32} (hq : cm_N y pc .ishr 1 pc')  (k : cm_Ex l g d mc ms y pc' ls (.int (a >>> (b &&& 31)) :: st) I L R ds Q) : cm_Ex l g d mc ms y pc ls (.int b :: .int a :: st) I L R ds Q := by
  obtain ⟨hdg, rfl⟩ := hq
  exact fun p e Rm s m args below meth c H locs cells slots kc ks als C w hS hl hr => lv_ishr C.1 C.2.1 hdg (k p e Rm s m args below meth c H locs cells slots kc ks als C w hS hl hr)
theorem x_iushr {a b : Int32} (hq : cm_N y pc .iushr 1 pc')  (k : cm_Ex l g d mc ms y pc' ls (.int ((a.toUInt32 >>> (b.toUInt32 &&& Int32.toUInt32 31)).toInt32) :: st) I L R ds Q) : cm_Ex l g d mc ms y pc ls (.int b :: .int a :: st) I L R ds Q := by
  obtain ⟨hdg, rfl⟩ := hq
  exact fun p e Rm s m args below meth c H locs cells slots kc ks als C w hS hl hr => lv_iushr C.1 C.2.1 hdg rfl (k p e Rm s m args below meth c H locs cells slots kc ks als C w hS hl hr)
theorem x_idiv {a b : Int32} (hq : cm_N y pc .idiv 1 pc') (hne : ¬ b = 0) (k : cm_Ex l g d mc ms y pc' ls (.int (a / b) :: st) I L R ds Q) : cm_Ex l g d mc ms y pc ls (.int b :: .int a :: st) I L R ds Q := by
  obtain ⟨hdg, rfl⟩ := hq
  exact fun p e Rm s m args below meth c H locs cells slots kc ks als C w hS hl hr => lv_idiv C.1 C.2.1 hdg hne (k p e Rm s m args below meth c H locs cells slots kc ks als C w hS hl hr)
theorem x_irem {a b : Int32} (hq : cm_N y pc .irem 1 pc') (hne : ¬ b = 0) (k : cm_Ex l g d mc ms y pc' ls (.int (a - a / b * b) :: st) I L R ds Q) : cm_Ex l g d mc ms y pc ls (.int b :: .int a :: st) I L R ds Q := by
  obtain ⟨hdg, rfl⟩ := hq
  exact fun p e Rm s m args below meth c H locs cells slots kc ks als C w hS hl hr => lv_irem C.1 C.2.1 hdg hne (k p e Rm s m args below meth c H locs cells slots kc ks als C w hS hl hr)
theorem x_ineg {a : Int32} (hq : cm_N y pc .ineg 1 pc')  (k : cm_Ex l g d mc ms y pc' ls (.int (-a) :: st) I L R ds Q) : cm_Ex l g d mc ms y pc ls (.int a :: st) I L R ds Q := by
  obtain ⟨hdg, rfl⟩ := hq
  exact fun p e Rm s m args below meth c H locs cells slots kc ks als C w hS hl hr => lv_ineg C.1 C.2.1 hdg (k p e Rm s m args below meth c H locs cells slots kc ks als C w hS hl hr)
theorem x_ladd {a b : Int64} (hq : cm_N y pc .ladd 1 pc')  (k : cm_Ex l g d mc ms y pc' ls (.long (a + b) :: st) I L R ds Q) : cm_Ex l g d mc ms y pc ls (.long b :: .long a :: st) I L R ds Q := by
  obtain ⟨hdg, rfl⟩ := hq
  exact fun p e Rm s m args below meth c H locs cells slots kc ks als C w hS hl hr => lv_ladd C.1 C.2.1 hdg (k p e Rm s m args below meth c H locs cells slots kc ks als C w hS hl hr)
theorem x_lsub {a b : Int64} (hq : cm_N y pc .lsub 1 pc')  (k : cm_Ex l g d mc ms y pc' ls (.long (a - b) :: st) I L R ds Q) : cm_Ex l g d mc ms y pc ls (.long b :: .long a :: st) I L R ds Q := by
  obtain ⟨hdg, rfl⟩ := hq
  exact fun p e Rm s m args below meth c H locs cells slots kc ks als C w hS hl hr => lv_lsub C.1 C.2.1 hdg (k p e Rm s m args below meth c H locs cells slots kc ks als C w hS hl hr)
theorem x_land {a b : Int64} (hq : cm_N y pc .land 1 pc')  (k : cm_Ex l g d mc ms y pc' ls (.long (a &&& b) :: st) I L R ds Q) : cm_Ex l g d mc ms y pc ls (.long b :: .long a :: st) I L R ds Q := by
  obtain ⟨hdg, rfl⟩ := hq
  exact fun p e Rm s m args below meth c H locs cells slots kc ks als C w hS hl hr => lv_land C.1 C.2.1 hdg (k p e Rm s m args below meth c H locs cells slots kc ks als C w hS hl hr)
theorem x_lor {a b : Int64} (hq : cm_N y pc .lor 1 pc')  (k : cm_Ex l g d mc ms y pc' ls (.long (a ||| b) :: st) I L R ds Q) : cm_Ex l g d mc ms y pc ls (.long b :: .long a :: st) I L R ds Q := by
  obtain ⟨hdg, rfl⟩ := hq
  exact fun p e Rm s m args below meth c H locs cells slots kc ks als C w hS hl hr => lv_lor C.1 C.2.1 hdg (k p e Rm s m args below meth c H locs cells slots kc ks als C w hS hl hr)
theorem x_lxor {a b : Int64} (hq : cm_N y pc .lxor 1 pc')  (k : cm_Ex l g d mc ms y pc' ls (.long (a ^^^ b) :: st) I L R ds Q) : cm_Ex l g d mc ms y pc ls (.long b :: .long a :: st) I L R ds Q := by
  obtain ⟨hdg, rfl⟩ := hq
  exact fun p e Rm s m args below meth c H locs cells slots kc ks als C w hS hl hr => lv_lxor C.1 C.2.1 hdg (k p e Rm s m args below meth c H locs cells slots kc ks als C w hS hl hr)
theorem x_lrem {a b : Int64} (hq : cm_N y pc .lrem 1 pc') (hne : ¬ b = 0) (k : cm_Ex l g d mc ms y pc' ls (.long (a - a / b * b) :: st) I L R ds Q) : cm_Ex l g d mc ms y pc ls (.long b :: .long a :: st) I L R ds Q := by
  obtain ⟨hdg, rfl⟩ := hq
  exact fun p e Rm s m args below meth c H locs cells slots kc ks als C w hS hl hr => lv_lrem C.1 C.2.1 hdg hne (k p e Rm s m args below meth c H locs cells slots kc ks als C w hS hl hr)
theorem x_lshl {a : Int64} {b : Int32} (hq : cm_N y pc .lshl 1 pc')  (k : cm_Ex l g d mc ms y pc' ls (.long (a <<< (b.toInt64 &&& 63)) :: st) I L R ds Q) : cm_Ex l g d mc ms y pc ls (.int b :: .long a :: st) I L R ds Q := by
  obtain ⟨hdg, rfl⟩ := hq
  exact fun p e Rm s m args below meth c H locs cells slots kc ks als C w hS hl hr => lv_lshl C.1 C.2.1 hdg rfl (k p e Rm s m args below meth c H locs cells slots kc ks als C w hS hl hr)
theorem x_lushr {a : Int64} {b : Int32} (hq : cm_N y pc .lushr 1 pc')  (k : cm_Ex l g d mc ms y pc' ls (.long ((a.toUInt64 >>> (b.toInt64.toUInt64 &&& Int64.toUInt64 63)).toInt64) :: st) I L R ds Q) : cm_Ex l g d mc ms y pc ls (.int b :: .long a :: st) I L R ds Q := by
  obtain ⟨hdg, rfl⟩ := hq
  exact fun p e Rm s m args below meth c H locs cells slots kc ks als C w hS hl hr => lv_lushr C.1 C.2.1 hdg rfl (k p e Rm s m args below meth c H locs cells slots kc ks als C w hS hl hr)
theorem x_lcmp {a b : Int64} (hq : cm_N y pc .lcmp 1 pc')  (k : cm_Ex l g d mc ms y pc' ls (.int (lg_cmp a b) :: st) I L R ds Q) : cm_Ex l g d mc ms y pc ls (.long b :: .long a :: st) I L R ds Q := by
  obtain ⟨hdg, rfl⟩ := hq
  exact fun p e Rm s m args below meth c H locs cells slots kc ks als C w hS hl hr => W.lcmp C.1 C.2.1 hdg (k p e Rm s m args below meth c H locs cells slots kc ks als C w hS hl hr)
theorem x_i2l {a : Int32} (hq : cm_N y pc .i2l 1 pc')  (k : cm_Ex l g d mc ms y pc' ls (.long a.toInt64 :: st) I L R ds Q) : cm_Ex l g d mc ms y pc ls (.int a :: st) I L R ds Q := by
  obtain ⟨hdg, rfl⟩ := hq
  exact fun p e Rm s m args below meth c H locs cells slots kc ks als C w hS hl hr => lv_i2l C.1 C.2.1 hdg rfl (k p e Rm s m args below meth c H locs cells slots kc ks als C w hS hl hr)
theorem x_l2i {a : Int64} (hq : cm_N y pc .l2i 1 pc')  (k : cm_Ex l g d mc ms y pc' ls (.int a.toInt32 :: st) I L R ds Q) : cm_Ex l g d mc ms y pc ls (.long a :: st) I L R ds Q := by
  obtain ⟨hdg, rfl⟩ := hq
  exact fun p e Rm s m args below meth c H locs cells slots kc ks als C w hS hl hr => lv_l2i C.1 C.2.1 hdg rfl (k p e Rm s m args below meth c H locs cells slots kc ks als C w hS hl hr)
theorem x_i2b {a : Int32} (hq : cm_N y pc .i2b 1 pc')  (k : cm_Ex l g d mc ms y pc' ls (.int a.toInt8.toInt32 :: st) I L R ds Q) : cm_Ex l g d mc ms y pc ls (.int a :: st) I L R ds Q := by
  obtain ⟨hdg, rfl⟩ := hq
  exact fun p e Rm s m args below meth c H locs cells slots kc ks als C w hS hl hr => lv_i2b C.1 C.2.1 hdg rfl (k p e Rm s m args below meth c H locs cells slots kc ks als C w hS hl hr)
theorem x_i2s {a : Int32} (hq : cm_N y pc .i2s 1 pc')  (k : cm_Ex l g d mc ms y pc' ls (.int a.toInt16.toInt32 :: st) I L R ds Q) : cm_Ex l g d mc ms y pc ls (.int a :: st) I L R ds Q := by
  obtain ⟨hdg, rfl⟩ := hq
  exact fun p e Rm s m args below meth c H locs cells slots kc ks als C w hS hl hr => lv_i2s C.1 C.2.1 hdg rfl (k p e Rm s m args below meth c H locs cells slots kc ks als C w hS hl hr)
theorem x_i2c {a : Int32} (hq : cm_N y pc .i2c 1 pc')  (k : cm_Ex l g d mc ms y pc' ls (.int ((a.toUInt32 % 65536).toInt32) :: st) I L R ds Q) : cm_Ex l g d mc ms y pc ls (.int a :: st) I L R ds Q := by
  obtain ⟨hdg, rfl⟩ := hq
  exact fun p e Rm s m args below meth c H locs cells slots kc ks als C w hS hl hr => lv_i2c C.1 C.2.1 hdg rfl (k p e Rm s m args below meth c H locs cells slots kc ks als C w hS hl hr)
theorem x_iconst {n : Int} {v : Int32} (hq : cm_N y pc (.iconst n) 1 pc') (hv : Int32.ofInt n = v) (k : cm_Ex l g d mc ms y pc' ls (.int v :: st) I L R ds Q) : cm_Ex l g d mc ms y pc ls (st) I L R ds Q := by
  obtain ⟨hdg, rfl⟩ := hq
  exact fun p e Rm s m args below meth c H locs cells slots kc ks als C w hS hl hr => lv_iconst C.1 C.2.1 hdg hv (k p e Rm s m args below meth c H locs cells slots kc ks als C w hS hl hr)
theorem x_bipush {n : Int} {v : Int32} (hq : cm_N y pc (.bipush n) 2 pc') (hv : (Int8.ofInt n).toInt32 = v) (k : cm_Ex l g d mc ms y pc' ls (.int v :: st) I L R ds Q) : cm_Ex l g d mc ms y pc ls (st) I L R ds Q := by
  obtain ⟨hdg, rfl⟩ := hq
  exact fun p e Rm s m args below meth c H locs cells slots kc ks als C w hS hl hr => lv_bipush C.1 C.2.1 hdg hv (k p e Rm s m args below meth c H locs cells slots kc ks als C w hS hl hr)
theorem x_sipush {n : Int} {v : Int32} (hq : cm_N y pc (.sipush n) 3 pc') (hv : (Int16.ofInt n).toInt32 = v) (k : cm_Ex l g d mc ms y pc' ls (.int v :: st) I L R ds Q) : cm_Ex l g d mc ms y pc ls (st) I L R ds Q := by
  obtain ⟨hdg, rfl⟩ := hq
  exact fun p e Rm s m args below meth c H locs cells slots kc ks als C w hS hl hr => lv_sipush C.1 C.2.1 hdg hv (k p e Rm s m args below meth c H locs cells slots kc ks als C w hS hl hr)
theorem x_lconst {n : Fin 2} {v : Int64} (hq : cm_N y pc (.lconst n) 1 pc') (hv : Int64.ofNat (n : Nat) = v) (k : cm_Ex l g d mc ms y pc' ls (.long v :: st) I L R ds Q) : cm_Ex l g d mc ms y pc ls (st) I L R ds Q := by
  obtain ⟨hdg, rfl⟩ := hq
  exact fun p e Rm s m args below meth c H locs cells slots kc ks als C w hS hl hr => lv_lconst C.1 C.2.1 hdg hv (k p e Rm s m args below meth c H locs cells slots kc ks als C w hS hl hr)
theorem x_ldc {idx : Nat} {v : Int32} (hq : cm_N y pc (.ldc idx) 2 pc') (hw : Cond.constant y.1.cls idx v ∈ cm_W0) (k : cm_Ex l g d mc ms y pc' ls (.int v :: st) I L R ds Q) : cm_Ex l g d mc ms y pc ls (st) I L R ds Q := by
  obtain ⟨hdg, rfl⟩ := hq
  exact fun p e Rm s m args below meth c H locs cells slots kc ks als C w hS hl hr => lv_ldc C.1 C.2.1 C.2.2.2.2.1 (C.2.2.2.2.2.1 _ (List.mem_cons_of_mem _ hw)) hdg (k p e Rm s m args below meth c H locs cells slots kc ks als C w hS hl hr)
theorem x_ldcw {idx : Nat} {v : Int32} (hq : cm_N y pc (.ldc_w idx) 3 pc') (hw : Cond.constant y.1.cls idx v ∈ cm_W0) (k : cm_Ex l g d mc ms y pc' ls (.int v :: st) I L R ds Q) : cm_Ex l g d mc ms y pc ls (st) I L R ds Q := by
  obtain ⟨hdg, rfl⟩ := hq
  exact fun p e Rm s m args below meth c H locs cells slots kc ks als C w hS hl hr => lv_ldcw C.1 C.2.1 C.2.2.2.2.1 (C.2.2.2.2.2.1 _ (List.mem_cons_of_mem _ hw)) hdg (k p e Rm s m args below meth c H locs cells slots kc ks als C w hS hl hr)
theorem x_ldc2 {idx : Nat} {v : Int64} (hq : cm_N y pc (.ldc2_w idx) 3 pc') (hw : Cond.constantLong y.1.cls idx v ∈ cm_W0) (k : cm_Ex l g d mc ms y pc' ls (.long v :: st) I L R ds Q) : cm_Ex l g d mc ms y pc ls (st) I L R ds Q := by
  obtain ⟨hdg, rfl⟩ := hq
  exact fun p e Rm s m args below meth c H locs cells slots kc ks als C w hS hl hr => lv_ldc2 C.1 C.2.1 C.2.2.2.2.1 (C.2.2.2.2.2.1 _ (List.mem_cons_of_mem _ hw)) hdg (k p e Rm s m args below meth c H locs cells slots kc ks als C w hS hl hr)
theorem x_null (hq : cm_N y pc .aconst_null 1 pc')  (k : cm_Ex l g d mc ms y pc' ls (.null :: st) I L R ds Q) : cm_Ex l g d mc ms y pc ls (st) I L R ds Q := by
  obtain ⟨hdg, rfl⟩ := hq
  exact fun p e Rm s m args below meth c H locs cells slots kc ks als C w hS hl hr => lv_null C.1 C.2.1 hdg (k p e Rm s m args below meth c H locs cells slots kc ks als C w hS hl hr)
theorem x_dup {v : Value} (hq : cm_N y pc .dup 1 pc') (hc : v.category = 1) (k : cm_Ex l g d mc ms y pc' ls (v :: v :: st) I L R ds Q) : cm_Ex l g d mc ms y pc ls (v :: st) I L R ds Q := by
  obtain ⟨hdg, rfl⟩ := hq
  exact fun p e Rm s m args below meth c H locs cells slots kc ks als C w hS hl hr => lv_dup C.1 C.2.1 hdg ((cm_cat C.2.2.2.2.2.2.2.2.1.2.1 v).trans hc) (k p e Rm s m args below meth c H locs cells slots kc ks als C w hS hl hr)
theorem x_pop {v : Value} (hq : cm_N y pc .pop 1 pc') (hc : v.category = 1) (k : cm_Ex l g d mc ms y pc' ls (st) I L R ds Q) : cm_Ex l g d mc ms y pc ls (v :: st) I L R ds Q := by
  obtain ⟨hdg, rfl⟩ := hq
  exact fun p e Rm s m args below meth c H locs cells slots kc ks als C w hS hl hr => lv_pop C.1 C.2.1 hdg ((cm_cat C.2.2.2.2.2.2.2.2.1.2.1 v).trans hc) (k p e Rm s m args below meth c H locs cells slots kc ks als C w hS hl hr)
theorem x_dup2 {v v2 : Value} (hq : cm_N y pc .dup2 1 pc') (hc : v.category = 1) (hc2 : v2.category = 1) (k : cm_Ex l g d mc ms y pc' ls (v :: v2 :: v :: v2 :: st) I L R ds Q) : cm_Ex l g d mc ms y pc ls (v :: v2 :: st) I L R ds Q := by
  obtain ⟨hdg, rfl⟩ := hq
  exact fun p e Rm s m args below meth c H locs cells slots kc ks als C w hS hl hr => lv_dup2_11 C.1 C.2.1 hdg ((cm_cat C.2.2.2.2.2.2.2.2.1.2.1 v).trans hc) ((cm_cat C.2.2.2.2.2.2.2.2.1.2.1 v2).trans hc2) (k p e Rm s m args below meth c H locs cells slots kc ks als C w hS hl hr)
theorem x_if_eq {off : Int} {tgt : Nat} {a : Int32} (hq : cm_N y pc (.ifCond .eq off) 3 pc') (ht : (pc : Int) + off = (tgt : Int)) (kt : a = 0 → cm_Ex l g d mc ms y tgt ls (st) I L R ds Q) (kf : ¬ a = 0 → cm_Ex l g d mc ms y pc' ls (st) I L R ds Q) : cm_Ex l g d mc ms y pc ls (.int a :: st) I L R ds Q := by
  obtain ⟨hdg, rfl⟩ := hq
  exact fun p e Rm s m args below meth c H locs cells slots kc ks als C w hS hl hr => lv_if_eq C.1 C.2.1 hdg ht (fun h => kt h p e Rm s m args below meth c H locs cells slots kc ks als C w hS hl hr) (fun h => kf h p e Rm s m args below meth c H locs cells slots kc ks als C w hS hl hr)
theorem x_icmp_eq {off : Int} {tgt : Nat} {a b : Int32} (hq : cm_N y pc (.if_icmp .eq off) 3 pc') (ht : (pc : Int) + off = (tgt : Int)) (kt : a = b → cm_Ex l g d mc ms y tgt ls (st) I L R ds Q) (kf : ¬ a = b → cm_Ex l g d mc ms y pc' ls (st) I L R ds Q) : cm_Ex l g d mc ms y pc ls (.int b :: .int a :: st) I L R ds Q := by
  obtain ⟨hdg, rfl⟩ := hq
  exact fun p e Rm s m args below meth c H locs cells slots kc ks als C w hS hl hr => lv_icmp_eq C.1 C.2.1 hdg ht (fun h => kt h p e Rm s m args below meth c H locs cells slots kc ks als C w hS hl hr) (fun h => kf h p e Rm s m args below meth c H locs cells slots kc ks als C w hS hl hr)
theorem x_if_ne {off : Int} {tgt : Nat} {a : Int32} (hq : cm_N y pc (.ifCond .ne off) 3 pc') (ht : (pc : Int) + off = (tgt : Int)) (kt : ¬ a = 0 → cm_Ex l g d mc ms y tgt ls (st) I L R ds Q) (kf : a = 0 → cm_Ex l g d mc ms y pc' ls (st) I L R ds Q) : cm_Ex l g d mc ms y pc ls (.int a :: st) I L R ds Q := by
  obtain ⟨hdg, rfl⟩ := hq
  exact fun p e Rm s m args below meth c H locs cells slots kc ks als C w hS hl hr => lv_if_ne C.1 C.2.1 hdg ht (fun h => kt h p e Rm s m args below meth c H locs cells slots kc ks als C w hS hl hr) (fun h => kf h p e Rm s m args below meth c H locs cells slots kc ks als C w hS hl hr)
theorem x_icmp_ne {off : Int} {tgt : Nat} {a b : Int32} (hq : cm_N y pc (.if_icmp .ne off) 3 pc') (ht : (pc : Int) + off = (tgt : Int)) (kt : ¬ a = b → cm_Ex l g d mc ms y tgt ls (st) I L R ds Q) (kf : a = b → cm_Ex l g d mc ms y pc' ls (st) I L R ds Q) : cm_Ex l g d mc ms y pc ls (.int b :: .int a :: st) I L R ds Q := by
  obtain ⟨hdg, rfl⟩ := hq
  exact fun p e Rm s m args below meth c H locs cells slots kc ks als C w hS hl hr => lv_icmp_ne C.1 C.2.1 hdg ht (fun h => kt h p e Rm s m args below meth c H locs cells slots kc ks als C w hS hl hr) (fun h => kf h p e Rm s m args below meth c H locs cells slots kc ks als C w hS hl hr)
theorem x_if_lt {off : Int} {tgt : Nat} {a : Int32} (hq : cm_N y pc (.ifCond .lt off) 3 pc') (ht : (pc : Int) + off = (tgt : Int)) (kt : a < 0 → cm_Ex l g d mc ms y tgt ls (st) I L R ds Q) (kf : ¬ a < 0 → cm_Ex l g d mc ms y pc' ls (st) I L R ds Q) : cm_Ex l g d mc ms y pc ls (.int a :: st) I L R ds Q := by
  obtain ⟨hdg, rfl⟩ := hq
  exact fun p e Rm s m args below meth c H locs cells slots kc ks als C w hS hl hr => lv_if_lt C.1 C.2.1 hdg ht (fun h => kt h p e Rm s m args below meth c H locs cells slots kc ks als C w hS hl hr) (fun h => kf h p e Rm s m args below meth c H locs cells slots kc ks als C w hS hl hr)
theorem x_icmp_lt {off : Int} {tgt : Nat} {a b : Int32} (hq : cm_N y pc (.if_icmp .lt off) 3 pc') (ht : (pc : Int) + off = (tgt : Int)) (kt : a < b → cm_Ex l g d mc ms y tgt ls (st) I L R ds Q) (kf : ¬ a < b → cm_Ex l g d mc ms y pc' ls (st) I L R ds Q) : cm_Ex l g d mc ms y pc ls (.int b :: .int a :: st) I L R ds Q := by
  obtain ⟨hdg, rfl⟩ := hq
  exact fun p e Rm s m args below meth c H locs cells slots kc ks als C w hS hl hr => lv_icmp_lt C.1 C.2.1 hdg ht (fun h => kt h p e Rm s m args below meth c H locs cells slots kc ks als C w hS hl hr) (fun h => kf h p e Rm s m args below meth c H locs cells slots kc ks als C w hS hl hr)
theorem x_if_ge {off : Int} {tgt : Nat} {a : Int32} (hq : cm_N y pc (.ifCond .ge off) 3 pc') (ht : (pc : Int) + off = (tgt : Int)) (kt : 0 ≤ a → cm_Ex l g d mc ms y tgt ls (st) I L R ds Q) (kf : ¬ 0 ≤ a → cm_Ex l g d mc ms y pc' ls (st) I L R ds Q) : cm_Ex l g d mc ms y pc ls (.int a :: st) I L R ds Q := by
  obtain ⟨hdg, rfl⟩ := hq
  exact fun p e Rm s m args below meth c H locs cells slots kc ks als C w hS hl hr => lv_if_ge C.1 C.2.1 hdg ht (fun h => kt h p e Rm s m args below meth c H locs cells slots kc ks als C w hS hl hr) (fun h => kf h p e Rm s m args below meth c H locs cells slots kc ks als C w hS hl hr)
theorem x_icmp_ge {off : Int} {tgt : Nat} {a b : Int32} (hq : cm_N y pc (.if_icmp .ge off) 3 pc') (ht : (pc : Int) + off = (tgt : Int)) (kt : b ≤ a → cm_Ex l g d mc ms y tgt ls (st) I L R ds Q) (kf : ¬ b ≤ a → cm_Ex l g d mc ms y pc' ls (st) I L R ds Q) : cm_Ex l g d mc ms y pc ls (.int b :: .int a :: st) I L R ds Q := by
  obtain ⟨hdg, rfl⟩ := hq
  exact fun p e Rm s m args below meth c H locs cells slots kc ks als C w hS hl hr => lv_icmp_ge C.1 C.2.1 hdg ht (fun h => kt h p e Rm s m args below meth c H locs cells slots kc ks als C w hS hl hr) (fun h => kf h p e Rm s m args below meth c H locs cells slots kc ks als C w hS hl hr)
theorem x_if_gt {off : Int} {tgt : Nat} {a : Int32} (hq : cm_N y pc (.ifCond .gt off) 3 pc') (ht : (pc : Int) + off = (tgt : Int)) (kt : 0 < a → cm_Ex l g d mc ms y tgt ls (st) I L R ds Q) (kf : ¬ 0 < a → cm_Ex l g d mc ms y pc' ls (st) I L R ds Q) : cm_Ex l g d mc ms y pc ls (.int a :: st) I L R ds Q := by
  obtain ⟨hdg, rfl⟩ := hq
  exact fun p e Rm s m args below meth c H locs cells slots kc ks als C w hS hl hr => lv_if_gt C.1 C.2.1 hdg ht (fun h => kt h p e Rm s m args below meth c H locs cells slots kc ks als C w hS hl hr) (fun h => kf h p e Rm s m args below meth c H locs cells slots kc ks als C w hS hl hr)
theorem x_icmp_gt {off : Int} {tgt : Nat} {a b : Int32} (hq : cm_N y pc (.if_icmp .gt off) 3 pc') (ht : (pc : Int) + off = (tgt : Int)) (kt : b < a → cm_Ex l g d mc ms y tgt ls (st) I L R ds Q) (kf : ¬ b < a → cm_Ex l g d mc ms y pc' ls (st) I L R ds Q) : cm_Ex l g d mc ms y pc ls (.int b :: .int a :: st) I L R ds Q := by
  obtain ⟨hdg, rfl⟩ := hq
  exact fun p e Rm s m args below meth c H locs cells slots kc ks als C w hS hl hr => lv_icmp_gt C.1 C.2.1 hdg ht (fun h => kt h p e Rm s m args below meth c H locs cells slots kc ks als C w hS hl hr) (fun h => kf h p e Rm s m args below meth c H locs cells slots kc ks als C w hS hl hr)
theorem x_if_le {off : Int} {tgt : Nat} {a : Int32} (hq : cm_N y pc (.ifCond .le off) 3 pc') (ht : (pc : Int) + off = (tgt : Int)) (kt : a ≤ 0 → cm_Ex l g d mc ms y tgt ls (st) I L R ds Q) (kf : ¬ a ≤ 0 → cm_Ex l g d mc ms y pc' ls (st) I L R ds Q) : cm_Ex l g d mc ms y pc ls (.int a :: st) I L R ds Q := by
  obtain ⟨hdg, rfl⟩ := hq
  exact fun p e Rm s m args below meth c H locs cells slots kc ks als C w hS hl hr => lv_if_le C.1 C.2.1 hdg ht (fun h => kt h p e Rm s m args below meth c H locs cells slots kc ks als C w hS hl hr) (fun h => kf h p e Rm s m args below meth c H locs cells slots kc ks als C w hS hl hr)
theorem x_icmp_le {off : Int} {tgt : Nat} {a b : Int32} (hq : cm_N y pc (.if_icmp .le off) 3 pc') (ht : (pc : Int) + off = (tgt : Int)) (kt : a ≤ b → cm_Ex l g d mc ms y tgt ls (st) I L R ds Q) (kf : ¬ a ≤ b → cm_Ex l g d mc ms y pc' ls (st) I L R ds Q) : cm_Ex l g d mc ms y pc ls (.int b :: .int a :: st) I L R ds Q := by
  obtain ⟨hdg, rfl⟩ := hq
  exact fun p e Rm s m args below meth c H locs cells slots kc ks als C w hS hl hr => lv_icmp_le C.1 C.2.1 hdg ht (fun h => kt h p e Rm s m args below meth c H locs cells slots kc ks als C w hS hl hr) (fun h => kf h p e Rm s m args below meth c H locs cells slots kc ks als C w hS hl hr)
theorem x_goto {off : Int} {tgt : Nat} (hq : cm_N y pc (.goto off) 3 pc') (ht : (pc : Int) + off = (tgt : Int)) (k : cm_Ex l g d mc ms y tgt ls (st) I L R ds Q) : cm_Ex l g d mc ms y pc ls (st) I L R ds Q := fun p e Rm s m args below meth c H locs cells slots kc ks als C w hS hl hr => lv_goto C.1 C.2.1 hq.1 ht (k p e Rm s m args below meth c H locs cells slots kc ks als C w hS hl hr)
theorem x_ifnonnull {off : Int} {tgt : Nat} {a : Nat} (hq : cm_N y pc (.ifnonnull off) 3 pc') (ht : (pc : Int) + off = (tgt : Int)) (k : cm_Ex l g d mc ms y tgt ls (st) I L R ds Q) : cm_Ex l g d mc ms y pc ls (.ref a :: st) I L R ds Q := by
  obtain ⟨hdg, rfl⟩ := hq
  exact fun p e Rm s m args below meth c H locs cells slots kc ks als C w hS hl hr => lv_ifnonnull C.1 C.2.1 hdg ht (k p e Rm s m args below meth c H locs cells slots kc ks als C w hS hl hr)
theorem x_ifnull_n {off : Int} {tgt : Nat} {a : Nat} (hq : cm_N y pc (.ifnull off) 3 pc') (ht : (pc : Int) + off = (tgt : Int)) (k : cm_Ex l g d mc ms y tgt ls (st) I L R ds Q) : cm_Ex l g d mc ms y pc ls (.null :: st) I L R ds Q := by
  obtain ⟨hdg, rfl⟩ := hq
  exact fun p e Rm s m args below meth c H locs cells slots kc ks als C w hS hl hr => lv_ifnullN C.1 C.2.1 hdg ht (k p e Rm s m args below meth c H locs cells slots kc ks als C w hS hl hr)
theorem x_ifnull {off : Int} {a : Nat} (hq : cm_N y pc (.ifnull off) 3 pc') (k : cm_Ex l g d mc ms y pc' ls (st) I L R ds Q) : cm_Ex l g d mc ms y pc ls (.ref a :: st) I L R ds Q := by
  obtain ⟨hdg, rfl⟩ := hq
  exact fun p e Rm s m args below meth c H locs cells slots kc ks als C w hS hl hr => lv_ifnull C.1 C.2.1 hdg (k p e Rm s m args below meth c H locs cells slots kc ks als C w hS hl hr)
theorem x_ifnonnull_n {off : Int} {a : Nat} (hq : cm_N y pc (.ifnonnull off) 3 pc') (k : cm_Ex l g d mc ms y pc' ls (st) I L R ds Q) : cm_Ex l g d mc ms y pc ls (.null :: st) I L R ds Q := by
  obtain ⟨hdg, rfl⟩ := hq
  exact fun p e Rm s m args below meth c H locs cells slots kc ks als C w hS hl hr => lv_ifnonnullN C.1 C.2.1 hdg (k p e Rm s m args below meth c H locs cells slots kc ks als C w hS hl hr)
theorem x_tblOut {dflt lo hi : Int} {offs : Array Int} {len : Nat} {a : Int32} {tgt : Nat} (hq : cm_N y pc (.tableswitch dflt lo hi offs) len pc') (h : a.toInt < lo ∨ hi < a.toInt) (ht : (pc : Int) + dflt = (tgt : Int)) (k : cm_Ex l g d mc ms y tgt ls (st) I L R ds Q) : cm_Ex l g d mc ms y pc ls (.int a :: st) I L R ds Q := fun p e Rm s m args below meth c H locs cells slots kc ks als C w hS hl hr => lv_tableOut C.1 C.2.1 hq.1 h ht (k p e Rm s m args below meth c H locs cells slots kc ks als C w hS hl hr)
theorem x_tblIn {dflt lo hi : Int} {offs : Array Int} {len : Nat} {a : Int32} {off : Int} {tgt : Nat} (hq : cm_N y pc (.tableswitch dflt lo hi offs) len pc') (h1 : ¬ a.toInt < lo) (h2 : ¬ hi < a.toInt) (ho : offs[(a.toInt - lo).toNat]? = some off) (ht : (pc : Int) + off = (tgt : Int)) (k : cm_Ex l g d mc ms y tgt ls (st) I L R ds Q) : cm_Ex l g d mc ms y pc ls (.int a :: st) I L R ds Q := fun p e Rm s m args below meth c H locs cells slots kc ks als C w hS hl hr => lv_tableIn C.1 C.2.1 hq.1 h1 h2 ho ht (k p e Rm s m args below meth c H locs cells slots kc ks als C w hS hl hr)
theorem x_lkp {dflt : Int} {ps : Array (Int × Int)} {len : Nat} {a : Int32} {off : Int} {tgt : Nat} (hq : cm_N y pc (.lookupswitch dflt ps) len pc') (hp : (ps.toList.zip (ps.toList.drop 1)).all (fun (a, next) => a.1 < next.1) = true) (ho : Op.lookupswitch.offset ps.toList dflt a.toInt = off) (ht : (pc : Int) + off = (tgt : Int)) (k : cm_Ex l g d mc ms y tgt ls (st) I L R ds Q) : cm_Ex l g d mc ms y pc ls (.int a :: st) I L R ds Q := fun p e Rm s m args below meth c H locs cells slots kc ks als C w hS hl hr => lv_lookup C.1 C.2.1 hq.1 hp ho ht (k p e Rm s m args below meth c H locs cells slots kc ks als C w hS hl hr)
theorem x_ild {i : Nat} {a : Int32} (hq : cm_N y pc (.iload i) 2 pc') (hv : ls[i]? = some (.int a)) (k : cm_Ex l g d mc ms y pc' ls (.int a :: st) I L R ds Q) : cm_Ex l g d mc ms y pc ls (st) I L R ds Q := by
  obtain ⟨hdg, rfl⟩ := hq
  exact fun p e Rm s m args below meth c H locs cells slots kc ks als C w hS hl hr => lv_iload C.1 C.2.1 hdg (cm_lv_at hl hv (fun b h => by cases h)) (k p e Rm s m args below meth c H locs cells slots kc ks als C w hS hl hr)
theorem x_lld {i : Nat} {a : Int64} (hq : cm_N y pc (.lload i) 2 pc') (hv : ls[i]? = some (.long a)) (k : cm_Ex l g d mc ms y pc' ls (.long a :: st) I L R ds Q) : cm_Ex l g d mc ms y pc ls (st) I L R ds Q := by
  obtain ⟨hdg, rfl⟩ := hq
  exact fun p e Rm s m args below meth c H locs cells slots kc ks als C w hS hl hr => lv_lload C.1 C.2.1 hdg (cm_lv_at hl hv (fun b h => by cases h)) (k p e Rm s m args below meth c H locs cells slots kc ks als C w hS hl hr)
theorem x_ildn {i : Fin 4} {a : Int32} (hq : cm_N y pc (.iload_n i) 1 pc') (hv : ls[(i : Nat)]? = some (.int a)) (k : cm_Ex l g d mc ms y pc' ls (.int a :: st) I L R ds Q) : cm_Ex l g d mc ms y pc ls (st) I L R ds Q := by
  obtain ⟨hdg, rfl⟩ := hq
  exact fun p e Rm s m args below meth c H locs cells slots kc ks als C w hS hl hr => lv_iload_n C.1 C.2.1 hdg rfl (cm_lv_at hl hv (fun b h => by cases h)) (k p e Rm s m args below meth c H locs cells slots kc ks als C w hS hl hr)
theorem x_lldn {i : Fin 4} {a : Int64} (hq : cm_N y pc (.lload_n i) 1 pc') (hv : ls[(i : Nat)]? = some (.long a)) (k : cm_Ex l g d mc ms y pc' ls (.long a :: st) I L R ds Q) : cm_Ex l g d mc ms y pc ls (st) I L R ds Q := by
  obtain ⟨hdg, rfl⟩ := hq
  exact fun p e Rm s m args below meth c H locs cells slots kc ks als C w hS hl hr => lv_lload_n C.1 C.2.1 hdg rfl (cm_lv_at hl hv (fun b h => by cases h)) (k p e Rm s m args below meth c H locs cells slots kc ks als C w hS hl hr)
theorem x_aldn {i : Fin 4} {v : Value} (hq : cm_N y pc (.aload_n i) 1 pc') (hv : ls[(i : Nat)]? = some v) (hi : cm_isr v) (k : cm_Ex l g d mc ms y pc' ls (v :: st) I L R ds Q) : cm_Ex l g d mc ms y pc ls (st) I L R ds Q := by
  obtain ⟨hdg, rfl⟩ := hq
  intro p e Rm s m args below meth c H locs cells slots kc ks als C w hS hl hr
  have k1 := k p e Rm s m args below meth c H locs cells slots kc ks als C w hS hl hr
  have h1 := cm_lv_at hl hv (fun b h => by rw [h] at hi; exact hi)
  rw [List.map_cons] at k1
  cases v with
  | ref a => exact lv_aload_n C.1 C.2.1 hdg rfl h1 k1
  | null => exact lv_aload_nN C.1 C.2.1 hdg rfl h1 k1
  | retAddr j =>
    rcases C.2.2.2.2.2.2.2.2.1.2.1 j with ⟨t, ht⟩ | ht
    · rw [show cm_em g (.retAddr j) = .ref t from ht] at k1 h1
      exact lv_aload_n C.1 C.2.1 hdg rfl h1 k1
    · rw [show cm_em g (.retAddr j) = .null from ht] at k1 h1
      exact lv_aload_nN C.1 C.2.1 hdg rfl h1 k1
  | _ => exact absurd hi (fun h => h)
theorem x_ald {i : Nat} {v : Value} (hq : cm_N y pc (.aload i) 2 pc') (hv : ls[(i : Nat)]? = some v) (hi : cm_isr v) (k : cm_Ex l g d mc ms y pc' ls (v :: st) I L R ds Q) : cm_Ex l g d mc ms y pc ls (st) I L R ds Q := by
  obtain ⟨hdg, rfl⟩ := hq
  intro p e Rm s m args below meth c H locs cells slots kc ks als C w hS hl hr
  have k1 := k p e Rm s m args below meth c H locs cells slots kc ks als C w hS hl hr
  have h1 := cm_lv_at hl hv (fun b h => by rw [h] at hi; exact hi)
  rw [List.map_cons] at k1
  cases v with
  | ref a => exact lv_aload C.1 C.2.1 hdg h1 k1
  | null => exact lv_aloadN C.1 C.2.1 hdg h1 k1
  | retAddr j =>
    rcases C.2.2.2.2.2.2.2.2.1.2.1 j with ⟨t, ht⟩ | ht
    · rw [show cm_em g (.retAddr j) = .ref t from ht] at k1 h1
      exact lv_aload C.1 C.2.1 hdg h1 k1
    · rw [show cm_em g (.retAddr j) = .null from ht] at k1 h1
      exact lv_aloadN C.1 C.2.1 hdg h1 k1
  | _ => exact absurd hi (fun h => h)
theorem x_ist {i : Nat} {a : Int32} {ls' : List Value} (hq : cm_N y pc (.istore i) 2 pc') (hn : (i : Nat) < y.2.2.1) (hls : ls.set (i : Nat) (.int a) = ls') (hc : ∀ w, 0 < (i : Nat) → ls[(i : Nat) - 1]? = some w → w.category = 1) (k : cm_Ex l g d mc ms y pc' ls' (st) I L R ds Q) : cm_Ex l g d mc ms y pc ls (.int a :: st) I L R ds Q := by
  obtain ⟨hdg, rfl⟩ := hq
  subst hls
  exact fun p e Rm s m args below meth c H locs cells slots kc ks als C w hS hl hr => lv_istore C.1 C.2.1 hdg hl hn rfl (fun als' hl' => k p e Rm s m args below meth c H locs cells slots kc ks als' C w hS (cm_lv_st1 C.2.2.2.2.2.2.2.2.1.2.1 hl' hc) hr)
theorem x_istn {i : Fin 4} {a : Int32} {ls' : List Value} (hq : cm_N y pc (.istore_n i) 1 pc') (hn : (i : Nat) < y.2.2.1) (hls : ls.set (i : Nat) (.int a) = ls') (hc : ∀ w, 0 < (i : Nat) → ls[(i : Nat) - 1]? = some w → w.category = 1) (k : cm_Ex l g d mc ms y pc' ls' (st) I L R ds Q) : cm_Ex l g d mc ms y pc ls (.int a :: st) I L R ds Q := by
  obtain ⟨hdg, rfl⟩ := hq
  subst hls
  exact fun p e Rm s m args below meth c H locs cells slots kc ks als C w hS hl hr => lv_istore_n C.1 C.2.1 hdg rfl hl hn rfl (fun als' hl' => k p e Rm s m args below meth c H locs cells slots kc ks als' C w hS (cm_lv_st1 C.2.2.2.2.2.2.2.2.1.2.1 hl' hc) hr)
theorem x_lst {i : Nat} {a : Int64} {ls' : List Value} (hq : cm_N y pc (.lstore i) 2 pc') (hn : (i : Nat) + 1 < y.2.2.1) (hls : (ls.set (i : Nat) (.long a)).set ((i : Nat) + 1) (.float 0) = ls') (hc : ∀ w, 0 < (i : Nat) → ls[(i : Nat) - 1]? = some w → w.category = 1) (k : cm_Ex l g d mc ms y pc' ls' (st) I L R ds Q) : cm_Ex l g d mc ms y pc ls (.long a :: st) I L R ds Q := by
  obtain ⟨hdg, rfl⟩ := hq
  subst hls
  exact fun p e Rm s m args below meth c H locs cells slots kc ks als C w hS hl hr => lv_lstore C.1 C.2.1 hdg hl hn rfl (fun als' hl' => k p e Rm s m args below meth c H locs cells slots kc ks als' C w hS (cm_lv_st2 C.2.2.2.2.2.2.2.2.1.2.1 hl' hc) hr)
theorem x_lstn {i : Fin 4} {a : Int64} {ls' : List Value} (hq : cm_N y pc (.lstore_n i) 1 pc') (hn : (i : Nat) + 1 < y.2.2.1) (hls : (ls.set (i : Nat) (.long a)).set ((i : Nat) + 1) (.float 0) = ls') (hc : ∀ w, 0 < (i : Nat) → ls[(i : Nat) - 1]? = some w → w.category = 1) (k : cm_Ex l g d mc ms y pc' ls' (st) I L R ds Q) : cm_Ex l g d mc ms y pc ls (.long a :: st) I L R ds Q := by
  obtain ⟨hdg, rfl⟩ := hq
  subst hls
  exact fun p e Rm s m args below meth c H locs cells slots kc ks als C w hS hl hr => lv_lstore_n C.1 C.2.1 hdg rfl hl hn rfl (fun als' hl' => k p e Rm s m args below meth c H locs cells slots kc ks als' C w hS (cm_lv_st2 C.2.2.2.2.2.2.2.2.1.2.1 hl' hc) hr)
theorem x_astn {i : Fin 4} {v : Value} {ls' : List Value} (hq : cm_N y pc (.astore_n i) 1 pc') (hn : (i : Nat) < y.2.2.1) (hi : cm_isr v) (hls : ls.set (i : Nat) v = ls') (hc : ∀ w, 0 < (i : Nat) → ls[(i : Nat) - 1]? = some w → w.category = 1) (k : cm_Ex l g d mc ms y pc' ls' (st) I L R ds Q) : cm_Ex l g d mc ms y pc ls (v :: st) I L R ds Q := by
  obtain ⟨hdg, rfl⟩ := hq
  subst hls
  intro p e Rm s m args below meth c H locs cells slots kc ks als C w hS hl hr
  have kk : ∀ als', lv_has als' y.2.2.1 ((i, cm_em g v) :: (cm_lv g 0 ls).filter (fun q => !(q.1 == (i : Nat)) && !(q.1 + 1 == (i : Nat) && q.2.category == 2))) → _ := fun als' hl' => k p e Rm s m args below meth c H locs cells slots kc ks als' C w hS (cm_lv_st1 C.2.2.2.2.2.2.2.2.1.2.1 hl' hc) hr
  rw [List.map_cons]
  cases v with
  | ref a => exact lv_astore_n C.1 C.2.1 hdg rfl hl hn rfl kk
  | null => exact lv_astore_nN C.1 C.2.1 hdg rfl hl hn rfl kk
  | retAddr j =>
    rcases C.2.2.2.2.2.2.2.2.1.2.1 j with ⟨t, ht⟩ | ht
    · rw [show cm_em g (.retAddr j) = .ref t from ht] at kk ⊢
      exact lv_astore_n C.1 C.2.1 hdg rfl hl hn rfl kk
    · rw [show cm_em g (.retAddr j) = .null from ht] at kk ⊢
      exact lv_astore_nN C.1 C.2.1 hdg rfl hl hn rfl kk
  | _ => exact absurd hi (fun h => h)
theorem x_ast {i : Nat} {v : Value} {ls' : List Value} (hq : cm_N y pc (.astore i) 2 pc') (hn : (i : Nat) < y.2.2.1) (hi : cm_isr v) (hls : ls.set (i : Nat) v = ls') (hc : ∀ w, 0 < (i : Nat) → ls[(i : Nat) - 1]? = some w → w.category = 1) (k : cm_Ex l g d mc ms y pc' ls' (st) I L R ds Q) : cm_Ex l g d mc ms y pc ls (v :: st) I L R ds Q := by
  obtain ⟨hdg, rfl⟩ := hq
  subst hls
  intro p e Rm s m args below meth c H locs cells slots kc ks als C w hS hl hr
  have kk : ∀ als', lv_has als' y.2.2.1 ((i, cm_em g v) :: (cm_lv g 0 ls).filter (fun q => !(q.1 == (i : Nat)) && !(q.1 + 1 == (i : Nat) && q.2.category == 2))) → _ := fun als' hl' => k p e Rm s m args below meth c H locs cells slots kc ks als' C w hS (cm_lv_st1 C.2.2.2.2.2.2.2.2.1.2.1 hl' hc) hr
  rw [List.map_cons]
  cases v with
  | ref a => exact lv_astore C.1 C.2.1 hdg hl hn rfl kk
  | null => exact lv_astoreN C.1 C.2.1 hdg hl hn rfl kk
  | retAddr j =>
    rcases C.2.2.2.2.2.2.2.2.1.2.1 j with ⟨t, ht⟩ | ht
    · rw [show cm_em g (.retAddr j) = .ref t from ht] at kk ⊢
      exact lv_astore C.1 C.2.1 hdg hl hn rfl kk
    · rw [show cm_em g (.retAddr j) = .null from ht] at kk ⊢
      exact lv_astoreN C.1 C.2.1 hdg hl hn rfl kk
  | _ => exact absurd hi (fun h => h)
theorem x_iinc {i : Nat} {n : Int} {a v : Int32} {ls' : List Value} (hq : cm_N y pc (.iinc i n) 3 pc') (hn : i < y.2.2.1) (ha : ls[i]? = some (.int a)) (hv : a + Int32.ofInt n = v) (hls : ls.set i (.int v) = ls') (hc : ∀ w, 0 < i → ls[i - 1]? = some w → w.category = 1) (k : cm_Ex l g d mc ms y pc' ls' (st) I L R ds Q) : cm_Ex l g d mc ms y pc ls (st) I L R ds Q := by
  obtain ⟨hdg, rfl⟩ := hq
  subst hls
  intro p e Rm s m args below meth c H locs cells slots kc ks als C w hS hl hr
  have hm : (i, Value.int a) ∈ cm_lv g 0 ls := by
    have h1 := cm_lv_in (g := g) (i := 0) ha (fun b h => by cases h)
    simpa [cm_em] using h1
  obtain ⟨k0, hk0⟩ := List.getElem?_of_mem hm
  exact lv_iinc C.1 C.2.1 hdg hl hk0 hv hn rfl (fun als' hl' => k p e Rm s m args below meth c H locs cells slots kc ks als' C w hS (cm_lv_st1 C.2.2.2.2.2.2.2.2.1.2.1 hl' hc) hr)
end CM
end
section
/-! rules that read or write cells -/
theorem cm_rf (g : cm_G) (o : Option Nat) : va_rf (o.map (g.1 + ·)) = cm_em g (cm_rv o) := by cases o <;> rfl
theorem cm_inI {i : Int32} {k n : Nat} (hi : i = nI k) (hk : k < n) (hn : n < 2147483648) : vp_in i n ∧ i.toNatClampNeg = k := by
  subst hi
  exact ⟨vp_in_nI hk hn, nI_clamp (by omega)⟩
theorem cm_tys_at (g : cm_G) {t : Nat} (h : t < 6) : (cm_tys g)[t]? = some (g.2.2.2.1 t, cm_aty t) := by
  simp [cm_tys, h]
theorem cm_S_H {g : cm_G} {H0 H : Heap} {locs : List Loc} (h : va_S (cm_A g) H0 H locs) : H0.size ≤ H.size := h.1
theorem cm_uu {α : Type} (f : Nat → Nat → α) (a k : Nat) (v : α) : cm_u f a k v a = fun j => if j = k then v else f a j := by
  funext j; simp [cm_u]
theorem cm_Wd_set {g : cm_G} {I I' : cm_I} {L L' : cm_L} {R R' : cm_R} {ds : cm_Ds} {H H1 : Heap} (w : cm_Wd g I L R ds H) {a : Nat} {d : cm_E} (hd : ds[a]? = some d) (he : va_at g.2.2.1 cm_cl (g.1 + a, cm_ent g I' L' R' a d) H1) (z : H1.size = H.size) (oq : ∀ q : Nat, q ≠ g.1 + a → H1[q]? = H[q]?) (hI : ∀ b, b ≠ a → I' b = I b) (hL : ∀ b, b ≠ a → L' b = L b) (hR : ∀ b, b ≠ a → R' b = R b) : cm_Wd g I' L' R' ds H1 := by
  refine ⟨?_, z.trans w.2⟩
  rw [← cm_cells_set hd rfl hI hL hR]
  exact w.1.set cm_dst (cm_cells_at g I L R hd) he oq
theorem cm_at_i {g : cm_G} {I : cm_I} {L : cm_L} {R : cm_R} {a n : Nat} {H : Heap} : va_at g.2.2.1 cm_cl (g.1 + a, cm_ent g I L R a (.inl (0, n))) H ↔ H[g.1 + a]? = some (arrV (g.2.2.2.1 0) n (fun j => .int (I a j))) := Iff.rfl
theorem cm_at_l {g : cm_G} {I : cm_I} {L : cm_L} {R : cm_R} {a n : Nat} {H : Heap} : va_at g.2.2.1 cm_cl (g.1 + a, cm_ent g I L R a (.inl (1, n))) H ↔ H[g.1 + a]? = some (arrV (g.2.2.2.1 1) n (fun j => .long (L a j))) := Iff.rfl
theorem cm_at_z {g : cm_G} {I : cm_I} {L : cm_L} {R : cm_R} {a n : Nat} {H : Heap} : va_at g.2.2.1 cm_cl (g.1 + a, cm_ent g I L R a (.inl (2, n))) H ↔ H[g.1 + a]? = some (arrV (g.2.2.2.1 2) n (fun j => .int (I a j))) := Iff.rfl
theorem cm_at_q {g : cm_G} {I : cm_I} {L : cm_L} {R : cm_R} {a n t : Nat} {H : Heap} (ht : 3 ≤ t) : va_at g.2.2.1 cm_cl (g.1 + a, cm_ent g I L R a (.inl (t, n))) H ↔ H[g.1 + a]? = some (arrV (g.2.2.2.1 t) n (fun j => va_rf ((R a j).map (g.1 + ·)))) := by
  simp only [va_at, cm_ent]
  rw [if_neg (by omega), if_neg (by omega)]
  exact Iff.rfl
theorem cm_arr_set {cA : ClassId} {n k : Nat} {f f' : Nat → Value} {v : Value} (h : ∀ j, f' j = if j = k then v else f j) : (arrV cA n f).setSlot k v = arrV cA n f' := by
  rw [arrV_store]
  congr 1
  funext j
  rw [h j]
  rfl
section CM
variable {l : Launch} {g : cm_G} {d mc ms : Nat} {y : cm_M} {pc pc' : Nat} {ls st : List Value} {I : cm_I} {L : cm_L} {R : cm_R} {ds : cm_Ds} {Q : cm_Post}
theorem x_iald {i : Int32} {a k n : Nat} (hq : cm_N y pc .iaload 1 pc') (hd : ds[a]? = some (.inl (0, n))) (hi : i = nI k) (hk : k < n) (hn : n < 2147483648) (kk : cm_Ex l g d mc ms y pc' ls (.int (I a k) :: st) I L R ds Q) : cm_Ex l g d mc ms y pc ls (.int i :: .ref a :: st) I L R ds Q := by
  obtain ⟨hdg, rfl⟩ := hq
  obtain ⟨h1, h2⟩ := cm_inI hi hk hn
  intro p e Rm s m args below meth c H locs cells slots kc ks als C w hS hl hr
  have k1 := kk p e Rm s m args below meth c H locs cells slots kc ks als C w hS hl hr
  rw [← h2] at k1
  exact va_iald C.1 C.2.1 C.2.2.2.2.2.2.2.2.2.1 w.1 a 0 (cm_cells_at g I L R hd) (cm_tys_at g (by decide)) h1 hdg k1
theorem x_lald {i : Int32} {a k n : Nat} (hq : cm_N y pc .laload 1 pc') (hd : ds[a]? = some (.inl (1, n))) (hi : i = nI k) (hk : k < n) (hn : n < 2147483648) (kk : cm_Ex l g d mc ms y pc' ls (.long (L a k) :: st) I L R ds Q) : cm_Ex l g d mc ms y pc ls (.int i :: .ref a :: st) I L R ds Q := by
  obtain ⟨hdg, rfl⟩ := hq
  obtain ⟨h1, h2⟩ := cm_inI hi hk hn
  intro p e Rm s m args below meth c H locs cells slots kc ks als C w hS hl hr
  have k1 := kk p e Rm s m args below meth c H locs cells slots kc ks als C w hS hl hr
  rw [← h2] at k1
  exact va_lald C.1 C.2.1 C.2.2.2.2.2.2.2.2.2.1 w.1 a 1 (cm_cells_at g I L R hd) (cm_tys_at g (by decide)) h1 hdg k1
theorem x_zald {i : Int32} {a k n : Nat} (hq : cm_N y pc .baload 1 pc') (hd : ds[a]? = some (.inl (2, n))) (hi : i = nI k) (hk : k < n) (hn : n < 2147483648) (kk : cm_Ex l g d mc ms y pc' ls (.int (I a k) :: st) I L R ds Q) : cm_Ex l g d mc ms y pc ls (.int i :: .ref a :: st) I L R ds Q := by
  obtain ⟨hdg, rfl⟩ := hq
  obtain ⟨h1, h2⟩ := cm_inI hi hk hn
  intro p e Rm s m args below meth c H locs cells slots kc ks als C w hS hl hr
  have k1 := kk p e Rm s m args below meth c H locs cells slots kc ks als C w hS hl hr
  rw [← h2] at k1
  exact va_zald C.1 C.2.1 C.2.2.2.2.2.2.2.2.2.1 w.1 a 2 (cm_cells_at g I L R hd) (cm_tys_at g (by decide)) h1 hdg k1
theorem x_aald {i : Int32} {a k n t : Nat} (hq : cm_N y pc .aaload 1 pc') (hd : ds[a]? = some (.inl (t, n))) (ht : t = 3 ∨ t = 4 ∨ t = 5) (hi : i = nI k) (hk : k < n) (hn : n < 2147483648) (kk : cm_Ex l g d mc ms y pc' ls (cm_rv (R a k) :: st) I L R ds Q) : cm_Ex l g d mc ms y pc ls (.int i :: .ref a :: st) I L R ds Q := by
  obtain ⟨hdg, rfl⟩ := hq
  obtain ⟨h1, h2⟩ := cm_inI hi hk hn
  intro p e Rm s m args below meth c H locs cells slots kc ks als C w hS hl hr
  have k1 := kk p e Rm s m args below meth c H locs cells slots kc ks als C w hS hl hr
  rw [← h2, List.map_cons, ← cm_rf] at k1
  rcases ht with rfl | rfl | rfl
  · exact va_aldq C.1 C.2.1 C.2.2.2.2.2.2.2.2.2.1 w.1 a 3 (cm_cells_at g I L R hd) (cm_tys_at g (by decide)) h1 hdg k1
  · exact va_aldq C.1 C.2.1 C.2.2.2.2.2.2.2.2.2.1 w.1 a 4 (cm_cells_at g I L R hd) (cm_tys_at g (by decide)) h1 hdg k1
  · exact va_aldq C.1 C.2.1 C.2.2.2.2.2.2.2.2.2.1 w.1 a 5 (cm_cells_at g I L R hd) (cm_tys_at g (by decide)) h1 hdg k1
theorem x_alen {a n t : Nat} {v : Int32} (hq : cm_N y pc .arraylength 1 pc') (hd : ds[a]? = some (.inl (t, n))) (ht : t < 6) (hv : nI n = v) (kk : cm_Ex l g d mc ms y pc' ls (.int v :: st) I L R ds Q) : cm_Ex l g d mc ms y pc ls (.ref a :: st) I L R ds Q := by
  obtain ⟨hdg, rfl⟩ := hq
  intro p e Rm s m args below meth c H locs cells slots kc ks als C w hS hl hr
  exact va_alen C.1 C.2.1 C.2.2.2.2.2.2.2.2.2.1 w.1 a t (cm_cells_at g I L R hd) (cm_tys_at g ht) hv hdg (kk p e Rm s m args below meth c H locs cells slots kc ks als C w hS hl hr)
theorem x_iast {i : Int32} {v : Int32} {a k n : Nat} (hq : cm_N y pc .iastore 1 pc') (hd : ds[a]? = some (.inl (0, n))) (hi : i = nI k) (hk : k < n) (hn : n < 2147483648) (kk : cm_Ex l g d mc ms y pc' ls st (cm_u I a k v) L R ds Q) : cm_Ex l g d mc ms y pc ls (.int v :: .int i :: .ref a :: st) I L R ds Q := by
  obtain ⟨hdg, rfl⟩ := hq
  obtain ⟨h1, h2⟩ := cm_inI hi hk hn
  intro p e Rm s m args below meth c H locs cells slots kc ks als C w hS hl hr
  refine W.iast C.1 C.2.1 (cm_at_i.mp (w.1 a _ (cm_cells_at g I L R hd))) ((C.2.2.2.2.2.2.2.2.2.1.2 0 _ (cm_tys_at g (by decide))).1 n (fun j => Value.int (I a j))) (fun q => by cases q) (by show ¬ (i < 0 ∨ (arrV _ _ _).slots.size ≤ _); rw [arrV_size]; exact h1) rfl rfl hdg fun H1 e1 z oq => ?_
  rw [h2] at e1 ⊢
  refine kk p e Rm s m args below meth c H1 _ cells slots kc ks als C (cm_Wd_set w hd (I' := cm_u I a k v) (L' := L) (R' := R) ?_ z oq (fun b hb => cm_u_ne hb) (fun b hb => rfl) (fun b hb => rfl)) (hS.put z oq (Nat.le_add_right _ _)) hl hr
  refine cm_at_i.mpr (e1.trans (congrArg some (cm_arr_set fun j => ?_)))
  simp only [cm_u, if_true]
  split <;> rfl
theorem x_last {i : Int32} {v : Int64} {a k n : Nat} (hq : cm_N y pc .lastore 1 pc') (hd : ds[a]? = some (.inl (1, n))) (hi : i = nI k) (hk : k < n) (hn : n < 2147483648) (kk : cm_Ex l g d mc ms y pc' ls st I (cm_u L a k v) R ds Q) : cm_Ex l g d mc ms y pc ls (.long v :: .int i :: .ref a :: st) I L R ds Q := by
  obtain ⟨hdg, rfl⟩ := hq
  obtain ⟨h1, h2⟩ := cm_inI hi hk hn
  intro p e Rm s m args below meth c H locs cells slots kc ks als C w hS hl hr
  refine W.last C.1 C.2.1 (cm_at_l.mp (w.1 a _ (cm_cells_at g I L R hd))) ((C.2.2.2.2.2.2.2.2.2.1.2 1 _ (cm_tys_at g (by decide))).1 n (fun j => Value.long (L a j))) (fun q => by cases q) (by show ¬ (i < 0 ∨ (arrV _ _ _).slots.size ≤ _); rw [arrV_size]; exact h1) rfl rfl hdg fun H1 e1 z oq => ?_
  rw [h2] at e1 ⊢
  refine kk p e Rm s m args below meth c H1 _ cells slots kc ks als C (cm_Wd_set w hd (I' := I) (L' := cm_u L a k v) (R' := R) ?_ z oq (fun b hb => rfl) (fun b hb => cm_u_ne hb) (fun b hb => rfl)) (hS.put z oq (Nat.le_add_right _ _)) hl hr
  refine cm_at_l.mpr (e1.trans (congrArg some (cm_arr_set fun j => ?_)))
  simp only [cm_u, if_true]
  split <;> rfl
theorem x_zast {i v v' : Int32} {a k n : Nat} (hq : cm_N y pc .bastore 1 pc') (hd : ds[a]? = some (.inl (2, n))) (hi : i = nI k) (hk : k < n) (hn : n < 2147483648) (hv : narrow .boolean (.int v) = .int v') (kk : cm_Ex l g d mc ms y pc' ls st (cm_u I a k v') L R ds Q) : cm_Ex l g d mc ms y pc ls (.int v :: .int i :: .ref a :: st) I L R ds Q := by
  obtain ⟨hdg, rfl⟩ := hq
  obtain ⟨h1, h2⟩ := cm_inI hi hk hn
  intro p e Rm s m args below meth c H locs cells slots kc ks als C w hS hl hr
  refine W.zast C.1 C.2.1 (cm_at_z.mp (w.1 a _ (cm_cells_at g I L R hd))) ((C.2.2.2.2.2.2.2.2.2.1.2 2 _ (cm_tys_at g (by decide))).1 n (fun j => Value.int (I a j))) (fun q => by cases q) (by show ¬ (i < 0 ∨ (arrV _ _ _).slots.size ≤ _); rw [arrV_size]; exact h1) rfl rfl hdg fun H1 e1 z oq => ?_
  rw [h2, hv] at e1
  rw [h2]
  refine kk p e Rm s m args below meth c H1 _ cells slots kc ks als C (cm_Wd_set w hd (I' := cm_u I a k v') (L' := L) (R' := R) ?_ z oq (fun b hb => cm_u_ne hb) (fun b hb => rfl) (fun b hb => rfl)) (hS.put z oq (Nat.le_add_right _ _)) hl hr
  refine cm_at_z.mpr (e1.trans (congrArg some (cm_arr_set fun j => ?_)))
  simp only [cm_u, if_true]
  split <;> rfl
theorem x_aast {i : Int32} {a k n t v ci : Nat} (hq : cm_N y pc .aastore 1 pc') (hd : ds[a]? = some (.inl (t, n))) (hv : ds[v]? = some (.inr ci)) (ht : t < 6) (hc : ∃ r : vw_C, cm_cl[ci]? = some r ∧ cm_aty t = .object r.1) (ht3 : 3 ≤ t) (hi : i = nI k) (hk : k < n) (hn : n < 2147483648) (kk : cm_Ex l g d mc ms y pc' ls st I L (cm_u R a k (some v)) ds Q) : cm_Ex l g d mc ms y pc ls (.ref v :: .int i :: .ref a :: st) I L R ds Q := by
  obtain ⟨hdg, rfl⟩ := hq
  obtain ⟨h1, h2⟩ := cm_inI hi hk hn
  obtain ⟨r, hc1, hc2⟩ := hc
  intro p e Rm s m args below meth c H locs cells slots kc ks als C w hS hl hr
  have hlt : i.toNatClampNeg < n := by rw [h2]; exact hk
  have h0 : ¬ i < 0 := fun q => h1 (Or.inl q)
  have hK := C.2.2.2.2.2.2.2.2.2.1
  obtain ⟨r', hr', cellV, g1, g2, g3, -⟩ := w.1 v _ (cm_cells_at g I L R hv)
  have hcls := (hK.1 ci r hc1).2
  have hra := (hK.2 t _ (cm_tys_at g ht)).2
  dsimp only at hra
  rw [hc2] at hra
  obtain ⟨kA, comp, k1, k2, k3, -⟩ := hra
  have hcomp : comp = g.2.2.1.1 ci := Option.some.inj (k3.symm.trans hcls.1)
  subst hcomp
  obtain ⟨kC, hkC, -⟩ := hcls.2
  have hcell := (cm_at_q ht3).mp (w.1 a _ (cm_cells_at g I L R hd))
  refine W.aast C.1 C.2.1 hcell (fun q h => by cases h) (fun h => by cases h) k1 k2 rfl hkC ⟨h0, by show _ < (arrV _ _ _).slots.size; rw [arrV_size]; exact hlt⟩ g1 (fun q h => by rw [g3] at h; cases h) (by rw [g2]; exact hkC) (by rw [g2]; exact va_assign hcls) rfl rfl hdg fun H1 e1 z oq => ?_
  rw [h2] at e1 ⊢
  refine kk p e Rm s m args below meth c H1 _ cells slots kc ks als C (cm_Wd_set w hd (I' := I) (L' := L) (R' := cm_u R a k (some v)) ?_ z oq (fun b hb => rfl) (fun b hb => rfl) (fun b hb => cm_u_ne hb)) (hS.put z oq (Nat.le_add_right _ _)) hl hr
  refine (cm_at_q ht3).mpr (e1.trans (congrArg some (cm_arr_set fun j => ?_)))
  simp only [cm_u, if_true]
  split <;> rfl
end CM
end
section
theorem cm_fs_upd {g : cm_G} {I I' : cm_I} {L L' : cm_L} {R R' : cm_R} {a ci k kd : Nat} {v' : Value} (hk : (cm_ks ci)[k]? = some kd) (hv : cm_em g (cm_sv I' L' R' a k kd) = v') (hI : ∀ j, j ≠ k → I' a j = I a j) (hL : ∀ j, j ≠ k → L' a j = L a j) (hR : ∀ j, j ≠ k → R' a j = R a j) (j : Nat) : updV (vp_V (cm_fs g I L R a ci)) k v' j = vp_V (cm_fs g I' L' R' a ci) j := by
  by_cases hj : j = k
  · subst hj
    simp only [updV, if_true, vp_V, List.getD_eq_getElem?_getD, cm_ksv hk, Option.getD_some, hv]
  · simp only [updV, if_neg hj, vp_V, List.getD_eq_getElem?_getD, cm_fs, List.getElem?_mapIdx]
    cases hx : (cm_ks ci)[j]? with
    | none => rfl
    | some kd' => simp only [Option.map_some, Option.getD_some, cm_sv, hI j hj, hL j hj, hR j hj]
section CM
variable {l : Launch} {g : cm_G} {d mc ms : Nat} {y : cm_M} {pc pc' : Nat} {ls st : List Value} {I : cm_I} {L : cm_L} {R : cm_R} {ds : cm_Ds} {Q : cm_Post}
theorem x_putf {idx : Nat} (hq : cm_N y pc (.putfield idx) 3 pc') {ci k kd a : Nat} {fin : Bool} {v : Value} {I' : cm_I} {L' : cm_L} {R' : cm_R} (hf : cm_fl y.1.cls idx ci k kd fin) (hi : fin = false ∨ y.1.name = "<init>") (hd : ds[a]? = some (.inr ci))
    (hv : (kd = 0 ∧ ∃ x, v = .int x ∧ I' = cm_u I a k x ∧ L' = L ∧ R' = R) ∨ (kd = 3 ∧ ∃ x, v = .int x ∧ (x = 0 ∨ x = 1) ∧ I' = cm_u I a k x ∧ L' = L ∧ R' = R) ∨ (kd = 1 ∧ ∃ x, v = .long x ∧ L' = cm_u L a k x ∧ I' = I ∧ R' = R) ∨ (kd = 2 ∧ ∃ x, v = cm_rv x ∧ R' = cm_u R a k x ∧ I' = I ∧ L' = L))
    (kk : cm_Ex l g d mc ms y pc' ls st I' L' R' ds Q) : cm_Ex l g d mc ms y pc ls (v :: .ref a :: st) I L R ds Q := by
  obtain ⟨hdg, rfl⟩ := hq
  obtain ⟨Cn, T, N, ty, h1, h2, h3, h4, h5, h6, h8, h9, h10, t0, t1, t3, t2⟩ := hf
  intro p e Rm s m args below meth c H locs cells slots kc ks als C w hS hl hr
  have hts : ∀ w ∈ cm_ws y, w.before args s = true := C.2.2.2.2.2.1
  have hin : ∀ w ∈ u_ws Cn T N, w ∈ cm_ws y := fun w hw => List.mem_cons_of_mem _ (h2 w hw)
  have hK := C.2.2.2.2.2.2.2.2.2.1
  have hap := va_apart (own := y.1.cls) hts hin ty h3 h4 hK h1
  obtain ⟨r, hr1, cell, q1, q2, q3, q4⟩ := w.1 a _ (cm_cells_at g I L R hd)
  have hrr : r = (Cn, T, N) := Option.some.inj (hr1.symm.trans h1)
  subst hrr
  obtain ⟨hS', hfc, kC, hkC, hkind⟩ := hK.1 ci _ h1
  obtain ⟨cf, kf, fi, f, hi', hsl⟩ := hS' k h5
  have hlay := hts _ (hin _ (u_in_lay h5))
  unfold u_lay at hlay
  have hst := (u_facts hfc hkC (u_lays hts hin h5) hi').1
  have hnf : narrow (ty k) (cm_em g v) = cm_em g v ∧ fits (ty k) (cm_em g v) = true ∧ cm_em g (cm_sv I' L' R' a k kd) = cm_em g v ∧ (∀ b, b ≠ a → I' b = I b) ∧ (∀ b, b ≠ a → L' b = L b) ∧ (∀ b, b ≠ a → R' b = R b) ∧ (∀ j, j ≠ k → I' a j = I a j) ∧ (∀ j, j ≠ k → L' a j = L a j) ∧ (∀ j, j ≠ k → R' a j = R a j) := by
    rcases hv with ⟨hk, x, rfl, rfl, rfl, rfl⟩ | ⟨hk, x, rfl, hx, rfl, rfl, rfl⟩ | ⟨hk, x, rfl, rfl, rfl, rfl⟩ | ⟨hk, x, rfl, rfl, rfl, rfl⟩
    · rw [t0 hk]
      exact ⟨rfl, rfl, by subst hk; simp [cm_sv, cm_u], fun b hb => cm_u_ne hb, fun _ _ => rfl, fun _ _ => rfl, fun j hj => by simp [cm_u, hj], fun _ _ => rfl, fun _ _ => rfl⟩
    · rw [t3 hk]
      refine ⟨?_, ?_, by subst hk; simp [cm_sv, cm_u], fun b hb => cm_u_ne hb, fun _ _ => rfl, fun _ _ => rfl, fun j hj => by simp [cm_u, hj], fun _ _ => rfl, fun _ _ => rfl⟩
      · rcases hx with rfl | rfl <;> rfl
      · rcases hx with rfl | rfl <;> rfl
    · rw [t1 hk]
      exact ⟨rfl, rfl, by subst hk; simp [cm_sv, cm_u], fun _ _ => rfl, fun b hb => cm_u_ne hb, fun _ _ => rfl, fun _ _ => rfl, fun j hj => by simp [cm_u, hj], fun _ _ => rfl⟩
    · refine ⟨?_, ?_, by subst hk; simp [cm_sv, cm_u], fun _ _ => rfl, fun _ _ => rfl, fun b hb => cm_u_ne hb, fun _ _ => rfl, fun _ _ => rfl, fun j hj => by simp [cm_u, hj]⟩
      · rcases t2 hk with ⟨n, hn⟩ | ⟨n, hn⟩ <;> rw [hn] <;> cases x <;> rfl
      · rcases t2 hk with ⟨n, hn⟩ | ⟨n, hn⟩ <;> rw [hn] <;> cases x <;> rfl
  obtain ⟨n1, n2, n3, n4, n5, n6, n7, n8, n9⟩ := hnf
  have fin' : ∀ (H' : Heap), H'[g.1 + a]? = some (cell.setSlot f.slot (cm_em g v)) → H'.size = H.size → (∀ q, q ≠ g.1 + a → H'[q]? = H[q]?) → cm_Wd g I' L' R' ds H' ∧ va_S (cm_A g) s.heap H' (locs ++ [⟨g.1 + a, f.slot⟩]) := by
    intro H' e1 e2 e3
    rw [hsl] at e1
    exact ⟨cm_Wd_set w hd ⟨_, h1, t_OB.to (V := updV (vp_V (cm_fs g I L R a ci)) k (cm_em g v)) ⟨_, e1, q2, q3, t_set q4 hap h5 (cm_em g v)⟩ (fun j _ => cm_fs_upd h6 n3 n7 n8 n9 j)⟩ e2 e3 n4 n5 n6, hS.put e2 e3 (Nat.le_add_right _ _)⟩
  have hslot : f.slot < cell.slots.size := by rw [hsl]; exact k2_hasslot (q4 k h5)
  by_cases hfin : fin = true
  · subst hfin
    rw [if_pos h9] at hlay
    have hcf : m.cls = cf := by
      obtain ⟨_, _, c', _, _, _, -, -, hf', -, -, -, hown2, -⟩ := Cond.laysFinal_spec hlay
      have e1 : c' = cf := by have := hi'.symm.trans hf'; simp at this; exact this.1.symm
      rw [h10 rfl] at hown2
      rw [← e1]; exact Option.some.inj (C.2.2.2.2.1.symm.trans hown2)
    have h6' := u_fits hfc hkC hkind (Or.inr hlay) hi' (h3 k h5) n1 n2
    have hlk : Cond.fieldLink y.1.cls idx (T k).1 (T k).2.1 (T k).2.2.1 ∈ cm_W0 := by
      rcases h8 with h8 | ⟨h8, -⟩
      · exact h8
      · cases h8
    have hnm : meth.name = "<init>" := by
      rw [C.2.2.2.2.2.2.1]
      rcases hi with h | h
      · cases h
      · exact h
    refine W.putFinK C.1 C.2.1 C.2.2.2.2.1 (hts _ (List.mem_cons_of_mem _ hlk)) hi' hst hcf hnm (by rw [q2]; exact h6') q1 q3 hslot rfl rfl hdg fun H' e1 e2 e3 => ?_
    obtain ⟨f1, f2⟩ := fin' H' e1 e2 e3
    exact kk p e Rm s m args below meth c H' _ cells slots kc ks als C f1 f2 hl hr
  · have hfin : fin = false := by cases fin <;> simp_all
    subst hfin
    rw [if_neg (by rw [h9]; decide)] at hlay
    have h6' := u_store hfc hkC hkind hlay hi' (h3 k h5) n1 n2
    rcases h8 with h8 | ⟨-, host, h8⟩
    · refine W.putK C.1 C.2.1 (f := f) ⟨C.2.2.2.2.1, hts _ (List.mem_cons_of_mem _ h8), ⟨_, _, _, hi'⟩, hst⟩ (by rw [q2]; exact h6') q1 q3 hslot rfl rfl hdg fun H' e1 e2 e3 => ?_
      obtain ⟨f1, f2⟩ := fin' H' e1 e2 e3
      exact kk p e Rm s m args below meth c H' _ cells slots kc ks als C f1 f2 hl hr
    · refine va_WputK C.1 C.2.1 (f := f) C.2.2.2.2.1 (va_Nw.use rfl (C.2.2.2.2.2.2.2.2.1.1.1 _ h8)) hi' hst (by rw [q2]; exact h6') q1 q3 hslot rfl rfl hdg fun H' e1 e2 e3 => ?_
      obtain ⟨f1, f2⟩ := fin' H' e1 e2 e3
      exact kk p e Rm s m args below meth c H' _ cells slots kc ks als C f1 f2 hl hr
theorem x_putI {idx : Nat} (hq : cm_N y pc (.putfield idx) 3 pc') {ci k a : Nat} {fin : Bool} {x : Int32} (hf : cm_fl y.1.cls idx ci k 0 fin) (hi : fin = false ∨ y.1.name = "<init>") (hd : ds[a]? = some (.inr ci)) (kk : cm_Ex l g d mc ms y pc' ls st (cm_u I a k x) L R ds Q) : cm_Ex l g d mc ms y pc ls (.int x :: .ref a :: st) I L R ds Q :=
  x_putf hq hf hi hd (Or.inl ⟨rfl, x, rfl, rfl, rfl, rfl⟩) kk
theorem x_putZ {idx : Nat} (hq : cm_N y pc (.putfield idx) 3 pc') {ci k a : Nat} {fin : Bool} {x : Int32} (hf : cm_fl y.1.cls idx ci k 3 fin) (hi : fin = false ∨ y.1.name = "<init>") (hd : ds[a]? = some (.inr ci)) (hx : x = 0 ∨ x = 1) (kk : cm_Ex l g d mc ms y pc' ls st (cm_u I a k x) L R ds Q) : cm_Ex l g d mc ms y pc ls (.int x :: .ref a :: st) I L R ds Q :=
  x_putf hq hf hi hd (Or.inr (Or.inl ⟨rfl, x, rfl, hx, rfl, rfl, rfl⟩)) kk
theorem x_putL {idx : Nat} (hq : cm_N y pc (.putfield idx) 3 pc') {ci k a : Nat} {fin : Bool} {x : Int64} (hf : cm_fl y.1.cls idx ci k 1 fin) (hi : fin = false ∨ y.1.name = "<init>") (hd : ds[a]? = some (.inr ci)) (kk : cm_Ex l g d mc ms y pc' ls st I (cm_u L a k x) R ds Q) : cm_Ex l g d mc ms y pc ls (.long x :: .ref a :: st) I L R ds Q :=
  x_putf hq hf hi hd (Or.inr (Or.inr (Or.inl ⟨rfl, x, rfl, rfl, rfl, rfl⟩))) kk
theorem x_putR {idx : Nat} (hq : cm_N y pc (.putfield idx) 3 pc') {ci k a : Nat} {fin : Bool} {x : Option Nat} {v : Value} (hf : cm_fl y.1.cls idx ci k 2 fin) (hi : fin = false ∨ y.1.name = "<init>") (hd : ds[a]? = some (.inr ci)) (hv : v = cm_rv x) (kk : cm_Ex l g d mc ms y pc' ls st I L (cm_u R a k x) ds Q) : cm_Ex l g d mc ms y pc ls (v :: .ref a :: st) I L R ds Q :=
  x_putf hq hf hi hd (Or.inr (Or.inr (Or.inr ⟨rfl, x, hv, rfl, rfl, rfl⟩))) kk
theorem x_getI {idx : Nat} (hq : cm_N y pc (.getfield idx) 3 pc') {ci k a : Nat} {fin : Bool} (hf : cm_fl y.1.cls idx ci k 0 fin) (hd : ds[a]? = some (.inr ci)) (kk : cm_Ex l g d mc ms y pc' ls (.int (I a k) :: st) I L R ds Q) : cm_Ex l g d mc ms y pc ls (.ref a :: st) I L R ds Q := x_getf hq hf hd kk
theorem x_getZ {idx : Nat} (hq : cm_N y pc (.getfield idx) 3 pc') {ci k a : Nat} {fin : Bool} (hf : cm_fl y.1.cls idx ci k 3 fin) (hd : ds[a]? = some (.inr ci)) (kk : cm_Ex l g d mc ms y pc' ls (.int (I a k) :: st) I L R ds Q) : cm_Ex l g d mc ms y pc ls (.ref a :: st) I L R ds Q := x_getf hq hf hd kk
theorem x_getL {idx : Nat} (hq : cm_N y pc (.getfield idx) 3 pc') {ci k a : Nat} {fin : Bool} (hf : cm_fl y.1.cls idx ci k 1 fin) (hd : ds[a]? = some (.inr ci)) (kk : cm_Ex l g d mc ms y pc' ls (.long (L a k) :: st) I L R ds Q) : cm_Ex l g d mc ms y pc ls (.ref a :: st) I L R ds Q := x_getf hq hf hd kk
theorem x_getR {idx : Nat} (hq : cm_N y pc (.getfield idx) 3 pc') {ci k a : Nat} {fin : Bool} (hf : cm_fl y.1.cls idx ci k 2 fin) (hd : ds[a]? = some (.inr ci)) {o : Option Nat} (ho : R a k = o) (kk : cm_Ex l g d mc ms y pc' ls (cm_rv o :: st) I L R ds Q) : cm_Ex l g d mc ms y pc ls (.ref a :: st) I L R ds Q := by subst ho; exact x_getf hq hf hd kk
end CM
end
section
/-! cells that are made; returns; calls -/
def cm_z {α : Type} (f : Nat → Nat → α) (n : Nat) (v : α) : Nat → Nat → α := fun b j => if b = n then v else f b j
theorem cm_z_ne {α : Type} {f : Nat → Nat → α} {n : Nat} {v : α} {b : Nat} (h : b ≠ n) : cm_z f n v b = f b := by funext j; simp [cm_z, h]
theorem cm_z_eq {α : Type} {f : Nat → Nat → α} {n : Nat} {v : α} : cm_z f n v n = fun _ => v := by funext j; simp [cm_z]
theorem cm_Wd_push {g : cm_G} {I I' : cm_I} {L L' : cm_L} {R R' : cm_R} {ds : cm_Ds} {H H1 : Heap} (w : cm_Wd g I L R ds H) {d : cm_E} (he : va_at g.2.2.1 cm_cl (g.1 + ds.length, cm_ent g I' L' R' ds.length d) H1) (z : H1.size = H.size + 1) (oq : ∀ q : Nat, q < H.size → H1[q]? = H[q]?) (hI : ∀ b, b ≠ ds.length → I' b = I b) (hL : ∀ b, b ≠ ds.length → L' b = L b) (hR : ∀ b, b ≠ ds.length → R' b = R b) : cm_Wd g I' L' R' (ds ++ [d]) H1 := by
  refine ⟨?_, by rw [z, w.2, List.length_append]; rfl⟩
  rw [← cm_cells_push (d := d) rfl (fun b hb => hI b (by omega)) (fun b hb => hL b (by omega)) (fun b hb => hR b (by omega))]
  refine va_P.app (w.1.kept fun k q hk => oq q.1 (w.1 k q hk).lt) (fun k q hk => ?_)
  have hz : k < 1 := (List.getElem?_eq_some_iff.mp hk).1
  rw [show k = 0 by omega] at hk
  cases hk
  exact he
theorem cm_S_push {g : cm_G} {H0 H H1 : Heap} {locs : List Loc} (hS : va_S (cm_A g) H0 H locs) (z : H1.size = H.size + 1) (oq : ∀ q : Nat, q < H.size → H1[q]? = H[q]?) : va_S (cm_A g) H0 H1 locs :=
  ⟨Nat.le_trans hS.1 (by omega), fun x h1 h2 => (oq x (Nat.lt_of_lt_of_le h1 hS.1)).trans (hS.2.1 x h1 h2), hS.2.2⟩
def cm_nw (own : String) (idx ci N : Nat) : Prop := ∃ (C : String) (T : u_T) (ty : Nat → FieldType), cm_cl[ci]? = some (C, T, N) ∧ (∀ w ∈ u_ws C T N, w ∈ cm_W0) ∧ (∀ k, k < N → parseFieldDescriptor (T k).2.2.1 = some (ty k)) ∧ Cond.classLink own idx C ∈ cm_W0 ∧ Cond.instantiable C N ∈ cm_W0 ∧ Cond.initialized C ∈ cm_W0 ∧
  (∀ k, k < N → ∃ kd, (cm_ks ci)[k]? = some kd ∧ defaultValue (ty k) = if kd = 2 then .null else if kd = 1 then .long 0 else .int 0)
section CM
variable {l : Launch} {g : cm_G} {d mc ms : Nat} {y : cm_M} {pc pc' : Nat} {ls st : List Value} {I : cm_I} {L : cm_L} {R : cm_R} {ds : cm_Ds} {Q : cm_Post}
theorem x_new {idx ci N n : Nat} (hq : cm_N y pc (.new idx) 3 pc') (hf : cm_nw y.1.cls idx ci N) (hn : ds.length = n) (kk : cm_Ex l g d mc ms y pc' ls (.ref n :: st) (cm_z I n 0) (cm_z L n 0) (cm_z R n none) (ds ++ [.inr ci]) Q) : cm_Ex l g d (mc + 1) (ms + N) y pc ls st I L R ds Q := by
  obtain ⟨hdg, rfl⟩ := hq
  obtain ⟨Cn, T, ty, h1, h2, h3, h4, h5, h6, h7⟩ := hf
  subst hn
  intro p e Rm s m args below meth c H locs cells slots kc ks als C w hS hl hr
  have hts : ∀ w ∈ cm_ws y, w.before args s = true := C.2.2.2.2.2.1
  have hin : ∀ w ∈ u_ws Cn T N, w ∈ cm_ws y := fun w hw => List.mem_cons_of_mem _ (h2 w hw)
  have hK := C.2.2.2.2.2.2.2.2.2.1
  have hKn := hK.1 ci _ h1
  obtain ⟨r1, r2, r3, r4, r5, r6⟩ := hr
  refine W.newcK C.1 C.2.1 C.2.2.2.2.1 (hts _ (List.mem_cons_of_mem _ h4)) (hts _ (List.mem_cons_of_mem _ h5)) (hts _ (List.mem_cons_of_mem _ h6)) rfl hdg (by omega) (by omega) hKn.2.1 w.2 fun H1 kC hkC e1 z1 o1 => ?_
  have z1' : H1.size = H.size + 1 := by rw [z1, w.2]
  have o1' : ∀ q : Nat, q < H.size → H1[q]? = H[q]? := fun q hq => o1 q (by rw [← w.2]; exact hq)
  refine kk p e Rm s m args below meth c H1 locs _ _ kc ks als C (cm_Wd_push w ⟨_, h1, (u_born ty hts hin hKn hkC e1 h3).to fun k hk => ?_⟩ z1' o1' (fun b hb => cm_z_ne hb) (fun b hb => cm_z_ne hb) (fun b hb => cm_z_ne hb)) (cm_S_push hS z1' o1') hl ⟨r1, r2, by omega, by omega, r5, r6⟩
  obtain ⟨kd, q1, q2⟩ := h7 k hk
  simp only [vp_V, List.getD_eq_getElem?_getD, cm_ksv q1, Option.getD_some, q2, cm_sv, cm_z_eq]
  split
  · rfl
  · split <;> rfl
theorem x_newa {at0 : ArrayType} {t N n : Nat} {i : Int32} (hq : cm_N y pc (.newarray at0) 2 pc') (ht : newarray.typeOf at0 = cm_aty t) (ht2 : t < 3) (hw : Cond.arrayClass (cm_aty t) ∈ cm_W0) (hi : i = nI N) (hN : N < 1000000) (hn : ds.length = n) (kk : cm_Ex l g d mc ms y pc' ls (.ref n :: st) (cm_z I n 0) (cm_z L n 0) (cm_z R n none) (ds ++ [.inl (t, N)]) Q) : cm_Ex l g d (mc + 1) (ms + N) y pc ls (.int i :: st) I L R ds Q := by
  obtain ⟨hdg, rfl⟩ := hq
  subst hn
  subst hi
  intro p e Rm s m args below meth c H locs cells slots kc ks als C w hS hl hr
  have hts : ∀ w ∈ cm_ws y, w.before args s = true := C.2.2.2.2.2.1
  have hK := C.2.2.2.2.2.2.2.2.2.1
  obtain ⟨r1, r2, r3, r4, r5, r6⟩ := hr
  have hcl : (nI N).toNatClampNeg = N := nI_clamp (by omega)
  have hb : componentBytes (newarray.typeOf at0) ≤ 8 := by cases at0 <;> decide
  refine va_newaK C.1 C.2.1 (by rw [ht]; exact hts _ (List.mem_cons_of_mem _ hw)) rfl hdg rfl (nI_pos (by omega)) hcl (Nat.le_trans (Nat.mul_le_mul_left N hb) (by omega)) (by omega) (by omega) w.2 fun H1 cA e1 z1 o1 hAr hNm => ?_
  have z1' : H1.size = H.size + 1 := by rw [z1, w.2]
  have o1' : ∀ q : Nat, q < H.size → H1[q]? = H[q]? := fun q hq => o1 q (by rw [← w.2]; exact hq)
  have hra := (hK.2 t _ (cm_tys_at g (by omega : t < 6))).2
  have hcA : cA = g.2.2.2.1 t := by
    rw [ht] at hNm
    rcases (by omega : t = 0 ∨ t = 1 ∨ t = 2) with rfl | rfl | rfl <;> exact Option.some.inj (hNm.symm.trans hra)
  subst hcA
  refine kk p e Rm s m args below meth c H1 locs _ _ kc ks als C (cm_Wd_push w ?_ z1' o1' (fun b hb => cm_z_ne hb) (fun b hb => cm_z_ne hb) (fun b hb => cm_z_ne hb)) (cm_S_push hS z1' o1') hl ⟨r1, r2, by omega, by omega, r5, r6⟩
  rw [ht] at e1
  rcases (by omega : t = 0 ∨ t = 1 ∨ t = 2) with rfl | rfl | rfl
  · refine cm_at_i.mpr (e1.trans ?_)
    rw [cm_z_eq]; rfl
  · refine cm_at_l.mpr (e1.trans ?_)
    rw [cm_z_eq]; rfl
  · refine cm_at_z.mpr (e1.trans ?_)
    rw [cm_z_eq]; rfl
theorem x_anew {idx t N n : Nat} {Cn : String} {i : Int32} (hq : cm_N y pc (.anewarray idx) 3 pc') (ht : cm_aty t = .object Cn) (ht2 : t = 3 ∨ t = 4 ∨ t = 5) (hw : Cond.classLink y.1.cls idx Cn ∈ cm_W0) (hi : i = nI N) (hN : N < 1000000) (hn : ds.length = n) (kk : cm_Ex l g d mc ms y pc' ls (.ref n :: st) (cm_z I n 0) (cm_z L n 0) (cm_z R n none) (ds ++ [.inl (t, N)]) Q) : cm_Ex l g d (mc + 1) (ms + N) y pc ls (.int i :: st) I L R ds Q := by
  obtain ⟨hdg, rfl⟩ := hq
  subst hn
  subst hi
  intro p e Rm s m args below meth c H locs cells slots kc ks als C w hS hl hr
  have hts : ∀ w ∈ cm_ws y, w.before args s = true := C.2.2.2.2.2.1
  have hK := C.2.2.2.2.2.2.2.2.2.1
  obtain ⟨r1, r2, r3, r4, r5, r6⟩ := hr
  have hcl : (nI N).toNatClampNeg = N := nI_clamp (by omega)
  have hover : va_AO Cn s := by
    obtain ⟨⟨-, a1, a2, a3⟩, -⟩ := C.2.2.2.2.2.2.2.2.1
    rcases ht2 with rfl | rfl | rfl <;> cases ht
    · exact a1
    · exact a2
    · exact a3
  refine W.anew C.1 C.2.1 C.2.2.2.2.1 (hts _ (List.mem_cons_of_mem _ hw)) (va_AO.use hover) rfl hdg rfl (nI_pos (by omega)) (by rw [hcl]; omega) (by omega) (by rw [hcl]; omega) fun cA kA comp f1 f2 f3 f4 => ?_
  rw [hcl]
  generalize hH1 : H.push ({ cls := cA, slots := Array.replicate N .null, vm := .none } : Cell) = H1
  have z1' : H1.size = H.size + 1 := by rw [← hH1, Array.size_push]
  have e1 : H1[H.size]? = some (arrV cA N (fun _ => .null)) := by rw [← hH1, Array.getElem?_push_size, ← arrV_new]
  have o1' : ∀ q : Nat, q < H.size → H1[q]? = H[q]? := fun q hq => by rw [← hH1, Array.getElem?_push, if_neg (Nat.ne_of_lt hq)]
  have hra := (hK.2 t _ (cm_tys_at g (by omega : t < 6))).2
  dsimp only at hra
  rw [ht] at hra
  obtain ⟨-, -, -, -, -, hra⟩ := hra
  have hcA : cA = g.2.2.2.1 t := Option.some.inj (f1.symm.trans hra)
  subst hcA
  rw [w.2] at e1 ⊢
  refine kk p e Rm s m args below meth c H1 locs _ _ kc ks als C (cm_Wd_push w ((cm_at_q (by omega)).mpr (e1.trans ?_)) z1' o1' (fun b hb => cm_z_ne hb) (fun b hb => cm_z_ne hb) (fun b hb => cm_z_ne hb)) (cm_S_push hS z1' o1') hl ⟨r1, r2, by omega, by omega, r5, r6⟩
  rw [cm_z_eq]; rfl
/-- Object's own constructor -/
theorem x_objInit {idx a : Nat} (hq : cm_N y pc (.invokespecial idx) 3 pc') (h1 : Cond.methodLink y.1.cls idx Lib.objectInit ∈ cm_W0) (h2 : Cond.instanceMethod Lib.objectInit ∈ cm_W0) (h3 : Cond.code Lib.objectInit ⟨#[0xb1]⟩ 1 none ∈ cm_W0) (hs : (st.map fun v => v.category).sum ≤ 8) (hd1 : 1 ≤ d) (kk : cm_Ex l g d mc ms y pc' ls st I L R ds Q) : cm_Ex l g d mc ms y pc ls (.ref a :: st) I L R ds Q := by
  obtain ⟨hdg, rfl⟩ := hq
  intro p e Rm s m args below meth c H locs cells slots kc ks als C w hS hl hr
  have hts : ∀ w ∈ cm_ws y, w.before args s = true := C.2.2.2.2.2.1
  have hcs : ((st.map (cm_em g)).map fun v => v.category).sum ≤ 8 := by
    rw [List.map_map]
    exact (show st.map ((fun v : Value => v.category) ∘ cm_em g) = st.map fun v => v.category from List.map_congr_left fun v _ => cm_cat C.2.2.2.2.2.2.2.2.1.2.1 v) ▸ hs
  refine W.objInit C.1 C.2.1 C.2.2.2.2.1 (hts _ (List.mem_cons_of_mem _ h1)) (hts _ (List.mem_cons_of_mem _ h2)) (hts _ (List.mem_cons_of_mem _ h3)) rfl (by rw [C.2.2.1]; exact hl.1) rfl hdg (Nat.le_trans hd1 hr.1) ?_ ?_
  · have := hr.2.1
    show 2 * 0 + _ + 12 ≤ _
    omega
  · exact kk p e Rm s m args below meth c H locs cells slots kc ks als C w hS hl hr
/-! returns -/
theorem cm_fin {g : cm_G} {p : Program} {s : State} {m : MethodId} {args : Array Value} {meth : Method} {c : Code} {H : Heap} {locs : List Loc} {y : cm_M} {Q : cm_Post} {r : Option Value} (C : cm_Cx g y p s m args meth c) (w : cm_Wd g I L R ds H) (hS : va_S (cm_A g) s.heap H locs) (hQ : Q r I L R ds) : ∀ t : State, t.heap = H → s.WarmedH t.vm → cm_Qc g Q args s (.returned (r.map (cm_em g))) t :=
  fun t ht _ => ⟨⟨r, I, L, R, ds, rfl, hQ, by rw [ht]; exact w⟩, hS.F ht⟩
theorem x_iret {v : Int32} {ty : FieldType} (hq : cm_N y pc .ireturn 1 pc') (hr0 : y.2.2.2 = some ty) (hn : narrow ty (.int v) = .int v) (hQ : Q (some (.int v)) I L R ds) : cm_Ex l g d mc ms y pc ls [.int v] I L R ds Q := by
  intro p e Rm s m args below meth c H locs cells slots kc ks als C w hS hl hr
  obtain ⟨r1, r2, r3, r4, r5, r6⟩ := hr
  exact W.widen (k := kc) (n := ks) (by omega) (by omega) (W.zret C.1 C.2.1 (C.2.2.2.1.trans hr0) hn (cm_fin C w hS hQ) hS.2.2 hq.1 C.2.2.2.2.2.2.2.1)
theorem x_lret {v : Int64} (hq : cm_N y pc .lreturn 1 pc') (hr0 : y.2.2.2 = some .long) (hQ : Q (some (.long v)) I L R ds) : cm_Ex l g d mc ms y pc ls [.long v] I L R ds Q := by
  intro p e Rm s m args below meth c H locs cells slots kc ks als C w hS hl hr
  obtain ⟨r1, r2, r3, r4, r5, r6⟩ := hr
  exact W.widen (k := kc) (n := ks) (by omega) (by omega) (W.lret C.1 C.2.1 (C.2.2.2.1.trans hr0) (cm_fin C w hS hQ) hS.2.2 hq.1 C.2.2.2.2.2.2.2.1)
theorem x_vret (hq : cm_N y pc .return_ 1 pc') (hr0 : y.2.2.2 = none) (hQ : Q none I L R ds) : cm_Ex l g d mc ms y pc ls [] I L R ds Q := by
  intro p e Rm s m args below meth c H locs cells slots kc ks als C w hS hl hr
  obtain ⟨r1, r2, r3, r4, r5, r6⟩ := hr
  exact W.widen (k := kc) (n := ks) (by omega) (by omega) (W.vret C.1 C.2.1 (C.2.2.2.1.trans hr0) (cm_fin C w hS hQ) hS.2.2 hq.1 C.2.2.2.2.2.2.2.1)
theorem x_aret {v : Value} {cn : String} (hq : cm_N y pc .areturn 1 pc') (hr0 : y.2.2.2 = some (.object cn)) (hi : cm_isr v) (hQ : Q (some v) I L R ds) : cm_Ex l g d mc ms y pc ls [v] I L R ds Q := by
  intro p e Rm s m args below meth c H locs cells slots kc ks als C w hS hl hr
  obtain ⟨r1, r2, r3, r4, r5, r6⟩ := hr
  have hv : cm_em g v = .null ∨ ∃ a, cm_em g v = .ref a := by
    cases v with
    | ref a => exact Or.inr ⟨_, rfl⟩
    | null => exact Or.inl rfl
    | retAddr j =>
      rcases C.2.2.2.2.2.2.2.2.1.2.1 j with ⟨t, h⟩ | h
      · exact Or.inr ⟨t, h⟩
      · exact Or.inl h
    | _ => exact absurd hi (fun h => h)
  exact W.widen (k := kc) (n := ks) (by omega) (by omega) (W.aret C.1 C.2.1 (C.2.2.2.1.trans hr0) (Or.inl ⟨_, rfl⟩) hv (cm_fin C w hS hQ) hS.2.2 hq.1 C.2.2.2.2.2.2.2.1)
end CM
end
section
/-! calls -/
theorem cm_good {w : Cond} (h : w ∈ cm_W0) : goodWord w = true := (List.mem_filter.mp h).2
theorem cm_St_to {g : cm_G} {s U : State} {H0 H : Heap} (h : cm_St g s H0) (hW : s.WarmedH U.vm) (hq : ∀ a : Nat, a < H0.size → ¬ cm_A g a → H[a]? = H0[a]?) : cm_St g U H := by
  have hvm := hW.alike
  obtain ⟨⟨h1, a1, a2, a3⟩, h2, ⟨t0, h30, h31, h32⟩, ⟨t1, h40, h41, h42⟩, h5, h6, ⟨t2, h90, h91, h92⟩, adK, adV, h7, h8⟩ := h
  refine ⟨⟨fun w hw => ?_, a1.moved hvm, a2.moved hvm, a3.moved hvm⟩, h2, ⟨t0, h30, (va_Z.moved hvm h31).kept hq, (va_T.moved hvm h32).kept hq⟩, ⟨t1, h40, (va_Z.moved hvm h41).kept hq, (va_T.moved hvm h42).kept hq⟩, (va_Z.moved hvm h5).kept hq, (va_Z.moved hvm h6).kept hq, ⟨t2, h90, (va_T.moved hvm h91).kept hq, h92⟩, adK, adV, (vk_S.moved hvm h7).kept hq, fun i q hi => ?_⟩
  · have hn : cm_isN w = true := (List.mem_filter.mp hw).2
    have h0 := h1 w hw
    cases w <;> first | exact va_Nw.warmF hW h0 | exact va_Nw.warmM hW h0 | exact absurd hn (by simp [cm_isN])
  · obtain ⟨q1, q2, q3⟩ := h8 i q hi
    exact ⟨q1, q2, vk_R.warm hW q3⟩
def cm_xp : List Value → List Value
  | [] => []
  | v :: r => match v with
    | .long x => .long x :: .float 0 :: cm_xp r
    | w => w :: cm_xp r
def cm_loc (as : List Value) (n : Nat) : List Value := cm_xp as ++ List.replicate (n - (cm_xp as).length) (.float 0)
def cm_nd : List Value → Bool
  | [] => true
  | v :: r => match v with
    | .double _ => false
    | .float _ => false
    | _ => cm_nd r
theorem cm_xp_in {g : cm_G} (hz : ∀ j, (∃ t, g.2.1 j = .ref t) ∨ g.2.1 j = .null) : ∀ {as : List Value} {i j : Nat} {v : Value}, cm_nd as = true → (cm_xp as)[j]? = some v → (∀ b, v ≠ .float b) → (i + j, cm_em g v) ∈ lv_args i (as.map (cm_em g)) := by
  intro as
  induction as with
  | nil => intro i j v _ h; simp [cm_xp] at h
  | cons a r ih =>
    intro i j v hnd h hb
    have one : ∀ (hc : (cm_em g a).category = 1) (hnd' : cm_nd r = true) (h' : (a :: cm_xp r)[j]? = some v), (i + j, cm_em g v) ∈ lv_args i ((a :: r).map (cm_em g)) := by
      intro hc hnd' h'
      rw [List.map_cons, lv_args, if_neg (by rw [hc]; decide)]
      cases j with
      | zero =>
        have : a = v := by simpa using h'
        subst this
        exact List.mem_cons_self
      | succ j =>
        refine List.mem_cons_of_mem _ ?_
        have := ih (i := i + 1) hnd' (by simpa using h') hb
        rwa [show i + 1 + j = i + (j + 1) by omega] at this
    cases a with
    | float b => exact absurd hnd (by simp [cm_nd])
    | double b => exact absurd hnd (by simp [cm_nd])
    | long x =>
      rw [List.map_cons, lv_args, if_pos (show (cm_em g (.long x)).category = 2 from rfl)]
      have h' : (Value.long x :: Value.float 0 :: cm_xp r)[j]? = some v := h
      cases j with
      | zero =>
        have : Value.long x = v := by simpa using h'
        subst this
        exact List.mem_cons_self
      | succ j =>
        cases j with
        | zero =>
          have : Value.float 0 = v := by simpa using h'
          exact absurd this.symm (hb 0)
        | succ j =>
          refine List.mem_cons_of_mem _ ?_
          have := ih (i := i + 2) hnd (by simpa using h') hb
          rwa [show i + 2 + j = i + (j + 1 + 1) by omega] at this
    | int x => exact one rfl hnd h
    | null => exact one rfl hnd h
    | ref x => exact one rfl hnd h
    | retAddr x => exact one (cm_cat hz _) hnd h
theorem cm_xp_len {g : cm_G} (hz : ∀ j, (∃ t, g.2.1 j = .ref t) ∨ g.2.1 j = .null) : ∀ {as : List Value}, cm_nd as = true → (lg_sl (as.map (cm_em g))).length = (cm_xp as).length := by
  intro as
  induction as with
  | nil => intro _; rfl
  | cons a r ih =>
    intro hnd
    have e : lg_sl ((a :: r).map (cm_em g)) = (if (cm_em g a).category = 2 then [Slot.val (cm_em g a), .second] else [Slot.val (cm_em g a)]) ++ lg_sl (r.map (cm_em g)) := rfl
    rw [e, List.length_append, cm_cat hz]
    cases a with
    | float b => exact absurd hnd (by simp [cm_nd])
    | double b => exact absurd hnd (by simp [cm_nd])
    | long x => rw [if_pos (show (Value.long x).category = 2 from rfl), ih hnd]; simp [cm_xp]; omega
    | int x => rw [if_neg (show ¬ (Value.int x).category = 2 by simp [Value.category]), ih hnd]; simp [cm_xp]; omega
    | null => rw [if_neg (by decide), ih hnd]; simp [cm_xp]; omega
    | ref x => rw [if_neg (show ¬ (Value.ref x).category = 2 by simp [Value.category]), ih hnd]; simp [cm_xp]; omega
    | retAddr x => rw [if_neg (show ¬ (Value.retAddr x).category = 2 by simp [Value.category]), ih hnd]; simp [cm_xp]; omega
def cm_mk (z : cm_M) (n : Nat) : Prop := Cond.code z.1 z.2.1 z.2.2.1 z.2.2.2 ∈ cm_W0 ∧ Cond.initialized z.1.cls ∈ cm_W0 ∧ plainName z.1.cls = true ∧ (z.1.cls ≠ "java/lang/invoke/MethodHandle" ∧ z.1.cls ≠ "java/lang/invoke/VarHandle" ∧ (parseMethodDescriptor z.1.desc).map (fun d => d.parameters.length) = some n) ∧ z.2.2.1 ≤ 40
def cm_ln (own : String) (idx : Nat) (z : cm_M) : Prop := Cond.methodLink own idx z.1 ∈ cm_W0 ∨ ∃ host, Cond.methodLinkNest own idx z.1 host ∈ cm_nest
def cm_cv (own : String) (idx : Nat) (z : cm_M) (n : Nat) : Prop := cm_ln own idx z ∧ cm_mk z n ∧ Cond.instanceMethod z.1 ∈ cm_W0 ∧ Cond.selects z.1.cls z.1 z.1 ∈ cm_W0
def cm_cs (own : String) (idx : Nat) (z : cm_M) (n : Nat) : Prop := cm_ln own idx z ∧ cm_mk z n ∧ Cond.static z.1 ∈ cm_W0
def cm_ci (own : String) (idx : Nat) (z : cm_M) (n : Nat) : Prop := cm_ln own idx z ∧ cm_mk z n ∧ Cond.instanceMethod z.1 ∈ cm_W0 ∧ z.1.name = "<init>" ∧ z.2.2.2 = none
def cm_psh : Option Value → List Value → List Value
  | none, r => r
  | some v, r => v :: r
def cm_pre (g : cm_G) (I : cm_I) (L : cm_L) (R : cm_R) (ds : cm_Ds) (U : State) : Prop := cm_Wd g I L R ds U.heap ∧ va_K g.2.2.1 cm_cl (cm_tys g) U ∧ cm_St g U U.heap
theorem cm_wsIn {y z : cm_M} {n : Nat} (h : cm_mk z n) : GoodIn (cm_ws y) (cm_ws z) := by
  intro w hw
  rcases List.mem_cons.mp hw with rfl | hw
  · exact ⟨List.mem_cons_of_mem _ h.1, good_of_word (cm_good h.1)⟩
  · exact ⟨List.mem_cons_of_mem _ hw, good_of_word (cm_good hw)⟩
section CM
variable {l : Launch} {g : cm_G} {d mc ms : Nat} {y : cm_M} {pc pc' : Nat} {ls st : List Value} {I : cm_I} {L : cm_L} {R : cm_R} {ds : cm_Ds} {Q : cm_Post}
theorem cm_met {z : cm_M} {n : Nat} {as : List Value} (hz : cm_mk z n) (hnd : cm_nd as = true) (hlen : (cm_xp as).length ≤ z.2.2.1) (h : cm_Ex l g d mc ms z 0 (cm_loc as z.2.2.1) [] I L R ds Q) :
    Met l z.1 (cm_ws z) { frames := d, cells := mc, slots := ms, locals := 64 * d } (va_Pc (as.map (cm_em g)) (cm_pre g I L R ds)) (cm_Qc g Q) mc ms (cm_A g) := by
  refine Met.ofW (cc := z.2.1) (maxL := z.2.2.1) (ret := z.2.2.2) hz.2.2.1 rfl ?_
  intro p e s m args below meth c s₁ B hml hv
  obtain ⟨rfl, hwd, hK, hSt⟩ := hv
  have hl := lv_entry (as.map (cm_em g)) (n := z.2.2.1) (by rw [cm_xp_len hSt.2.1 hnd]; exact hlen)
  rw [lg_entry_eq]
  refine h p e _ s m _ below meth c s.heap [] 0 0 mc ms _ ⟨B.exec, B.bytes, hml, B.returns, findClass_of_methodNamed B.named, atoms_spec (ws := cm_ws z) B.pre, (name_of_methodNamed B.named B.method).1, B.notSynchronized, hSt, hK, by rw [hwd.2]; omega⟩ hwd va_S.rf (cm_lv_has hl fun j v hj hb => ?_) ⟨Nat.le_refl _, Nat.le_refl _, by omega, by omega, Nat.le_refl _, Nat.le_refl _⟩
  have hj' : (cm_xp as)[j]? = some v := by
    unfold cm_loc at hj
    by_cases hlt : j < (cm_xp as).length
    · rwa [List.getElem?_append_left hlt] at hj
    · rw [List.getElem?_append_right (by omega), List.getElem?_replicate] at hj
      split at hj
      · cases hj; exact absurd rfl (hb 0)
      · cases hj
  have := cm_xp_in hSt.2.1 (i := 0) hnd hj' hb
  rwa [Nat.zero_add] at this
theorem cm_blind {as : List Value} : FrameBlind (va_Pc (as.map (cm_em g)) (cm_pre g I L R ds)) := by
  intro a U f mk q
  obtain ⟨h1, h2, h3, h4⟩ := q
  exact ⟨h1, h2, va_K.moved (u := U) (U := U.calling f mk a) (Vm.Alike.refl U.vm) h3, cm_St_to (U := U.calling f mk a) h4 (State.WarmedH.refl U) fun _ _ _ => rfl⟩
theorem cm_preU {as : List Value} {s : State} {H : Heap} {locs : List Loc} (hSt : cm_St g s s.heap) (hK : va_K g.2.2.1 cm_cl (cm_tys g) s) (w : cm_Wd g I L R ds H) (hS : va_S (cm_A g) s.heap H locs) {av : List Value} (hav : av = as.map (cm_em g)) : ∀ U : State, U.heap = H → s.WarmedH U.vm → va_Pc (as.map (cm_em g)) (cm_pre g I L R ds) av.toArray U := by
  intro U hU hW
  subst hav
  exact ⟨rfl, by rw [hU]; exact w, va_K.moved hW.alike hK, by rw [hU]; exact cm_St_to hSt hW hS.2.1⟩
theorem cm_go {p : Program} {e : Env} {Rm : Room} {s : State} {m : MethodId} {args : Array Value} {below : List Frame} {meth : Method} {c : Code} {H : Heap} {locs : List Loc} {cells slots kc ks mc' ms' : Nat} {als : Array Slot} {rest : List Value} {st0 : List Value} {a : Array Value} {Qz : cm_Post}
    (C : cm_Cx g y p s m args meth c) (hS : va_S (cm_A g) s.heap H locs) (hl : lv_has als y.2.2.1 (cm_lv g 0 ls)) (hr : cm_Rm d mc ms (cells + mc') (slots + ms') kc ks Rm)
    (hrun : va_Run p l e Rm s m args below meth c H locs cells slots mc' ms' (F0 m pc als st0) (rest.map (cm_em g)) (cm_Qc g Qz a) (cm_A g))
    (kk : ∀ r I' L' R' ds', Qz r I' L' R' ds' → cm_Ex l g d mc ms y (pc + 3) ls (cm_psh r rest) I' L' R' ds' Q) :
    W p l e Rm s m args below meth c H locs cells slots (MQ below (cm_Qc g Q) args s kc ks (cm_A g)) (F0 m pc als st0) := by
  intro T hT X
  obtain ⟨v, st₀, t, T', Lc, h0, X', hL, e1, e2, ⟨⟨r, I', L', R', ds', hv, hq, hw⟩, hz, hk⟩, stp⟩ := hrun T hT X
  cases hv
  rw [h0] at hz hk
  have hS1 : va_S (cm_A g) s.heap T'.heap (locs ++ Lc) := ⟨Nat.le_trans hS.1 (by rw [e1]; exact hz), fun q h1 h2 => by rw [e1, hk q (Nat.lt_of_lt_of_le h1 hS.1) h2]; exact hS.2.1 q h1 h2, fun q hq => by
    rcases List.mem_append.mp hq with h | h
    · exact hS.2.2 q h
    · exact hL q h⟩
  have k1 := kk r I' L' R' ds' hq p e Rm s m args below meth c T'.heap (locs ++ Lc) (cells + mc') (slots + ms') kc ks als C (by rw [e1]; exact hw) hS1 hl hr
  have hst : (r.map (cm_em g)).toList ++ rest.map (cm_em g) = (cm_psh r rest).map (cm_em g) := by cases r <;> rfl
  rw [← hst] at k1
  obtain ⟨t2, a1, b1⟩ := k1 T' rfl X'
  exact ⟨t2, stp t2 a1, b1⟩
theorem cm_sum {st : List Value} (hz : ∀ j, (∃ t, g.2.1 j = .ref t) ∨ g.2.1 j = .null) : ((st.map (cm_em g)).map fun v => v.category).sum = (st.map fun v => v.category).sum := by
  rw [List.map_map]
  congr 1
  exact List.map_congr_left fun v _ => cm_cat hz v
theorem x_callV {idx n k ci d' mc' ms' mc2 ms2 : Nat} {z : cm_M} {as rest lz : List Value} (hq : cm_N y pc (.invokevirtual idx) 3 pc') (hf : cm_cv y.1.cls idx z n) (hd : ds[k]? = some (.inr ci)) (hc : ∃ r : vw_C, cm_cl[ci]? = some r ∧ r.1 = z.1.cls) (hst : st = as.reverse ++ .ref k :: rest) (hn : as.length = n) (hnd : cm_nd as = true) (hlz : cm_loc (.ref k :: as) z.2.2.1 = lz) (hlen : (cm_xp (.ref k :: as)).length ≤ z.2.2.1) (hsm : (rest.map fun v => v.category).sum ≤ 8) (hdd : d' + 1 ≤ d) (hm : mc' + mc2 = mc) (hm2 : ms' + ms2 = ms)
    (hcal : cm_Ex l g d' mc' ms' z 0 lz [] I L R ds (fun r I' L' R' ds' => cm_Ex l g d mc2 ms2 y pc' ls (cm_psh r rest) I' L' R' ds' Q)) : cm_Ex l g d mc ms y pc ls st I L R ds Q := by
  obtain ⟨hdg, rfl⟩ := hq
  subst hst; subst hm; subst hm2; subst hlz
  obtain ⟨hln, hz, hi, hse⟩ := hf
  intro p e Rm s m args below meth c H locs cells slots kc ks als C w hS hl hr
  have hts : ∀ w ∈ cm_ws y, w.before args s = true := C.2.2.2.2.2.1
  have hK := C.2.2.2.2.2.2.2.2.2.1
  have hSt := C.2.2.2.2.2.2.2.2.1
  obtain ⟨r1, r2, r3, r4, r5, r6⟩ := hr
  obtain ⟨rc, hc1, hc2⟩ := hc
  have hrec := va_recv hK w.1 hc1 (cm_cells_at g I L R hd)
  rw [hc2] at hrec
  have hM := cm_met (as := .ref k :: as) hz (show cm_nd (.ref k :: as) = true from hnd) hlen hcal
  have hR : d' + 1 ≤ Rm.frames ∧ 8 + (z.2.2.1 + 11) + 64 * d' ≤ Rm.locals := by
    have := hz.2.2.2.2
    exact ⟨by omega, by omega⟩
  have hstk : ((as.reverse ++ .ref k :: rest).map (cm_em g)) = (as.map (cm_em g)).reverse ++ .ref (g.1 + k) :: rest.map (cm_em g) := by simp [cm_em]
  have hp : PreV s H z.1.cls (g.1 + k) (va_Pc ((Value.ref k :: as).map (cm_em g)) (cm_pre g I L R ds)) (as.map (cm_em g)) := ⟨cm_blind, hrec, cm_preU hSt hK w hS rfl⟩
  have hcat := cm_sum (st := rest) hSt.2.1
  rcases hln with hln | ⟨host, hln⟩
  · exact cm_go (mc := mc2) (ms := ms2) (mc' := mc') (ms' := ms') (rest := rest) C hS hl ⟨r1, r2, by omega, by omega, r5, r6⟩ (va_runV (As := as.map (cm_em g)) ⟨C.1, C.2.1, C.2.2.1, C.2.2.2.2.1, hts⟩ hM ⟨callB_of n hts (cm_wsIn hz) rfl rfl rfl (hts _ (List.mem_cons_of_mem _ hz.2.1)) (hts _ (List.mem_cons_of_mem _ hln)) hz.2.2.2.1 hR, hts _ (List.mem_cons_of_mem _ hi), hts _ (List.mem_cons_of_mem _ hse)⟩ hp rfl (by rw [List.length_map]; exact hn) hl.1 hstk (lv_room (by rw [hcat]; exact hsm)) hdg ⟨by omega, by omega⟩) (fun r I' L' R' ds' h => h)
  · exact cm_go (mc := mc2) (ms := ms2) (mc' := mc') (ms' := ms') (rest := rest) C hS hl ⟨r1, r2, by omega, by omega, r5, r6⟩ (va_runVN (As := as.map (cm_em g)) ⟨C.1, C.2.1, C.2.2.1, C.2.2.2.2.1, hts⟩ hM ⟨va_cnB n hts (cm_wsIn hz) rfl rfl rfl (hSt.1.1 _ hln) (hts _ (List.mem_cons_of_mem _ hz.2.1)) hz.2.2.2.1 hR, hts _ (List.mem_cons_of_mem _ hi), hts _ (List.mem_cons_of_mem _ hse)⟩ hp rfl (by rw [List.length_map]; exact hn) hl.1 hstk (lv_room (by rw [hcat]; exact hsm)) hdg ⟨by omega, by omega⟩) (fun r I' L' R' ds' h => h)
theorem x_callI {idx n k d' mc' ms' mc2 ms2 : Nat} {z : cm_M} {as rest lz : List Value} (hq : cm_N y pc (.invokespecial idx) 3 pc') (hf : cm_ci y.1.cls idx z n) (hst : st = as.reverse ++ .ref k :: rest) (hn : as.length = n) (hnd : cm_nd as = true) (hlz : cm_loc (.ref k :: as) z.2.2.1 = lz) (hlen : (cm_xp (.ref k :: as)).length ≤ z.2.2.1) (hsm : (rest.map fun v => v.category).sum ≤ 8) (hdd : d' + 1 ≤ d) (hm : mc' + mc2 = mc) (hm2 : ms' + ms2 = ms)
    (hcal : cm_Ex l g d' mc' ms' z 0 lz [] I L R ds (fun r I' L' R' ds' => cm_Ex l g d mc2 ms2 y pc' ls (cm_psh r rest) I' L' R' ds' Q)) : cm_Ex l g d mc ms y pc ls st I L R ds Q := by
  obtain ⟨hdg, rfl⟩ := hq
  subst hst; subst hm; subst hm2; subst hlz
  obtain ⟨hln, hz, hi, hnm, hrt⟩ := hf
  intro p e Rm s m args below meth c H locs cells slots kc ks als C w hS hl hr
  have hts : ∀ w ∈ cm_ws y, w.before args s = true := C.2.2.2.2.2.1
  have hK := C.2.2.2.2.2.2.2.2.2.1
  have hSt := C.2.2.2.2.2.2.2.2.1
  obtain ⟨r1, r2, r3, r4, r5, r6⟩ := hr
  have hM := cm_met (as := .ref k :: as) hz (show cm_nd (.ref k :: as) = true from hnd) hlen hcal
  have hR : d' + 1 ≤ Rm.frames ∧ 8 + (z.2.2.1 + 11) + 64 * d' ≤ Rm.locals := by
    have := hz.2.2.2.2
    exact ⟨by omega, by omega⟩
  have hstk : ((as.reverse ++ .ref k :: rest).map (cm_em g)) = (as.map (cm_em g)).reverse ++ .ref (g.1 + k) :: rest.map (cm_em g) := by simp [cm_em]
  have hp : PreS s H (va_Pc ((Value.ref k :: as).map (cm_em g)) (cm_pre g I L R ds)) (.ref (g.1 + k) :: as.map (cm_em g)) := ⟨cm_blind, cm_preU hSt hK w hS rfl⟩
  have hcat := cm_sum (st := rest) hSt.2.1
  have hws : cm_ws z = Cond.code z.1 z.2.1 z.2.2.1 none :: cm_W0 := by unfold cm_ws; rw [hrt]
  rcases hln with hln | ⟨host, hln⟩
  · exact cm_go (mc := mc2) (ms := ms2) (mc' := mc') (ms' := ms') (rest := rest) C hS hl ⟨r1, r2, by omega, by omega, r5, r6⟩ (va_runI (As := as.map (cm_em g)) ⟨C.1, C.2.1, C.2.2.1, C.2.2.2.2.1, hts⟩ hM ⟨callB_of n hts (cm_wsIn hz) hws rfl rfl (hts _ (List.mem_cons_of_mem _ hz.2.1)) (hts _ (List.mem_cons_of_mem _ hln)) hz.2.2.2.1 hR, hnm, hts _ (List.mem_cons_of_mem _ hi)⟩ hp rfl (by rw [List.length_map]; exact hn) hl.1 hstk (lv_room (by rw [hcat]; exact hsm)) hdg ⟨by omega, by omega⟩) (fun r I' L' R' ds' h => h)
  · exact cm_go (mc := mc2) (ms := ms2) (mc' := mc') (ms' := ms') (rest := rest) C hS hl ⟨r1, r2, by omega, by omega, r5, r6⟩ (va_runIN (As := as.map (cm_em g)) ⟨C.1, C.2.1, C.2.2.1, C.2.2.2.2.1, hts⟩ hM ⟨va_cnB n hts (cm_wsIn hz) hws rfl rfl (hSt.1.1 _ hln) (hts _ (List.mem_cons_of_mem _ hz.2.1)) hz.2.2.2.1 hR, hnm, hts _ (List.mem_cons_of_mem _ hi)⟩ hp rfl (by rw [List.length_map]; exact hn) hl.1 hstk (lv_room (by rw [hcat]; exact hsm)) hdg ⟨by omega, by omega⟩) (fun r I' L' R' ds' h => h)
theorem x_callS {idx n d' mc' ms' mc2 ms2 : Nat} {z : cm_M} {as rest lz : List Value} (hq : cm_N y pc (.invokestatic idx) 3 pc') (hf : cm_cs y.1.cls idx z n) (hst : st = as.reverse ++ rest) (hn : as.length = n) (hnd : cm_nd as = true) (hlz : cm_loc as z.2.2.1 = lz) (hlen : (cm_xp as).length ≤ z.2.2.1) (hsm : (rest.map fun v => v.category).sum ≤ 8) (hdd : d' + 1 ≤ d) (hm : mc' + mc2 = mc) (hm2 : ms' + ms2 = ms)
    (hcal : cm_Ex l g d' mc' ms' z 0 lz [] I L R ds (fun r I' L' R' ds' => cm_Ex l g d mc2 ms2 y pc' ls (cm_psh r rest) I' L' R' ds' Q)) : cm_Ex l g d mc ms y pc ls st I L R ds Q := by
  obtain ⟨hdg, rfl⟩ := hq
  subst hst; subst hm; subst hm2; subst hlz
  obtain ⟨hln, hz, hi⟩ := hf
  intro p e Rm s m args below meth c H locs cells slots kc ks als C w hS hl hr
  have hts : ∀ w ∈ cm_ws y, w.before args s = true := C.2.2.2.2.2.1
  have hK := C.2.2.2.2.2.2.2.2.2.1
  have hSt := C.2.2.2.2.2.2.2.2.1
  obtain ⟨r1, r2, r3, r4, r5, r6⟩ := hr
  have hM := cm_met (as := as) hz hnd hlen hcal
  have hR : d' + 1 ≤ Rm.frames ∧ 8 + (z.2.2.1 + 11) + 64 * d' ≤ Rm.locals := by
    have := hz.2.2.2.2
    exact ⟨by omega, by omega⟩
  have hstk : ((as.reverse ++ rest).map (cm_em g)) = (as.map (cm_em g)).reverse ++ rest.map (cm_em g) := by simp
  have hp : PreS s H (va_Pc (as.map (cm_em g)) (cm_pre g I L R ds)) (as.map (cm_em g)) := ⟨cm_blind, cm_preU hSt hK w hS rfl⟩
  have hcat := cm_sum (st := rest) hSt.2.1
  rcases hln with hln | ⟨host, hln⟩
  · exact cm_go (mc := mc2) (ms := ms2) (mc' := mc') (ms' := ms') (rest := rest) C hS hl ⟨r1, r2, by omega, by omega, r5, r6⟩ (va_runS (As := as.map (cm_em g)) ⟨C.1, C.2.1, C.2.2.1, C.2.2.2.2.1, hts⟩ hM ⟨callB_of n hts (cm_wsIn hz) rfl rfl rfl (hts _ (List.mem_cons_of_mem _ hz.2.1)) (hts _ (List.mem_cons_of_mem _ hln)) hz.2.2.2.1 hR, hts _ (List.mem_cons_of_mem _ hi)⟩ hp rfl (by rw [List.length_map]; exact hn) hl.1 hstk (lv_room (by rw [hcat]; exact hsm)) hdg ⟨by omega, by omega⟩) (fun r I' L' R' ds' h => h)
  · exact cm_go (mc := mc2) (ms := ms2) (mc' := mc') (ms' := ms') (rest := rest) C hS hl ⟨r1, r2, by omega, by omega, r5, r6⟩ (va_runSN (As := as.map (cm_em g)) ⟨C.1, C.2.1, C.2.2.1, C.2.2.2.2.1, hts⟩ hM ⟨va_cnB n hts (cm_wsIn hz) rfl rfl rfl (hSt.1.1 _ hln) (hts _ (List.mem_cons_of_mem _ hz.2.1)) hz.2.2.2.1 hR, hts _ (List.mem_cons_of_mem _ hi), trivial⟩ hp rfl (by rw [List.length_map]; exact hn) hl.1 hstk (lv_room (by rw [hcat]; exact hsm)) hdg ⟨by omega, by omega⟩) (fun r I' L' R' ds' h => h)
end CM
end
section
/-! static tables, texts, System.arraycopy; depth and room may grow -/
def cm_tab (j : Nat) : List Int32 := if j = 0 then [-1, 0, 0, 0, 1, 0, 5] else [10, 11, 12, 0, 20, 0, 30, 0, 0, 0, 0, 40, 50, 51, 0, 0, 0, 60, 71, 70, 0]
def cm_tx (i : Nat) : List Int32 := (cm_str.map fun q => q.2.2).getD i []
section CM
variable {l : Launch} {g : cm_G} {d mc ms : Nat} {y : cm_M} {pc pc' : Nat} {ls st : List Value} {I : cm_I} {L : cm_L} {R : cm_R} {ds : cm_Ds} {Q : cm_Post}
theorem cm_up {d' mc' ms' : Nat} (h : cm_Ex l g d mc ms y pc ls st I L R ds Q) (hd : d ≤ d') (hm : mc ≤ mc') (hs : ms ≤ ms') : cm_Ex l g d' mc' ms' y pc ls st I L R ds Q :=
  fun p e Rm s m args below meth c H locs cells slots kc ks als C w hS hl hr => h p e Rm s m args below meth c H locs cells slots kc ks als C w hS hl ⟨by have := hr.1; omega, by have := hr.2.1; omega, by have := hr.2.2.1; omega, by have := hr.2.2.2.1; omega, hr.2.2.2.2⟩
theorem cm_conseq {Q' : cm_Post} (h : cm_Ex l g d mc ms y pc ls st I L R ds Q') (hQ : ∀ r I' L' R' ds', Q' r I' L' R' ds' → Q r I' L' R' ds') : cm_Ex l g d mc ms y pc ls st I L R ds Q := by
  intro p e Rm s m args below meth c H locs cells slots kc ks als C w hS hl hr T hT X
  obtain ⟨t, a, o, b1, b2, ⟨⟨r, I', L', R', ds', c1, c2, c3⟩, c4⟩, b4⟩ := h p e Rm s m args below meth c H locs cells slots kc ks als C w hS hl hr T hT X
  exact ⟨t, a, o, b1, b2, ⟨⟨r, I', L', R', ds', c1, hQ _ _ _ _ _ c2, c3⟩, c4⟩, b4⟩
theorem x_gsA {idx : Nat} (hq : cm_N y pc (.getstatic idx) 3 pc') (hw : Cond.fieldLink y.1.cls idx "CellarMeter$Kinds" "ABOVE" "[I" ∈ cm_W0) (kk : cm_Ex l g d mc ms y pc' ls (.retAddr 0 :: st) I L R ds Q) : cm_Ex l g d mc ms y pc ls st I L R ds Q := by
  obtain ⟨hdg, rfl⟩ := hq
  intro p e Rm s m args below meth c H locs cells slots kc ks als C w hS hl hr
  obtain ⟨t, h1, h2, -⟩ := C.2.2.2.2.2.2.2.2.1.2.2.1
  have k1 := kk p e Rm s m args below meth c H locs cells slots kc ks als C w hS hl hr
  rw [List.map_cons, show cm_em g (.retAddr 0) = .ref t from h1] at k1
  exact va_gets C.1 C.2.1 h2 hS C.2.2.2.2.1 (C.2.2.2.2.2.1 _ (List.mem_cons_of_mem _ hw)) (fun _ h => h) hdg k1
theorem x_gsB {idx : Nat} (hq : cm_N y pc (.getstatic idx) 3 pc') (hw : Cond.fieldLink y.1.cls idx "CellarMeter$Acts" "BODIES" "[I" ∈ cm_W0) (kk : cm_Ex l g d mc ms y pc' ls (.retAddr 1 :: st) I L R ds Q) : cm_Ex l g d mc ms y pc ls st I L R ds Q := by
  obtain ⟨hdg, rfl⟩ := hq
  intro p e Rm s m args below meth c H locs cells slots kc ks als C w hS hl hr
  obtain ⟨t, h1, h2, -⟩ := C.2.2.2.2.2.2.2.2.1.2.2.2.1
  have k1 := kk p e Rm s m args below meth c H locs cells slots kc ks als C w hS hl hr
  rw [List.map_cons, show cm_em g (.retAddr 1) = .ref t from h1] at k1
  exact va_gets C.1 C.2.1 h2 hS C.2.2.2.2.1 (C.2.2.2.2.2.1 _ (List.mem_cons_of_mem _ hw)) (fun _ h => h) hdg k1
theorem x_gsF {idx : Nat} (hq : cm_N y pc (.getstatic idx) 3 pc') (hw : Cond.fieldLink y.1.cls idx "jdk/internal/util/Preconditions" "SIOOBE_FORMATTER" "Ljava/util/function/BiFunction;" ∈ cm_W0) (kk : cm_Ex l g d mc ms y pc' ls (.retAddr 2 :: st) I L R ds Q) : cm_Ex l g d mc ms y pc ls st I L R ds Q := by
  obtain ⟨hdg, rfl⟩ := hq
  intro p e Rm s m args below meth c H locs cells slots kc ks als C w hS hl hr
  exact va_gets C.1 C.2.1 C.2.2.2.2.2.2.2.2.1.2.2.2.2.1 hS C.2.2.2.2.1 (C.2.2.2.2.2.1 _ (List.mem_cons_of_mem _ hw)) (fun _ h => h) hdg (kk p e Rm s m args below meth c H locs cells slots kc ks als C w hS hl hr)
theorem x_gsC {idx : Nat} (hq : cm_N y pc (.getstatic idx) 3 pc') (hw : Cond.fieldLink y.1.cls idx "java/lang/String" "COMPACT_STRINGS" "Z" ∈ cm_W0) (kk : cm_Ex l g d mc ms y pc' ls (.int 1 :: st) I L R ds Q) : cm_Ex l g d mc ms y pc ls st I L R ds Q := by
  obtain ⟨hdg, rfl⟩ := hq
  intro p e Rm s m args below meth c H locs cells slots kc ks als C w hS hl hr
  exact va_gets C.1 C.2.1 C.2.2.2.2.2.2.2.2.1.2.2.2.2.2.1 hS C.2.2.2.2.1 (C.2.2.2.2.2.1 _ (List.mem_cons_of_mem _ hw)) (fun _ h => h) hdg (kk p e Rm s m args below meth c H locs cells slots kc ks als C w hS hl hr)
theorem x_tald {j k : Nat} {i : Int32} (hq : cm_N y pc .iaload 1 pc') (hj : j = 0 ∨ j = 1) (hi : i = nI k) (hk : k < (cm_tab j).length) (kk : cm_Ex l g d mc ms y pc' ls (.int ((cm_tab j).getD k 0) :: st) I L R ds Q) : cm_Ex l g d mc ms y pc ls (.int i :: .retAddr j :: st) I L R ds Q := by
  obtain ⟨hdg, rfl⟩ := hq
  intro p e Rm s m args below meth c H locs cells slots kc ks als C w hS hl hr
  have k1 := kk p e Rm s m args below meth c H locs cells slots kc ks als C w hS hl hr
  rw [List.map_cons, List.map_cons]
  rcases hj with rfl | rfl
  · obtain ⟨t, h1, -, h3⟩ := C.2.2.2.2.2.2.2.2.1.2.2.1
    obtain ⟨e1, e2⟩ := cm_inI (n := 7) hi hk (by decide)
    rw [show cm_em g (.retAddr 0) = .ref t from h1]
    exact va_ti C.1 C.2.1 h3 hS e1 (v := .int ((cm_tab 0).getD k 0)) (by rw [e2]; rfl) hdg k1
  · obtain ⟨t, h1, -, h3⟩ := C.2.2.2.2.2.2.2.2.1.2.2.2.1
    obtain ⟨e1, e2⟩ := cm_inI (n := 21) hi hk (by decide)
    rw [show cm_em g (.retAddr 1) = .ref t from h1]
    exact va_ti C.1 C.2.1 h3 hS e1 (v := .int ((cm_tab 1).getD k 0)) (by rw [e2]; rfl) hdg k1
theorem x_tlen {j : Nat} (hq : cm_N y pc .arraylength 1 pc') (hj : j = 0 ∨ j = 1) (kk : cm_Ex l g d mc ms y pc' ls (.int (nI (cm_tab j).length) :: st) I L R ds Q) : cm_Ex l g d mc ms y pc ls (.retAddr j :: st) I L R ds Q := by
  obtain ⟨hdg, rfl⟩ := hq
  intro p e Rm s m args below meth c H locs cells slots kc ks als C w hS hl hr
  have k1 := kk p e Rm s m args below meth c H locs cells slots kc ks als C w hS hl hr
  rw [List.map_cons]
  rcases hj with rfl | rfl
  · obtain ⟨t, h1, -, h3⟩ := C.2.2.2.2.2.2.2.2.1.2.2.1
    rw [show cm_em g (.retAddr 0) = .ref t from h1]
    exact va_tlen C.1 C.2.1 h3 hS rfl hdg k1
  · obtain ⟨t, h1, -, h3⟩ := C.2.2.2.2.2.2.2.2.1.2.2.2.1
    rw [show cm_em g (.retAddr 1) = .ref t from h1]
    exact va_tlen C.1 C.2.1 h3 hS rfl hdg k1
theorem x_ldcS {idx i : Nat} {tx : String} {bs : List Int32} (hq : cm_N y pc (.ldc idx) 2 pc') (hy : y.1.cls = "CellarMeter$HouseReader") (hs : cm_str[i]? = some (idx, tx, bs)) (kk : cm_Ex l g d mc ms y pc' ls (.retAddr (10 + i) :: st) I L R ds Q) : cm_Ex l g d mc ms y pc ls st I L R ds Q := by
  obtain ⟨hdg, rfl⟩ := hq
  intro p e Rm s m args below meth c H locs cells slots kc ks als C w hS hl hr
  obtain ⟨adK, adV, h7, h8⟩ := C.2.2.2.2.2.2.2.2.1.2.2.2.2.2.2.2
  obtain ⟨q1, q2, q3⟩ := h8 i _ hs
  have k1 := kk p e Rm s m args below meth c H locs cells slots kc ks als C w hS hl hr
  rw [List.map_cons, show cm_em g (.retAddr (10 + i)) = .ref (adK i) from q1] at k1
  exact va_ldcS C.1 C.2.1 (by rw [← hy]; exact C.2.2.2.2.1) q3 hdg k1
theorem x_getV {idx i : Nat} (hq : cm_N y pc (.getfield idx) 3 pc') (hi : i < 8) (hw : Cond.fieldLink y.1.cls idx "java/lang/String" "value" "[B" ∈ cm_W0) (kk : cm_Ex l g d mc ms y pc' ls (.retAddr (30 + i) :: st) I L R ds Q) : cm_Ex l g d mc ms y pc ls (.retAddr (10 + i) :: st) I L R ds Q := by
  obtain ⟨hdg, rfl⟩ := hq
  intro p e Rm s m args below meth c H locs cells slots kc ks als C w hS hl hr
  obtain ⟨adK, adV, h7, h8⟩ := C.2.2.2.2.2.2.2.2.1.2.2.2.2.2.2.2
  obtain ⟨q, hq⟩ : ∃ q, cm_str[i]? = some q := ⟨_, List.getElem?_eq_getElem (by simpa [cm_str] using hi)⟩
  obtain ⟨q1, q2, q3⟩ := h8 i _ hq
  have k1 := kk p e Rm s m args below meth c H locs cells slots kc ks als C w hS hl hr
  rw [List.map_cons, show cm_em g (.retAddr (30 + i)) = .ref (adV i) from q2] at k1
  rw [List.map_cons, show cm_em g (.retAddr (10 + i)) = .ref (adK i) from q1]
  exact vk_getf C.1 C.2.1 (h7.1 i hi).2.2.1 hS C.2.2.2.2.1 (C.2.2.2.2.2.1 _ (List.mem_cons_of_mem _ hw)) (fun _ h => h) hdg k1
theorem x_getC {idx i : Nat} (hq : cm_N y pc (.getfield idx) 3 pc') (hi : i < 8) (hw : Cond.fieldLink y.1.cls idx "java/lang/String" "coder" "B" ∈ cm_W0) (kk : cm_Ex l g d mc ms y pc' ls (.int 0 :: st) I L R ds Q) : cm_Ex l g d mc ms y pc ls (.retAddr (10 + i) :: st) I L R ds Q := by
  obtain ⟨hdg, rfl⟩ := hq
  intro p e Rm s m args below meth c H locs cells slots kc ks als C w hS hl hr
  obtain ⟨adK, adV, h7, h8⟩ := C.2.2.2.2.2.2.2.2.1.2.2.2.2.2.2.2
  obtain ⟨q, hq⟩ : ∃ q, cm_str[i]? = some q := ⟨_, List.getElem?_eq_getElem (by simpa [cm_str] using hi)⟩
  obtain ⟨q1, q2, q3⟩ := h8 i _ hq
  have k1 := kk p e Rm s m args below meth c H locs cells slots kc ks als C w hS hl hr
  rw [List.map_cons, show cm_em g (.retAddr (10 + i)) = .ref (adK i) from q1]
  exact vk_getf C.1 C.2.1 (h7.1 i hi).2.1 hS C.2.2.2.2.1 (C.2.2.2.2.2.1 _ (List.mem_cons_of_mem _ hw)) (fun _ h => h) hdg k1
theorem cm_lenS {i : Nat} (hi : i < 8) : (cm_str.map fun q => q.2.2.length).getD i 0 = (cm_tx i).length := by
  revert hi; revert i; decide
theorem x_slen {i : Nat} (hq : cm_N y pc .arraylength 1 pc') (hi : i < 8) (kk : cm_Ex l g d mc ms y pc' ls (.int (nI (cm_tx i).length) :: st) I L R ds Q) : cm_Ex l g d mc ms y pc ls (.retAddr (30 + i) :: st) I L R ds Q := by
  obtain ⟨hdg, rfl⟩ := hq
  intro p e Rm s m args below meth c H locs cells slots kc ks als C w hS hl hr
  obtain ⟨adK, adV, h7, h8⟩ := C.2.2.2.2.2.2.2.2.1.2.2.2.2.2.2.2
  obtain ⟨q, hq⟩ : ∃ q, cm_str[i]? = some q := ⟨_, List.getElem?_eq_getElem (by simpa [cm_str] using hi)⟩
  obtain ⟨q1, q2, q3⟩ := h8 i _ hq
  have k1 := kk p e Rm s m args below meth c H locs cells slots kc ks als C w hS hl hr
  rw [List.map_cons, show cm_em g (.retAddr (30 + i)) = .ref (adV i) from q2]
  exact va_tlen C.1 C.2.1 (h7.1 i hi).2.2.2 hS (by rw [cm_lenS hi]; rfl) hdg k1
theorem x_sbald {i k : Nat} {x : Int32} (hq : cm_N y pc .baload 1 pc') (hi : i < 8) (hx : x = nI k) (hk : k < (cm_tx i).length) (kk : cm_Ex l g d mc ms y pc' ls (.int ((cm_tx i).getD k 0) :: st) I L R ds Q) : cm_Ex l g d mc ms y pc ls (.int x :: .retAddr (30 + i) :: st) I L R ds Q := by
  obtain ⟨hdg, rfl⟩ := hq
  intro p e Rm s m args below meth c H locs cells slots kc ks als C w hS hl hr
  obtain ⟨adK, adV, h7, h8⟩ := C.2.2.2.2.2.2.2.2.1.2.2.2.2.2.2.2
  obtain ⟨q, hq⟩ : ∃ q, cm_str[i]? = some q := ⟨_, List.getElem?_eq_getElem (by simpa [cm_str] using hi)⟩
  obtain ⟨q1, q2, q3⟩ := h8 i _ hq
  have k1 := kk p e Rm s m args below meth c H locs cells slots kc ks als C w hS hl hr
  rw [List.map_cons, List.map_cons, show cm_em g (.retAddr (30 + i)) = .ref (adV i) from q2]
  have hsm : (cm_tx i).length < 2147483648 := by
    have : ∀ i, i < 8 → (cm_tx i).length < 2147483648 := by decide
    exact this i hi
  obtain ⟨e1, e2⟩ := cm_inI hx hk hsm
  exact va_tb C.1 C.2.1 (h7.1 i hi).2.2.2 hS (by rw [cm_lenS hi]; exact e1) (v := .int ((cm_tx i).getD k 0)) (by rw [e2]; rfl) hdg k1
/-- a call on a text -/
theorem x_callT {idx n i d' : Nat} {z : cm_M} {as rest lz : List Value} (hq : cm_N y pc (.invokevirtual idx) 3 pc') (hf : cm_cv y.1.cls idx z n) (hc : z.1.cls = "java/lang/String") (hi0 : i < 8) (hst : st = as.reverse ++ .retAddr (10 + i) :: rest) (hn : as.length = n) (hnd : cm_nd as = true) (hlz : cm_loc (.retAddr (10 + i) :: as) z.2.2.1 = lz) (hlen : (cm_xp (.retAddr (10 + i) :: as)).length ≤ z.2.2.1) (hsm : (rest.map fun v => v.category).sum ≤ 8) (hdd : d' + 1 ≤ d)
    (hcal : cm_Ex l g d' 0 0 z 0 lz [] I L R ds (fun r I' L' R' ds' => cm_Ex l g d mc ms y pc' ls (cm_psh r rest) I' L' R' ds' Q)) : cm_Ex l g d mc ms y pc ls st I L R ds Q := by
  obtain ⟨hdg, rfl⟩ := hq
  subst hst; subst hlz
  obtain ⟨hln, hz, hi, hse⟩ := hf
  intro p e Rm s m args below meth c H locs cells slots kc ks als C w hS hl hr
  have hts : ∀ w ∈ cm_ws y, w.before args s = true := C.2.2.2.2.2.1
  have hK := C.2.2.2.2.2.2.2.2.2.1
  have hSt := C.2.2.2.2.2.2.2.2.1
  obtain ⟨r1, r2, r3, r4, r5, r6⟩ := hr
  obtain ⟨adK, adV, h7, h8⟩ := C.2.2.2.2.2.2.2.2.1.2.2.2.2.2.2.2
  obtain ⟨q, hq⟩ : ∃ q, cm_str[i]? = some q := ⟨_, List.getElem?_eq_getElem (by simpa [cm_str] using hi0)⟩
  obtain ⟨q1, q2, q3⟩ := h8 i _ hq
  have hem : cm_em g (.retAddr (10 + i)) = .ref (adK i) := q1
  have hrec := vk_recv h7 hi0 hS
  rw [← hc] at hrec
  have hM := cm_met (as := .retAddr (10 + i) :: as) hz (show cm_nd (.retAddr (10 + i) :: as) = true from hnd) hlen hcal
  have hR : d' + 1 ≤ Rm.frames ∧ 8 + (z.2.2.1 + 11) + 64 * d' ≤ Rm.locals := by
    have := hz.2.2.2.2
    exact ⟨by omega, by omega⟩
  have hstk : ((as.reverse ++ .retAddr (10 + i) :: rest).map (cm_em g)) = (as.map (cm_em g)).reverse ++ .ref (adK i) :: rest.map (cm_em g) := by simp [hem]
  have hp : PreV s H z.1.cls (adK i) (va_Pc ((Value.retAddr (10 + i) :: as).map (cm_em g)) (cm_pre g I L R ds)) (as.map (cm_em g)) := ⟨cm_blind, hrec, cm_preU hSt hK w hS (by rw [List.map_cons, hem])⟩
  have hcat := cm_sum (st := rest) hSt.2.1
  rcases hln with hln | ⟨host, hln⟩
  · exact cm_go (mc := mc) (ms := ms) (mc' := 0) (ms' := 0) (rest := rest) C hS hl ⟨r1, r2, by omega, by omega, r5, r6⟩ (va_runV (As := as.map (cm_em g)) ⟨C.1, C.2.1, C.2.2.1, C.2.2.2.2.1, hts⟩ hM ⟨callB_of n hts (cm_wsIn hz) rfl rfl rfl (hts _ (List.mem_cons_of_mem _ hz.2.1)) (hts _ (List.mem_cons_of_mem _ hln)) hz.2.2.2.1 hR, hts _ (List.mem_cons_of_mem _ hi), hts _ (List.mem_cons_of_mem _ hse)⟩ hp rfl (by rw [List.length_map]; exact hn) hl.1 hstk (lv_room (by rw [hcat]; exact hsm)) hdg ⟨by omega, by omega⟩) (fun r I' L' R' ds' h => h)
  · exact cm_go (mc := mc) (ms := ms) (mc' := 0) (ms' := 0) (rest := rest) C hS hl ⟨r1, r2, by omega, by omega, r5, r6⟩ (va_runVN (As := as.map (cm_em g)) ⟨C.1, C.2.1, C.2.2.1, C.2.2.2.2.1, hts⟩ hM ⟨va_cnB n hts (cm_wsIn hz) rfl rfl rfl (hSt.1.1 _ hln) (hts _ (List.mem_cons_of_mem _ hz.2.1)) hz.2.2.2.1 hR, hts _ (List.mem_cons_of_mem _ hi), hts _ (List.mem_cons_of_mem _ hse)⟩ hp rfl (by rw [List.length_map]; exact hn) hl.1 hstk (lv_room (by rw [hcat]; exact hsm)) hdg ⟨by omega, by omega⟩) (fun r I' L' R' ds' h => h)
theorem x_sald {k : Nat} {i : Int32} (hq : cm_N y pc .iaload 1 pc') (hi : i = nI k) (hk : k < g.2.2.2.2.1) (kk : cm_Ex l g d mc ms y pc' ls (.int (g.2.2.2.2.2 k) :: st) I L R ds Q) : cm_Ex l g d mc ms y pc ls (.int i :: .retAddr 3 :: st) I L R ds Q := by
  obtain ⟨hdg, rfl⟩ := hq
  intro p e Rm s m args below meth c H locs cells slots kc ks als C w hS hl hr
  have k1 := kk p e Rm s m args below meth c H locs cells slots kc ks als C w hS hl hr
  rw [List.map_cons, List.map_cons]
  obtain ⟨t, h1, h3, h4⟩ := C.2.2.2.2.2.2.2.2.1.2.2.2.2.2.2.1
  obtain ⟨e1, e2⟩ := cm_inI hi hk (by omega)
  rw [show cm_em g (.retAddr 3) = .ref t from h1]
  exact va_ti C.1 C.2.1 h3 hS e1 (v := .int (g.2.2.2.2.2 k)) (by rw [e2]) hdg k1
theorem x_slenX (hq : cm_N y pc .arraylength 1 pc') (kk : cm_Ex l g d mc ms y pc' ls (.int (nI g.2.2.2.2.1) :: st) I L R ds Q) : cm_Ex l g d mc ms y pc ls (.retAddr 3 :: st) I L R ds Q := by
  obtain ⟨hdg, rfl⟩ := hq
  intro p e Rm s m args below meth c H locs cells slots kc ks als C w hS hl hr
  have k1 := kk p e Rm s m args below meth c H locs cells slots kc ks als C w hS hl hr
  rw [List.map_cons]
  obtain ⟨t, h1, h3, h4⟩ := C.2.2.2.2.2.2.2.2.1.2.2.2.2.2.2.1
  rw [show cm_em g (.retAddr 3) = .ref t from h1]
  exact va_tlen C.1 C.2.1 h3 hS rfl hdg k1
end CM
end
section
section CM
variable {l : Launch} {g : cm_G} {d mc ms : Nat} {y : cm_M} {pc pc' : Nat} {ls st : List Value} {I : cm_I} {L : cm_L} {R : cm_R} {ds : cm_Ds} {Q : cm_Post}
/-- System.arraycopy of longs -/
theorem x_copyl {idx a0 a1 n0 n1 u v n : Nat} {iu iv iN : Int32} (hq : cm_N y pc (.invokestatic idx) 3 pc') (w1 : Cond.methodLink y.1.cls idx arraycopyName ∈ cm_W0) (w2 : Cond.native arraycopyName ∈ cm_W0) (w3 : Cond.static arraycopyName ∈ cm_W0) (w4 : Cond.initialized "java/lang/System" ∈ cm_W0)
    (hd0 : ds[a0]? = some (.inl (1, n0))) (hd1 : ds[a1]? = some (.inl (1, n1))) (hu : iu = nI u) (hv : iv = nI v) (hn : iN = nI n) (b0 : n0 < 1000000) (b1 : n1 < 1000000) (h4 : u + n ≤ n0) (h5 : v + n ≤ n1) (hs : (st.map fun v => v.category).sum ≤ 8) (hdd : 1 ≤ d)
    (kk : cm_Ex l g d mc ms y pc' ls st I (fun b j => if b = a1 then va_cpy (L a0) (L a1) u v n j else L b j) R ds Q) : cm_Ex l g d mc ms y pc ls (.int iN :: .int iv :: .ref a1 :: .int iu :: .ref a0 :: st) I L R ds Q := by
  obtain ⟨hdg, rfl⟩ := hq
  subst hu; subst hv; subst hn
  intro p e Rm s m args below meth c H locs cells slots kc ks als C w hS hl hr T hT X
  have hts : ∀ w ∈ cm_ws y, w.before args s = true := C.2.2.2.2.2.1
  have hK := C.2.2.2.2.2.2.2.2.2.1
  have hSt := C.2.2.2.2.2.2.2.2.1
  have cu : (nI u).toNatClampNeg = u := nI_clamp (by omega)
  have cv : (nI v).toNatClampNeg = v := nI_clamp (by omega)
  have cn : (nI n).toNatClampNeg = n := nI_clamp (by omega)
  have tu : (nI u).toInt = u := nI_toInt (by omega)
  have tv : (nI v).toInt = v := nI_toInt (by omega)
  have tn : (nI n).toInt = n := nI_toInt (by omega)
  have hc0 := cm_at_l.mp (w.1 a0 _ (cm_cells_at g I L R hd0))
  have hc1 := cm_at_l.mp (w.1 a1 _ (cm_cells_at g I L R hd1))
  obtain ⟨-, k0, hk0, cm0, hkk0⟩ := (hK.2 1 _ (cm_tys_at g (by decide))).1 n0 (fun j => .long (L a0 j))
  obtain ⟨-, k1, hk1, cm1, hkk1⟩ := (hK.2 1 _ (cm_tys_at g (by decide))).1 n1 (fun j => .long (L a1 j))
  have hcs := cm_sum (st := st) hSt.2.1
  obtain ⟨vm', X', step⟩ := X.arraycopy C.1 C.2.2.2.2.1 (hts _ (List.mem_cons_of_mem _ w1)) (hts _ (List.mem_cons_of_mem _ w2)) (hts _ (List.mem_cons_of_mem _ w3)) (hts _ (List.mem_cons_of_mem _ w4)) (src := g.1 + a0) (dst := g.1 + a1) (cs := arrV (g.2.2.2.1 1) n0 (fun j => .long (L a0 j))) (cd := arrV (g.2.2.2.1 1) n1 (fun j => .long (L a1 j))) (srcPos := nI u) (destPos := nI v) (n := nI n) (by rw [hT]; exact hc0) (by rw [hT]; exact hc1)
    (fun _ h => by cases h) (fun _ h => by cases h) (fun h => by cases h) (fun h => by cases h) hk0 hk1 hkk0 hkk1 (by simp [cm_aty, refKind]) (nI_pos (by omega)) (nI_pos (by omega)) (nI_pos (by omega))
    (by rw [tu, tn, arrV_size]; omega)
    (by rw [tv, tn, arrV_size]; omega)
    (fun vm₁ _ i hi => by
      rw [cn] at hi
      have e : (arrV (g.2.2.2.1 1) n0 (fun j => Value.long (L a0 j))).slots.getD ((nI u).toNatClampNeg + i) .null = .long (L a0 (u + i)) := by
        rw [Array.getD_eq_getD_getElem?, cu, arrV_read _ _ (by omega)]
        rfl
      refine ⟨?_, ?_⟩
      · rw [e]
        rfl
      · rw [e]
        exact trivial)
    (g := F0 m pc als (List.map (cm_em g) (.int (nI n) :: .int (nI v) :: .ref a1 :: .int (nI u) :: .ref a0 :: st))) rfl (by rw [C.2.2.1]; exact hl.1) (rest := st.map (cm_em g)) rfl (by rw [C.2.1]; exact hdg) (Nat.le_trans hdd hr.1) (by
      have := hr.2.1
      have hnf : nativeFrameWords "java/lang/System" "arraycopy" 5 = 7 := by decide
      show 2 * 0 + _ + _ ≤ _
      omega)
  have e1 : copied (arrV (g.2.2.2.1 1) n0 (fun j => .long (L a0 j))) (arrV (g.2.2.2.1 1) n1 (fun j => .long (L a1 j))) (nI u) (nI v) (nI n) = arrV (g.2.2.2.1 1) n1 (fun j => .long (va_cpy (L a0) (L a1) u v n j)) := by
    have h1 := va_copied (fun z => Value.long z) (g.2.2.2.1 1) (g.2.2.2.1 1) (n0 := n0) (n1 := n1) (sp := u) (dp := v) (n := n) (L a0) (L a1) h4
    unfold copied
    rw [cu, cv, cn]
    exact h1
  rw [e1] at X' step
  have hlt : g.1 + a1 < H.size := (Array.getElem?_eq_some_iff.mp hc1).1
  have hheap : ((T.setVm vm').setCell (g.1 + a1) (arrV (g.2.2.2.1 1) n1 (fun j => .long (va_cpy (L a0) (L a1) u v n j)))).heap = H.setIfInBounds (g.1 + a1) (arrV (g.2.2.2.1 1) n1 (fun j => .long (va_cpy (L a0) (L a1) u v n j))) := by rw [← hT]; rfl
  have oq : ∀ q : Nat, q ≠ g.1 + a1 → (H.setIfInBounds (g.1 + a1) (arrV (g.2.2.2.1 1) n1 (fun j => .long (va_cpy (L a0) (L a1) u v n j))))[q]? = H[q]? := fun q hq => by simp [Array.getElem?_setIfInBounds, Ne.symm hq]
  obtain ⟨t, a2, b2⟩ := kk p e Rm s m args below meth c _ _ cells slots kc ks als C (cm_Wd_set w hd1 (I' := I) (L' := fun b j => if b = a1 then va_cpy (L a0) (L a1) u v n j else L b j) (R' := R) (cm_at_l.mpr (by simp [Array.getElem?_setIfInBounds, hlt])) (by simp) oq (fun b hb => rfl) (fun b hb => by funext j; simp [hb]) (fun b hb => rfl)) ⟨by simp; exact hS.1, fun q g1 g2 => by
      rw [oq q (fun e => g2 (by rw [e]; exact Nat.le_add_right _ _))]
      exact hS.2.1 q g1 g2, fun q hq => by
      rcases List.mem_append.mp hq with h | h
      · exact hS.2.2 q h
      · obtain ⟨z, -, hz⟩ := List.mem_map.mp h
        rw [← hz]
        exact Nat.le_add_right _ _⟩ hl hr _ hheap X'
  exact ⟨t, step t a2, b2⟩
end CM
end
