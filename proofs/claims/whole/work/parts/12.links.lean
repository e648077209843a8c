/-! methods; what the tables say, by places: printed by wip/whole/gen12.py -/
theorem cm_inT {w : Cond} (i : Nat) (h : tables_1[i]? = some w) (hg : goodWord w = true) : w ∈ cm_W0 := List.mem_filter.mpr ⟨List.mem_append_right _ (List.mem_of_getElem? h), hg⟩
theorem cm_inN {w : Cond} (i : Nat) (h : tables_1[i]? = some w) (hg : cm_isN w = true) : w ∈ cm_nest := List.mem_filter.mpr ⟨List.mem_append_right _ (List.mem_of_getElem? h), hg⟩
theorem cm_inP {w : Cond} (i : Nat) (h : (k2_sels lw_privs)[i]? = some w) (hg : goodWord w = true) : w ∈ cm_W0 := List.mem_filter.mpr ⟨List.mem_append_left _ (List.mem_of_getElem? h), hg⟩
def mX0_start : cm_M := (⟨RX0, "start", "(LCellarMeter$Trace;LCellarMeter$Thing;II)I"⟩, prog_2_method_2_code, 4, (some .int))
def mX0_perform : cm_M := (⟨RX0, "perform", "(LCellarMeter$Trace;LCellarMeter$Thing;IIII)I"⟩, prog_2_method_3_code, 11, (some .int))
def mX0_ownerOf : cm_M := (⟨RX0, "ownerOf", "(II)I"⟩, prog_2_method_4_code, 4, (some .int))
def mX0_bodyOf : cm_M := (⟨RX0, "bodyOf", "(II)I"⟩, prog_2_method_5_code, 3, (some .int))
def mX1_init : cm_M := (⟨RX1, "<init>", "()V"⟩, prog_3_method_1_code, 1, none)
def mX1_empty : cm_M := (⟨RX1, "empty", "()V"⟩, prog_3_method_2_code, 2, none)
def mX1_takeOf : cm_M := (⟨RX1, "takeOf", "(II)I"⟩, prog_3_method_3_code, 4, (some .int))
def mX1_gladOf : cm_M := (⟨RX1, "gladOf", "(II)I"⟩, prog_3_method_4_code, 4, (some .int))
def mX1_setTake : cm_M := (⟨RX1, "setTake", "(III)V"⟩, prog_3_method_5_code, 5, none)
def mX1_setGlad : cm_M := (⟨RX1, "setGlad", "(III)V"⟩, prog_3_method_6_code, 5, none)
def mX1_placeOf : cm_M := (⟨RX1, "placeOf", "(II)I"⟩, prog_3_method_7_code, 3, (some .int))
def mX1_names : cm_M := (⟨RX1, "names", "(I)Z"⟩, prog_3_method_8_code, 2, (some .boolean))
def mX1_addTest : cm_M := (⟨RX1, "addTest", "(III)V"⟩, prog_3_method_9_code, 4, none)
def mX1_addStep : cm_M := (⟨RX1, "addStep", "(I)V"⟩, prog_3_method_10_code, 2, none)
def mX1_barred : cm_M := (⟨RX1, "barred", "(LCellarMeter$Household;I[J)J"⟩, prog_3_method_11_code, 8, (some .long))
def mX1_push : cm_M := (⟨RX1, "push", "([JIJ)I"⟩, prog_3_method_12_code, 4, (some .int))
def mX1_negate : cm_M := (⟨RX1, "negate", "([JI)I"⟩, prog_3_method_13_code, 2, (some .int))
def mX1_join : cm_M := (⟨RX1, "join", "([JIZ)I"⟩, prog_3_method_14_code, 7, (some .int))
def mX1_tested : cm_M := (⟨RX1, "tested", "(ILCellarMeter$Household;I)J"⟩, prog_3_method_15_code, 10, (some .long))
def mX1_compares : cm_M := (⟨RX1, "compares", "(III)Z"⟩, prog_3_method_16_code, 3, (some .boolean))
def mX2_init : cm_M := (⟨RX2, "<init>", "(LCellarMeter$Text;)V"⟩, prog_4_method_1_code, 2, none)
def mX2_fill : cm_M := (⟨RX2, "fill", "(LCellarMeter$House;)I"⟩, prog_4_method_2_code, 4, (some .int))
def mX2_readClause : cm_M := (⟨RX2, "readClause", "()V"⟩, prog_4_method_3_code, 3, none)
def mX2_readTable : cm_M := (⟨RX2, "readTable", "(Z)V"⟩, prog_4_method_4_code, 5, none)
def mX2_readEither : cm_M := (⟨RX2, "readEither", "(I)V"⟩, prog_4_method_5_code, 3, none)
def mX2_readBoth : cm_M := (⟨RX2, "readBoth", "(I)V"⟩, prog_4_method_6_code, 3, none)
def mX2_readSingle : cm_M := (⟨RX2, "readSingle", "(I)V"⟩, prog_4_method_7_code, 3, none)
def mX2_readNested : cm_M := (⟨RX2, "readNested", "(ZI)V"⟩, prog_4_method_8_code, 3, none)
def mX2_readTest : cm_M := (⟨RX2, "readTest", "()V"⟩, prog_4_method_9_code, 4, none)
def mX2_readNumber : cm_M := (⟨RX2, "readNumber", "(I)I"⟩, prog_4_method_10_code, 4, (some .int))
def mX2_isFigure : cm_M := (⟨RX2, "isFigure", "(I)Z"⟩, prog_4_method_11_code, 1, (some .boolean))
def mX2_readWord : cm_M := (⟨RX2, "readWord", "(Ljava/lang/String;)V"⟩, prog_4_method_12_code, 3, none)
def mX2_readSign : cm_M := (⟨RX2, "readSign", "(I)V"⟩, prog_4_method_13_code, 2, none)
def mX2_readOneOf : cm_M := (⟨RX2, "readOneOf", "(Ljava/lang/String;)I"⟩, prog_4_method_14_code, 4, (some .int))
def mX3_init : cm_M := (⟨RX3, "<init>", "()V"⟩, prog_5_method_1_code, 1, none)
def mX3_thingAt : cm_M := (⟨RX3, "thingAt", "(I)LCellarMeter$Thing;"⟩, prog_5_method_2_code, 2, (some (.object "CellarMeter$Thing")))
def mX3_hasWay : cm_M := (⟨RX3, "hasWay", "(I)Z"⟩, prog_5_method_3_code, 2, (some .boolean))
def mX3_hasRoomFor : cm_M := (⟨RX3, "hasRoomFor", "(I)Z"⟩, prog_5_method_4_code, 2, (some .boolean))
def mX3_add : cm_M := (⟨RX3, "add", "(II)V"⟩, prog_5_method_5_code, 8, none)
def mX3_addRows : cm_M := (⟨RX3, "addRows", "(III)V"⟩, prog_5_method_6_code, 8, none)
def mX3_spread : cm_M := (⟨RX3, "spread", "(JI)J"⟩, prog_5_method_7_code, 7, (some .long))
def mX3_lawfulWays : cm_M := (⟨RX3, "lawfulWays", "()J"⟩, prog_5_method_8_code, 1, (some .long))
def mX3_waysWith : cm_M := (⟨RX3, "waysWith", "(II)J"⟩, prog_5_method_9_code, 4, (some .long))
def mX3_afterWay : cm_M := (⟨RX3, "afterWay", "(I)J"⟩, prog_5_method_10_code, 2, (some .long))
def mX3_afterAny : cm_M := (⟨RX3, "afterAny", "(J)J"⟩, prog_5_method_11_code, 3, (some .long))
def mX3_beforeAny : cm_M := (⟨RX3, "beforeAny", "(J)J"⟩, prog_5_method_12_code, 3, (some .long))
def mX3_joined : cm_M := (⟨RX3, "joined", "([JJ)J"⟩, prog_5_method_13_code, 7, (some .long))
def mX3_changes : cm_M := (⟨RX3, "changes", "(II)I"⟩, prog_5_method_14_code, 4, (some .int))
def mX3_sum : cm_M := (⟨RX3, "sum", "([III[I)V"⟩, prog_5_method_15_code, 9, none)
def mX4_isKind : cm_M := (⟨RX4, "isKind", "(I)Z"⟩, prog_6_method_2_code, 1, (some .boolean))
def mX4_above : cm_M := (⟨RX4, "above", "(I)I"⟩, prog_6_method_3_code, 1, (some .int))
def mX4_isUnder : cm_M := (⟨RX4, "isUnder", "(II)Z"⟩, prog_6_method_4_code, 4, (some .boolean))
def mX4_mayFollow : cm_M := (⟨RX4, "mayFollow", "(IIII)Z"⟩, prog_6_method_5_code, 4, (some .boolean))
def mX4_mayFollowSwitch : cm_M := (⟨RX4, "mayFollowSwitch", "(II)Z"⟩, prog_6_method_6_code, 2, (some .boolean))
def mX5_init : cm_M := (⟨RX5, "<init>", "()V"⟩, prog_7_method_1_code, 1, none)
def mX5_has : cm_M := (⟨RX5, "has", "(I)Z"⟩, prog_7_method_2_code, 2, (some .boolean))
def mX5_wattsAt : cm_M := (⟨RX5, "wattsAt", "(I)I"⟩, prog_7_method_3_code, 2, (some .int))
def mX5_add : cm_M := (⟨RX5, "add", "(I)V"⟩, prog_7_method_4_code, 2, none)
def mX5_copy : cm_M := (⟨RX5, "copy", "(LCellarMeter$Meter;)V"⟩, prog_7_method_5_code, 3, none)
def mX6_init : cm_M := (⟨RX6, "<init>", "()V"⟩, prog_8_method_1_code, 1, none)
def mX6_isNothing : cm_M := (⟨RX6, "isNothing", "()Z"⟩, prog_8_method_2_code, 1, (some .boolean))
def mX6_become : cm_M := (⟨RX6, "become", "(II)V"⟩, prog_8_method_3_code, 4, none)
def mX6_has : cm_M := (⟨RX6, "has", "(I)Z"⟩, prog_8_method_4_code, 2, (some .boolean))
def mX6_hasRun : cm_M := (⟨RX6, "hasRun", "(II)Z"⟩, prog_8_method_5_code, 3, (some .boolean))
def mX6_itemAt : cm_M := (⟨RX6, "itemAt", "(I)J"⟩, prog_8_method_6_code, 2, (some .long))
def mX6_put : cm_M := (⟨RX6, "put", "(IJ)V"⟩, prog_8_method_7_code, 4, none)
def mX6_cut : cm_M := (⟨RX6, "cut", "(J)J"⟩, prog_8_method_8_code, 3, (some .long))
def mX7_init : cm_M := (⟨RX7, "<init>", "(LCellarMeter$Household;LCellarMeter$Meter;)V"⟩, prog_9_method_1_code, 3, none)
def mX7_lay : cm_M := (⟨RX7, "lay", "(LCellarMeter$House;)V"⟩, prog_9_method_2_code, 3, none)
def mX7_near : cm_M := (⟨RX7, "near", "([IIII)J"⟩, prog_9_method_3_code, 8, (some .long))
def mX7_isIn : cm_M := (⟨RX7, "isIn", "(JI)Z"⟩, prog_9_method_4_code, 3, (some .boolean))
def mX7_fitsAt : cm_M := (⟨RX7, "fitsAt", "(II)Z"⟩, prog_9_method_5_code, 3, (some .boolean))
def mX7_howManyFit : cm_M := (⟨RX7, "howManyFit", "(I)I"⟩, prog_9_method_6_code, 2, (some .int))
def mX7_howMany : cm_M := (⟨RX7, "howMany", "()I"⟩, prog_9_method_7_code, 3, (some .int))
def mX7_countStep : cm_M := (⟨RX7, "countStep", "(I)V"⟩, prog_9_method_8_code, 6, none)
def mX7_reach : cm_M := (⟨RX7, "reach", "()Z"⟩, prog_9_method_9_code, 4, (some .boolean))
def mX7_trimBackTo : cm_M := (⟨RX7, "trimBackTo", "(I)V"⟩, prog_9_method_10_code, 3, none)
def mX7_findCheapest : cm_M := (⟨RX7, "findCheapest", "(I)I"⟩, prog_9_method_11_code, 5, (some .int))
def mX7_bestNext : cm_M := (⟨RX7, "bestNext", "(III)I"⟩, prog_9_method_12_code, 11, (some .int))
def mX7_costOf : cm_M := (⟨RX7, "costOf", "(IIII)I"⟩, prog_9_method_13_code, 7, (some .int))
def mX7_ofFewest : cm_M := (⟨RX7, "ofFewest", "(I)I"⟩, prog_9_method_14_code, 3, (some .int))
def mX7_ofGladdest : cm_M := (⟨RX7, "ofGladdest", "(I)I"⟩, prog_9_method_15_code, 3, (some .int))
def mX7_partOf : cm_M := (⟨RX7, "partOf", "(IZ)I"⟩, prog_9_method_16_code, 4, (some .int))
def mX7_thingsOn : cm_M := (⟨RX7, "thingsOn", "(IZ)I"⟩, prog_9_method_17_code, 9, (some .int))
def mX7_leastSecret : cm_M := (⟨RX7, "leastSecret", "()I"⟩, prog_9_method_18_code, 5, (some .int))
def mX7_wiredSets : cm_M := (⟨RX7, "wiredSets", "(LCellarMeter$Meter;Z)I"⟩, prog_9_method_19_code, 7, (some .int))
def mX7_leastCoarse : cm_M := (⟨RX7, "leastCoarse", "(II)I"⟩, prog_9_method_20_code, 8, (some .int))
def mX7_judged : cm_M := (⟨RX7, "judged", "(LCellarMeter$Tape;I)I"⟩, prog_9_method_21_code, 9, (some .int))
def mX8_init : cm_M := (⟨RX8, "<init>", "()V"⟩, prog_10_method_1_code, 1, none)
def mX8_add : cm_M := (⟨RX8, "add", "(I)V"⟩, prog_10_method_2_code, 2, none)
def mX8_byteAt : cm_M := (⟨RX8, "byteAt", "(I)I"⟩, prog_10_method_3_code, 2, (some .int))
def mX9_init : cm_M := (⟨RX9, "<init>", "(III)V"⟩, prog_11_method_1_code, 4, none)
def mX9_hasState : cm_M := (⟨RX9, "hasState", "(I)Z"⟩, prog_11_method_2_code, 2, (some .boolean))
def mX10_init : cm_M := (⟨RX10, "<init>", "()V"⟩, prog_12_method_1_code, 1, none)
def mX10_add : cm_M := (⟨RX10, "add", "(I)V"⟩, prog_12_method_2_code, 2, none)
def mX10_has : cm_M := (⟨RX10, "has", "(I)Z"⟩, prog_12_method_3_code, 2, (some .boolean))
def mX10_bodyAt : cm_M := (⟨RX10, "bodyAt", "(I)I"⟩, prog_12_method_4_code, 2, (some .int))
def mX11_init : cm_M := (⟨RX11, "<init>", "()V"⟩, prog_1_method_1_code, 2, none)
def mX11_thing : cm_M := (⟨RX11, "thing", "(II)I"⟩, prog_1_method_2_code, 3, (some .int))
def mX11_of : cm_M := (⟨RX11, "of", "(II)I"⟩, prog_1_method_3_code, 4, (some .int))
def mX11_follows : cm_M := (⟨RX11, "follows", "(III)I"⟩, prog_1_method_4_code, 5, (some .int))
def mX11_feed : cm_M := (⟨RX11, "feed", "(II)I"⟩, prog_1_method_5_code, 4, (some .int))
def mX11_house : cm_M := (⟨RX11, "house", "()I"⟩, prog_1_method_6_code, 2, (some .int))
def mX11_reading : cm_M := (⟨RX11, "reading", "(II)I"⟩, prog_1_method_7_code, 4, (some .int))
def mX11_clear : cm_M := (⟨RX11, "clear", "(I)I"⟩, prog_1_method_8_code, 4, (some .int))
def mX11_fits : cm_M := (⟨RX11, "fits", "(II)I"⟩, prog_1_method_9_code, 3, (some .int))
def mX11_tales : cm_M := (⟨RX11, "tales", "()I"⟩, prog_1_method_10_code, 1, (some .int))
def mX11_may : cm_M := (⟨RX11, "may", "(I)I"⟩, prog_1_method_11_code, 2, (some .int))
def mX11_fewest : cm_M := (⟨RX11, "fewest", "(I)I"⟩, prog_1_method_12_code, 2, (some .int))
def mX11_gladdest : cm_M := (⟨RX11, "gladdest", "(I)I"⟩, prog_1_method_13_code, 2, (some .int))
def mX11_sure : cm_M := (⟨RX11, "sure", "(II)I"⟩, prog_1_method_14_code, 3, (some .int))
def mX11_alike : cm_M := (⟨RX11, "alike", "()I"⟩, prog_1_method_15_code, 4, (some .int))
def mX11_secret : cm_M := (⟨RX11, "secret", "()I"⟩, prog_1_method_16_code, 1, (some .int))
def mX11_part : cm_M := (⟨RX11, "part", "(II)I"⟩, prog_1_method_17_code, 3, (some .int))
def mX11_wires : cm_M := (⟨RX11, "wires", "(I)I"⟩, prog_1_method_18_code, 2, (some .int))
def mX11_coarse : cm_M := (⟨RX11, "coarse", "(II)I"⟩, prog_1_method_19_code, 3, (some .int))
def mX11_judge : cm_M := (⟨RX11, "judge", "(II)I"⟩, prog_1_method_20_code, 4, (some .int))
def mX11_image : cm_M := (⟨RX11, "image", "()I"⟩, prog_1_method_21_code, 1, (some .int))
def mX11_undo : cm_M := (⟨RX11, "undo", "()I"⟩, prog_1_method_22_code, 1, (some .int))
def mX11_act : cm_M := (⟨RX11, "act", "(III)I"⟩, prog_1_method_23_code, 5, (some .int))
def mX11_trace : cm_M := (⟨RX11, "trace", "(I)I"⟩, prog_1_method_24_code, 2, (some .int))
def mX11_taken : cm_M := (⟨RX11, "taken", "(II)I"⟩, prog_1_method_25_code, 4, (some .int))
def mX11_count : cm_M := (⟨RX11, "count", "(I)I"⟩, prog_1_method_26_code, 2, (some .int))
def mX11_tape : cm_M := (⟨RX11, "tape", "(III)I"⟩, prog_1_method_27_code, 5, (some .int))
def mX11_item : cm_M := (⟨RX11, "item", "(IIJ)I"⟩, prog_1_method_28_code, 6, (some .int))
def mX11_read : cm_M := (⟨RX11, "read", "(II)J"⟩, prog_1_method_29_code, 4, (some .long))
def mX11_shift : cm_M := (⟨RX11, "shift", "(IIIII)I"⟩, prog_1_method_30_code, 8, (some .int))
def mX11_isEither : cm_M := (⟨RX11, "isEither", "(I)Z"⟩, prog_1_method_31_code, 1, (some .boolean))
def mX11_heldHouse : cm_M := (⟨RX11, "heldHouse", "()LCellarMeter$House;"⟩, prog_1_method_32_code, 1, (some (.object "CellarMeter$House")))
def mX11_meterAt : cm_M := (⟨RX11, "meterAt", "(I)LCellarMeter$Meter;"⟩, prog_1_method_33_code, 2, (some (.object "CellarMeter$Meter")))
def mX11_tapeAt : cm_M := (⟨RX11, "tapeAt", "(I)LCellarMeter$Tape;"⟩, prog_1_method_34_code, 2, (some (.object "CellarMeter$Tape")))
def mX11_laid : cm_M := (⟨RX11, "laid", "()LCellarMeter$Telling;"⟩, prog_1_method_35_code, 1, (some (.object "CellarMeter$Telling")))
def mX11_areAlike : cm_M := (⟨RX11, "areAlike", "(II)Z"⟩, prog_1_method_36_code, 7, (some .boolean))
def mX12_init : cm_M := (⟨RX12, "<init>", "()V"⟩, prog_14_method_1_code, 1, none)
def mX12_in : cm_M := (⟨RX12, "in", "(III)Z"⟩, prog_14_method_2_code, 4, (some .boolean))
def mX12_isThing : cm_M := (⟨RX12, "isThing", "(I)Z"⟩, prog_14_method_3_code, 2, (some .boolean))
def mX12_isUnder : cm_M := (⟨RX12, "isUnder", "(II)Z"⟩, prog_14_method_4_code, 3, (some .boolean))
def mX12_thing : cm_M := (⟨RX12, "thing", "(II)I"⟩, prog_14_method_5_code, 3, (some .int))
def mX12_isNext : cm_M := (⟨RX12, "isNext", "(III)Z"⟩, prog_14_method_6_code, 4, (some .boolean))
def mX12_follows : cm_M := (⟨RX12, "follows", "(III)I"⟩, prog_14_method_7_code, 4, (some .int))
def mX12_feed : cm_M := (⟨RX12, "feed", "(II)I"⟩, prog_14_method_8_code, 4, (some .int))
def mX12_next : cm_M := (⟨RX12, "next", "()I"⟩, prog_14_method_9_code, 1, (some .int))
def mX12_second : cm_M := (⟨RX12, "second", "()I"⟩, prog_14_method_10_code, 1, (some .int))
def mX12_takesSign : cm_M := (⟨RX12, "takesSign", "(I)Z"⟩, prog_14_method_11_code, 2, (some .boolean))
def mX12_takesWord : cm_M := (⟨RX12, "takesWord", "(II)Z"⟩, prog_14_method_12_code, 4, (some .boolean))
def mX12_isDigit : cm_M := (⟨RX12, "isDigit", "()Z"⟩, prog_14_method_13_code, 1, (some .boolean))
def mX12_takesNumber : cm_M := (⟨RX12, "takesNumber", "(I)Z"⟩, prog_14_method_14_code, 3, (some .boolean))
def mX12_put : cm_M := (⟨RX12, "put", "(I)V"⟩, prog_14_method_15_code, 2, none)
def mX12_whole : cm_M := (⟨RX12, "whole", "()V"⟩, prog_14_method_16_code, 1, none)
def mX12_settle : cm_M := (⟨RX12, "settle", "(I)V"⟩, prog_14_method_17_code, 2, none)
def mX12_takesTest : cm_M := (⟨RX12, "takesTest", "()Z"⟩, prog_14_method_18_code, 4, (some .boolean))
def mX12_takesE : cm_M := (⟨RX12, "takesE", "(I)Z"⟩, prog_14_method_19_code, 4, (some .boolean))
def mX12_takesFigure : cm_M := (⟨RX12, "takesFigure", "()Z"⟩, prog_14_method_20_code, 1, (some .boolean))
def mX12_takesState : cm_M := (⟨RX12, "takesState", "(I)Z"⟩, prog_14_method_21_code, 2, (some .boolean))
def mX12_takesClause : cm_M := (⟨RX12, "takesClause", "(I)Z"⟩, prog_14_method_22_code, 2, (some .boolean))
def mX12_goes : cm_M := (⟨RX12, "goes", "(I)Z"⟩, prog_14_method_23_code, 3, (some .boolean))
def mX12_house : cm_M := (⟨RX12, "house", "()I"⟩, prog_14_method_24_code, 2, (some .int))
def mX12_first : cm_M := (⟨RX12, "first", "()I"⟩, prog_14_method_25_code, 1, (some .int))
def mX12_behind : cm_M := (⟨RX12, "behind", "()I"⟩, prog_14_method_26_code, 1, (some .int))
def mX12_last : cm_M := (⟨RX12, "last", "(II)I"⟩, prog_14_method_27_code, 5, (some .int))
def mX12_of : cm_M := (⟨RX12, "of", "(II)I"⟩, prog_14_method_28_code, 3, (some .int))
def mX12_reading : cm_M := (⟨RX12, "reading", "(II)I"⟩, prog_14_method_29_code, 3, (some .int))
def mX12_clear : cm_M := (⟨RX12, "clear", "(I)I"⟩, prog_14_method_30_code, 3, (some .int))
def mX12_holds : cm_M := (⟨RX12, "holds", "(III)Z"⟩, prog_14_method_31_code, 9, (some .boolean))
def mX12_mayBe : cm_M := (⟨RX12, "mayBe", "(II)Z"⟩, prog_14_method_32_code, 4, (some .boolean))
def mX12_layWay : cm_M := (⟨RX12, "layWay", "(I)V"⟩, prog_14_method_33_code, 5, none)
def mX12_layAll : cm_M := (⟨RX12, "layAll", "()V"⟩, prog_14_method_34_code, 6, none)
def mX12_isNear : cm_M := (⟨RX12, "isNear", "(III)Z"⟩, prog_14_method_35_code, 4, (some .boolean))
def mX12_layFits : cm_M := (⟨RX12, "layFits", "(II)V"⟩, prog_14_method_36_code, 7, none)
def mX12_findLive : cm_M := (⟨RX12, "findLive", "()Z"⟩, prog_14_method_37_code, 6, (some .boolean))
def mX12_look : cm_M := (⟨RX12, "look", "()Z"⟩, prog_14_method_38_code, 1, (some .boolean))
def mX12_isReading : cm_M := (⟨RX12, "isReading", "(I)Z"⟩, prog_14_method_39_code, 2, (some .boolean))
def mX12_fits : cm_M := (⟨RX12, "fits", "(II)I"⟩, prog_14_method_40_code, 3, (some .int))
def mX12_tales : cm_M := (⟨RX12, "tales", "()I"⟩, prog_14_method_41_code, 7, (some .int))
def mX12_may : cm_M := (⟨RX12, "may", "(I)I"⟩, prog_14_method_42_code, 4, (some .int))
def mX12_costOf : cm_M := (⟨RX12, "costOf", "(III)I"⟩, prog_14_method_43_code, 4, (some .int))
def mX12_findTale : cm_M := (⟨RX12, "findTale", "(II)I"⟩, prog_14_method_44_code, 9, (some .int))
def mX12_fewest : cm_M := (⟨RX12, "fewest", "(I)I"⟩, prog_14_method_45_code, 3, (some .int))
def mX12_gladdest : cm_M := (⟨RX12, "gladdest", "(I)I"⟩, prog_14_method_46_code, 3, (some .int))
def mX12_onAt : cm_M := (⟨RX12, "onAt", "(IZ)I"⟩, prog_14_method_47_code, 7, (some .int))
def mX12_sure : cm_M := (⟨RX12, "sure", "(II)I"⟩, prog_14_method_48_code, 3, (some .int))
def mX12_stands : cm_M := (⟨RX12, "stands", "(I)Z"⟩, prog_14_method_49_code, 4, (some .boolean))
def mX12_areAlike : cm_M := (⟨RX12, "areAlike", "(II)Z"⟩, prog_14_method_50_code, 4, (some .boolean))
def mX12_alike : cm_M := (⟨RX12, "alike", "()I"⟩, prog_14_method_51_code, 4, (some .int))
def mX12_secret : cm_M := (⟨RX12, "secret", "()I"⟩, prog_14_method_52_code, 2, (some .int))
def mX12_part : cm_M := (⟨RX12, "part", "(II)I"⟩, prog_14_method_53_code, 4, (some .int))
def mX12_wireSum : cm_M := (⟨RX12, "wireSum", "(II)I"⟩, prog_14_method_54_code, 5, (some .int))
def mX12_wires : cm_M := (⟨RX12, "wires", "(I)I"⟩, prog_14_method_55_code, 8, (some .int))
def mX12_coarse : cm_M := (⟨RX12, "coarse", "(II)I"⟩, prog_14_method_56_code, 4, (some .int))
def mX12_judge : cm_M := (⟨RX12, "judge", "(II)I"⟩, prog_14_method_57_code, 6, (some .int))
def mX12_image : cm_M := (⟨RX12, "image", "()I"⟩, prog_14_method_58_code, 2, (some .int))
def mX12_undo : cm_M := (⟨RX12, "undo", "()I"⟩, prog_14_method_59_code, 2, (some .int))
def mX12_body : cm_M := (⟨RX12, "body", "(I)V"⟩, prog_14_method_60_code, 2, none)
def mX12_plainTakes : cm_M := (⟨RX12, "plainTakes", "(II)I"⟩, prog_14_method_61_code, 3, (some .int))
def mX12_takesAct : cm_M := (⟨RX12, "takesAct", "(II)I"⟩, prog_14_method_62_code, 3, (some .int))
def mX12_plainFollows : cm_M := (⟨RX12, "plainFollows", "(II)I"⟩, prog_14_method_63_code, 3, (some .int))
def mX12_switchFollows : cm_M := (⟨RX12, "switchFollows", "(II)I"⟩, prog_14_method_64_code, 3, (some .int))
def mX12_followsAct : cm_M := (⟨RX12, "followsAct", "(II)I"⟩, prog_14_method_65_code, 4, (some .int))
def mX12_plainTells : cm_M := (⟨RX12, "plainTells", "(II)I"⟩, prog_14_method_66_code, 3, (some .int))
def mX12_tellsAct : cm_M := (⟨RX12, "tellsAct", "(II)I"⟩, prog_14_method_67_code, 4, (some .int))
def mX12_act : cm_M := (⟨RX12, "act", "(III)I"⟩, prog_14_method_68_code, 4, (some .int))
def mX12_trace : cm_M := (⟨RX12, "trace", "(I)I"⟩, prog_14_method_69_code, 2, (some .int))
def mX12_taken : cm_M := (⟨RX12, "taken", "(II)I"⟩, prog_14_method_70_code, 3, (some .int))
def mX12_count : cm_M := (⟨RX12, "count", "(I)I"⟩, prog_14_method_71_code, 2, (some .int))
def mX12_isTape : cm_M := (⟨RX12, "isTape", "(I)Z"⟩, prog_14_method_72_code, 2, (some .boolean))
def mX12_tape : cm_M := (⟨RX12, "tape", "(III)I"⟩, prog_14_method_73_code, 5, (some .int))
def mX12_narrow : cm_M := (⟨RX12, "narrow", "(IJ)J"⟩, prog_14_method_74_code, 4, (some .long))
def mX12_item : cm_M := (⟨RX12, "item", "(IIJ)I"⟩, prog_14_method_75_code, 5, (some .int))
def mX12_read : cm_M := (⟨RX12, "read", "(II)J"⟩, prog_14_method_76_code, 3, (some .long))
def mX12_shift : cm_M := (⟨RX12, "shift", "(IIIII)I"⟩, prog_14_method_77_code, 7, (some .int))
def mJ6_bitCount : cm_M := (⟨RJ6, "bitCount", "(I)I"⟩, prog_15_method_49_code, 1, (some .int))
def mJ13_bitCount : cm_M := (⟨RJ13, "bitCount", "(J)I"⟩, prog_16_method_50_code, 2, (some .int))
def mJ9_abs : cm_M := (⟨RJ9, "abs", "(I)I"⟩, prog_17_method_59_code, 1, (some .int))
def mJ9_min : cm_M := (⟨RJ9, "min", "(II)I"⟩, prog_17_method_69_code, 2, (some .int))
def mJ0_length : cm_M := (⟨RJ0, "length", "()I"⟩, prog_18_method_54_code, 1, (some .int))
def mJ0_charAt : cm_M := (⟨RJ0, "charAt", "(I)C"⟩, prog_18_method_56_code, 2, (some .char))
def mJ0_coder : cm_M := (⟨RJ0, "coder", "()B"⟩, prog_18_method_152_code, 1, (some .byte))
def mJ0_isLatin1 : cm_M := (⟨RJ0, "isLatin1", "()Z"⟩, prog_18_method_154_code, 1, (some .boolean))
def mJ0_checkIndex : cm_M := (⟨RJ0, "checkIndex", "(II)V"⟩, prog_18_method_155_code, 2, none)
def mJ1_charAt : cm_M := (⟨RJ1, "charAt", "([BI)C"⟩, prog_19_method_2_code, 2, (some .char))
def mJ2_getChar : cm_M := (⟨RJ2, "getChar", "([BI)C"⟩, prog_20_method_5_code, 2, (some .char))
def mJ2_length : cm_M := (⟨RJ2, "length", "([B)I"⟩, prog_20_method_6_code, 1, (some .int))
def mJ2_charAt : cm_M := (⟨RJ2, "charAt", "([BI)C"⟩, prog_20_method_83_code, 2, (some .char))
def mJ2_checkIndex : cm_M := (⟨RJ2, "checkIndex", "(I[B)V"⟩, prog_20_method_91_code, 2, none)
def mJ3_checkIndex : cm_M := (⟨RJ3, "checkIndex", "(IILjava/util/function/BiFunction;)I"⟩, prog_22_method_11_code, 3, (some .int))
def mL_law : cm_M := (x, code, 4, ret)
set_option maxRecDepth 100000 in
theorem kmX0_start : cm_mk mX0_start 4 := ⟨cm_inT 803 rfl rfl, cm_inT 20 rfl rfl, by decide +kernel, ⟨by decide +kernel, by decide +kernel, by decide +kernel⟩, by decide⟩
set_option maxRecDepth 100000 in
theorem smX0_start : Cond.static mX0_start.1 ∈ cm_W0 := cm_inT 802 rfl rfl
set_option maxRecDepth 100000 in
theorem kmX0_perform : cm_mk mX0_perform 6 := ⟨cm_inT 806 rfl rfl, cm_inT 20 rfl rfl, by decide +kernel, ⟨by decide +kernel, by decide +kernel, by decide +kernel⟩, by decide⟩
set_option maxRecDepth 100000 in
theorem smX0_perform : Cond.static mX0_perform.1 ∈ cm_W0 := cm_inT 805 rfl rfl
set_option maxRecDepth 100000 in
theorem kmX0_ownerOf : cm_mk mX0_ownerOf 2 := ⟨cm_inT 809 rfl rfl, cm_inT 20 rfl rfl, by decide +kernel, ⟨by decide +kernel, by decide +kernel, by decide +kernel⟩, by decide⟩
set_option maxRecDepth 100000 in
theorem smX0_ownerOf : Cond.static mX0_ownerOf.1 ∈ cm_W0 := cm_inT 808 rfl rfl
set_option maxRecDepth 100000 in
theorem kmX0_bodyOf : cm_mk mX0_bodyOf 2 := ⟨cm_inT 812 rfl rfl, cm_inT 20 rfl rfl, by decide +kernel, ⟨by decide +kernel, by decide +kernel, by decide +kernel⟩, by decide⟩
set_option maxRecDepth 100000 in
theorem smX0_bodyOf : Cond.static mX0_bodyOf.1 ∈ cm_W0 := cm_inT 811 rfl rfl
set_option maxRecDepth 100000 in
theorem kmX1_init : cm_mk mX1_init 0 := ⟨cm_inT 108 rfl rfl, cm_inT 5 rfl rfl, by decide +kernel, ⟨by decide +kernel, by decide +kernel, by decide +kernel⟩, by decide⟩
set_option maxRecDepth 100000 in
theorem imX1_init : Cond.instanceMethod mX1_init.1 ∈ cm_W0 := cm_inT 107 rfl rfl
set_option maxRecDepth 100000 in
theorem kmX1_empty : cm_mk mX1_empty 0 := ⟨cm_inT 393 rfl rfl, cm_inT 5 rfl rfl, by decide +kernel, ⟨by decide +kernel, by decide +kernel, by decide +kernel⟩, by decide⟩
set_option maxRecDepth 100000 in
theorem imX1_empty : Cond.instanceMethod mX1_empty.1 ∈ cm_W0 := cm_inT 391 rfl rfl
set_option maxRecDepth 100000 in
theorem emX1_empty : Cond.selects mX1_empty.1.cls mX1_empty.1 mX1_empty.1 ∈ cm_W0 := cm_inT 392 rfl rfl
set_option maxRecDepth 100000 in
theorem kmX1_takeOf : cm_mk mX1_takeOf 2 := ⟨cm_inT 357 rfl rfl, cm_inT 5 rfl rfl, by decide +kernel, ⟨by decide +kernel, by decide +kernel, by decide +kernel⟩, by decide⟩
set_option maxRecDepth 100000 in
theorem imX1_takeOf : Cond.instanceMethod mX1_takeOf.1 ∈ cm_W0 := cm_inT 355 rfl rfl
set_option maxRecDepth 100000 in
theorem emX1_takeOf : Cond.selects mX1_takeOf.1.cls mX1_takeOf.1 mX1_takeOf.1 ∈ cm_W0 := cm_inT 356 rfl rfl
set_option maxRecDepth 100000 in
theorem kmX1_gladOf : cm_mk mX1_gladOf 2 := ⟨cm_inT 364 rfl rfl, cm_inT 5 rfl rfl, by decide +kernel, ⟨by decide +kernel, by decide +kernel, by decide +kernel⟩, by decide⟩
set_option maxRecDepth 100000 in
theorem imX1_gladOf : Cond.instanceMethod mX1_gladOf.1 ∈ cm_W0 := cm_inT 362 rfl rfl
set_option maxRecDepth 100000 in
theorem emX1_gladOf : Cond.selects mX1_gladOf.1.cls mX1_gladOf.1 mX1_gladOf.1 ∈ cm_W0 := cm_inT 363 rfl rfl
set_option maxRecDepth 100000 in
theorem kmX1_setTake : cm_mk mX1_setTake 3 := ⟨cm_inT 511 rfl rfl, cm_inT 5 rfl rfl, by decide +kernel, ⟨by decide +kernel, by decide +kernel, by decide +kernel⟩, by decide⟩
set_option maxRecDepth 100000 in
theorem imX1_setTake : Cond.instanceMethod mX1_setTake.1 ∈ cm_W0 := cm_inT 509 rfl rfl
set_option maxRecDepth 100000 in
theorem emX1_setTake : Cond.selects mX1_setTake.1.cls mX1_setTake.1 mX1_setTake.1 ∈ cm_W0 := cm_inT 510 rfl rfl
set_option maxRecDepth 100000 in
theorem kmX1_setGlad : cm_mk mX1_setGlad 3 := ⟨cm_inT 515 rfl rfl, cm_inT 5 rfl rfl, by decide +kernel, ⟨by decide +kernel, by decide +kernel, by decide +kernel⟩, by decide⟩
set_option maxRecDepth 100000 in
theorem imX1_setGlad : Cond.instanceMethod mX1_setGlad.1 ∈ cm_W0 := cm_inT 513 rfl rfl
set_option maxRecDepth 100000 in
theorem emX1_setGlad : Cond.selects mX1_setGlad.1.cls mX1_setGlad.1 mX1_setGlad.1 ∈ cm_W0 := cm_inT 514 rfl rfl
set_option maxRecDepth 100000 in
theorem kmX1_placeOf : cm_mk mX1_placeOf 2 := ⟨cm_inT 360 rfl rfl, cm_inT 5 rfl rfl, by decide +kernel, ⟨by decide +kernel, by decide +kernel, by decide +kernel⟩, by decide⟩
set_option maxRecDepth 100000 in
theorem smX1_placeOf : Cond.static mX1_placeOf.1 ∈ cm_W0 := cm_inT 359 rfl rfl
set_option maxRecDepth 100000 in
theorem kmX1_names : cm_mk mX1_names 1 := ⟨cm_inT 727 rfl rfl, cm_inT 5 rfl rfl, by decide +kernel, ⟨by decide +kernel, by decide +kernel, by decide +kernel⟩, by decide⟩
set_option maxRecDepth 100000 in
theorem imX1_names : Cond.instanceMethod mX1_names.1 ∈ cm_W0 := cm_inT 725 rfl rfl
set_option maxRecDepth 100000 in
theorem emX1_names : Cond.selects mX1_names.1.cls mX1_names.1 mX1_names.1 ∈ cm_W0 := cm_inT 726 rfl rfl
set_option maxRecDepth 100000 in
theorem kmX1_addTest : cm_mk mX1_addTest 3 := ⟨cm_inT 492 rfl rfl, cm_inT 5 rfl rfl, by decide +kernel, ⟨by decide +kernel, by decide +kernel, by decide +kernel⟩, by decide⟩
set_option maxRecDepth 100000 in
theorem imX1_addTest : Cond.instanceMethod mX1_addTest.1 ∈ cm_W0 := cm_inT 490 rfl rfl
set_option maxRecDepth 100000 in
theorem emX1_addTest : Cond.selects mX1_addTest.1.cls mX1_addTest.1 mX1_addTest.1 ∈ cm_W0 := cm_inT 491 rfl rfl
set_option maxRecDepth 100000 in
theorem kmX1_addStep : cm_mk mX1_addStep 1 := ⟨cm_inT 496 rfl rfl, cm_inT 5 rfl rfl, by decide +kernel, ⟨by decide +kernel, by decide +kernel, by decide +kernel⟩, by decide⟩
set_option maxRecDepth 100000 in
theorem imX1_addStep : Cond.instanceMethod mX1_addStep.1 ∈ cm_W0 := cm_inT 494 rfl rfl
set_option maxRecDepth 100000 in
theorem emX1_addStep : Cond.selects mX1_addStep.1.cls mX1_addStep.1 mX1_addStep.1 ∈ cm_W0 := cm_inT 495 rfl rfl
set_option maxRecDepth 100000 in
theorem kmX1_barred : cm_mk mX1_barred 3 := ⟨cm_inT 569 rfl rfl, cm_inT 5 rfl rfl, by decide +kernel, ⟨by decide +kernel, by decide +kernel, by decide +kernel⟩, by decide⟩
set_option maxRecDepth 100000 in
theorem imX1_barred : Cond.instanceMethod mX1_barred.1 ∈ cm_W0 := cm_inT 567 rfl rfl
set_option maxRecDepth 100000 in
theorem emX1_barred : Cond.selects mX1_barred.1.cls mX1_barred.1 mX1_barred.1 ∈ cm_W0 := cm_inT 568 rfl rfl
set_option maxRecDepth 100000 in
theorem kmX1_push : cm_mk mX1_push 3 := ⟨cm_inT 586 rfl rfl, cm_inT 5 rfl rfl, by decide +kernel, ⟨by decide +kernel, by decide +kernel, by decide +kernel⟩, by decide⟩
set_option maxRecDepth 100000 in
theorem smX1_push : Cond.static mX1_push.1 ∈ cm_W0 := cm_inT 585 rfl rfl
set_option maxRecDepth 100000 in
theorem kmX1_negate : cm_mk mX1_negate 2 := ⟨cm_inT 589 rfl rfl, cm_inT 5 rfl rfl, by decide +kernel, ⟨by decide +kernel, by decide +kernel, by decide +kernel⟩, by decide⟩
set_option maxRecDepth 100000 in
theorem smX1_negate : Cond.static mX1_negate.1 ∈ cm_W0 := cm_inT 588 rfl rfl
set_option maxRecDepth 100000 in
theorem kmX1_join : cm_mk mX1_join 3 := ⟨cm_inT 592 rfl rfl, cm_inT 5 rfl rfl, by decide +kernel, ⟨by decide +kernel, by decide +kernel, by decide +kernel⟩, by decide⟩
set_option maxRecDepth 100000 in
theorem smX1_join : Cond.static mX1_join.1 ∈ cm_W0 := cm_inT 591 rfl rfl
set_option maxRecDepth 100000 in
theorem kmX1_tested : cm_mk mX1_tested 3 := ⟨cm_inT 572 rfl rfl, cm_inT 5 rfl rfl, by decide +kernel, ⟨by decide +kernel, by decide +kernel, by decide +kernel⟩, by decide⟩
set_option maxRecDepth 100000 in
theorem smX1_tested : Cond.static mX1_tested.1 ∈ cm_W0 := cm_inT 571 rfl rfl
set_option maxRecDepth 100000 in
theorem kmX1_compares : cm_mk mX1_compares 3 := ⟨cm_inT 576 rfl rfl, cm_inT 5 rfl rfl, by decide +kernel, ⟨by decide +kernel, by decide +kernel, by decide +kernel⟩, by decide⟩
set_option maxRecDepth 100000 in
theorem smX1_compares : Cond.static mX1_compares.1 ∈ cm_W0 := cm_inT 575 rfl rfl
set_option maxRecDepth 100000 in
theorem kmX2_init : cm_mk mX2_init 1 := ⟨cm_inT 88 rfl rfl, cm_inT 4 rfl rfl, by decide +kernel, ⟨by decide +kernel, by decide +kernel, by decide +kernel⟩, by decide⟩
set_option maxRecDepth 100000 in
theorem imX2_init : Cond.instanceMethod mX2_init.1 ∈ cm_W0 := cm_inT 87 rfl rfl
set_option maxRecDepth 100000 in
theorem kmX2_fill : cm_mk mX2_fill 1 := ⟨cm_inT 389 rfl rfl, cm_inT 4 rfl rfl, by decide +kernel, ⟨by decide +kernel, by decide +kernel, by decide +kernel⟩, by decide⟩
set_option maxRecDepth 100000 in
theorem imX2_fill : Cond.instanceMethod mX2_fill.1 ∈ cm_W0 := cm_inT 387 rfl rfl
set_option maxRecDepth 100000 in
theorem emX2_fill : Cond.selects mX2_fill.1.cls mX2_fill.1 mX2_fill.1 ∈ cm_W0 := cm_inT 388 rfl rfl
set_option maxRecDepth 100000 in
theorem kmX2_readClause : cm_mk mX2_readClause 0 := ⟨cm_inT 397 rfl rfl, cm_inT 4 rfl rfl, by decide +kernel, ⟨by decide +kernel, by decide +kernel, by decide +kernel⟩, by decide⟩
set_option maxRecDepth 100000 in
theorem imX2_readClause : Cond.instanceMethod mX2_readClause.1 ∈ cm_W0 := cm_inT 396 rfl rfl
set_option maxRecDepth 100000 in
theorem emX2_readClause : Cond.selects mX2_readClause.1.cls mX2_readClause.1 mX2_readClause.1 ∈ cm_W0 := cm_inP 3 rfl rfl
set_option maxRecDepth 100000 in
theorem kmX2_readTable : cm_mk mX2_readTable 1 := ⟨cm_inT 506 rfl rfl, cm_inT 4 rfl rfl, by decide +kernel, ⟨by decide +kernel, by decide +kernel, by decide +kernel⟩, by decide⟩
set_option maxRecDepth 100000 in
theorem imX2_readTable : Cond.instanceMethod mX2_readTable.1 ∈ cm_W0 := cm_inT 505 rfl rfl
set_option maxRecDepth 100000 in
theorem emX2_readTable : Cond.selects mX2_readTable.1.cls mX2_readTable.1 mX2_readTable.1 ∈ cm_W0 := cm_inP 13 rfl rfl
set_option maxRecDepth 100000 in
theorem kmX2_readEither : cm_mk mX2_readEither 1 := ⟨cm_inT 462 rfl rfl, cm_inT 4 rfl rfl, by decide +kernel, ⟨by decide +kernel, by decide +kernel, by decide +kernel⟩, by decide⟩
set_option maxRecDepth 100000 in
theorem imX2_readEither : Cond.instanceMethod mX2_readEither.1 ∈ cm_W0 := cm_inT 461 rfl rfl
set_option maxRecDepth 100000 in
theorem emX2_readEither : Cond.selects mX2_readEither.1.cls mX2_readEither.1 mX2_readEither.1 ∈ cm_W0 := cm_inP 6 rfl rfl
set_option maxRecDepth 100000 in
theorem kmX2_readBoth : cm_mk mX2_readBoth 1 := ⟨cm_inT 466 rfl rfl, cm_inT 4 rfl rfl, by decide +kernel, ⟨by decide +kernel, by decide +kernel, by decide +kernel⟩, by decide⟩
set_option maxRecDepth 100000 in
theorem imX2_readBoth : Cond.instanceMethod mX2_readBoth.1 ∈ cm_W0 := cm_inT 465 rfl rfl
set_option maxRecDepth 100000 in
theorem emX2_readBoth : Cond.selects mX2_readBoth.1.cls mX2_readBoth.1 mX2_readBoth.1 ∈ cm_W0 := cm_inP 7 rfl rfl
set_option maxRecDepth 100000 in
theorem kmX2_readSingle : cm_mk mX2_readSingle 1 := ⟨cm_inT 470 rfl rfl, cm_inT 4 rfl rfl, by decide +kernel, ⟨by decide +kernel, by decide +kernel, by decide +kernel⟩, by decide⟩
set_option maxRecDepth 100000 in
theorem imX2_readSingle : Cond.instanceMethod mX2_readSingle.1 ∈ cm_W0 := cm_inT 469 rfl rfl
set_option maxRecDepth 100000 in
theorem emX2_readSingle : Cond.selects mX2_readSingle.1.cls mX2_readSingle.1 mX2_readSingle.1 ∈ cm_W0 := cm_inP 8 rfl rfl
set_option maxRecDepth 100000 in
theorem kmX2_readNested : cm_mk mX2_readNested 2 := ⟨cm_inT 500 rfl rfl, cm_inT 4 rfl rfl, by decide +kernel, ⟨by decide +kernel, by decide +kernel, by decide +kernel⟩, by decide⟩
set_option maxRecDepth 100000 in
theorem imX2_readNested : Cond.instanceMethod mX2_readNested.1 ∈ cm_W0 := cm_inT 499 rfl rfl
set_option maxRecDepth 100000 in
theorem emX2_readNested : Cond.selects mX2_readNested.1.cls mX2_readNested.1 mX2_readNested.1 ∈ cm_W0 := cm_inP 12 rfl rfl
set_option maxRecDepth 100000 in
theorem kmX2_readTest : cm_mk mX2_readTest 0 := ⟨cm_inT 474 rfl rfl, cm_inT 4 rfl rfl, by decide +kernel, ⟨by decide +kernel, by decide +kernel, by decide +kernel⟩, by decide⟩
set_option maxRecDepth 100000 in
theorem imX2_readTest : Cond.instanceMethod mX2_readTest.1 ∈ cm_W0 := cm_inT 473 rfl rfl
set_option maxRecDepth 100000 in
theorem emX2_readTest : Cond.selects mX2_readTest.1.cls mX2_readTest.1 mX2_readTest.1 ∈ cm_W0 := cm_inP 9 rfl rfl
set_option maxRecDepth 100000 in
theorem kmX2_readNumber : cm_mk mX2_readNumber 1 := ⟨cm_inT 484 rfl rfl, cm_inT 4 rfl rfl, by decide +kernel, ⟨by decide +kernel, by decide +kernel, by decide +kernel⟩, by decide⟩
set_option maxRecDepth 100000 in
theorem imX2_readNumber : Cond.instanceMethod mX2_readNumber.1 ∈ cm_W0 := cm_inT 483 rfl rfl
set_option maxRecDepth 100000 in
theorem emX2_readNumber : Cond.selects mX2_readNumber.1.cls mX2_readNumber.1 mX2_readNumber.1 ∈ cm_W0 := cm_inP 11 rfl rfl
set_option maxRecDepth 100000 in
theorem kmX2_isFigure : cm_mk mX2_isFigure 1 := ⟨cm_inT 488 rfl rfl, cm_inT 4 rfl rfl, by decide +kernel, ⟨by decide +kernel, by decide +kernel, by decide +kernel⟩, by decide⟩
set_option maxRecDepth 100000 in
theorem smX2_isFigure : Cond.static mX2_isFigure.1 ∈ cm_W0 := cm_inT 487 rfl rfl
set_option maxRecDepth 100000 in
theorem kmX2_readWord : cm_mk mX2_readWord 1 := ⟨cm_inT 406 rfl rfl, cm_inT 4 rfl rfl, by decide +kernel, ⟨by decide +kernel, by decide +kernel, by decide +kernel⟩, by decide⟩
set_option maxRecDepth 100000 in
theorem imX2_readWord : Cond.instanceMethod mX2_readWord.1 ∈ cm_W0 := cm_inT 405 rfl rfl
set_option maxRecDepth 100000 in
theorem emX2_readWord : Cond.selects mX2_readWord.1.cls mX2_readWord.1 mX2_readWord.1 ∈ cm_W0 := cm_inP 4 rfl rfl
set_option maxRecDepth 100000 in
theorem kmX2_readSign : cm_mk mX2_readSign 1 := ⟨cm_inT 458 rfl rfl, cm_inT 4 rfl rfl, by decide +kernel, ⟨by decide +kernel, by decide +kernel, by decide +kernel⟩, by decide⟩
set_option maxRecDepth 100000 in
theorem imX2_readSign : Cond.instanceMethod mX2_readSign.1 ∈ cm_W0 := cm_inT 457 rfl rfl
set_option maxRecDepth 100000 in
theorem emX2_readSign : Cond.selects mX2_readSign.1.cls mX2_readSign.1 mX2_readSign.1 ∈ cm_W0 := cm_inP 5 rfl rfl
set_option maxRecDepth 100000 in
theorem kmX2_readOneOf : cm_mk mX2_readOneOf 1 := ⟨cm_inT 479 rfl rfl, cm_inT 4 rfl rfl, by decide +kernel, ⟨by decide +kernel, by decide +kernel, by decide +kernel⟩, by decide⟩
set_option maxRecDepth 100000 in
theorem imX2_readOneOf : Cond.instanceMethod mX2_readOneOf.1 ∈ cm_W0 := cm_inT 478 rfl rfl
set_option maxRecDepth 100000 in
theorem emX2_readOneOf : Cond.selects mX2_readOneOf.1.cls mX2_readOneOf.1 mX2_readOneOf.1 ∈ cm_W0 := cm_inP 10 rfl rfl
set_option maxRecDepth 100000 in
theorem kmX3_init : cm_mk mX3_init 0 := ⟨cm_inT 34 rfl rfl, cm_inT 2 rfl rfl, by decide +kernel, ⟨by decide +kernel, by decide +kernel, by decide +kernel⟩, by decide⟩
set_option maxRecDepth 100000 in
theorem imX3_init : Cond.instanceMethod mX3_init.1 ∈ cm_W0 := cm_inT 33 rfl rfl
set_option maxRecDepth 100000 in
theorem kmX3_thingAt : cm_mk mX3_thingAt 1 := ⟨cm_inT 349 rfl rfl, cm_inT 2 rfl rfl, by decide +kernel, ⟨by decide +kernel, by decide +kernel, by decide +kernel⟩, by decide⟩
set_option maxRecDepth 100000 in
theorem imX3_thingAt : Cond.instanceMethod mX3_thingAt.1 ∈ cm_W0 := cm_inT 347 rfl rfl
set_option maxRecDepth 100000 in
theorem emX3_thingAt : Cond.selects mX3_thingAt.1.cls mX3_thingAt.1 mX3_thingAt.1 ∈ cm_W0 := cm_inT 348 rfl rfl
set_option maxRecDepth 100000 in
theorem kmX3_hasWay : cm_mk mX3_hasWay 1 := ⟨cm_inT 546 rfl rfl, cm_inT 2 rfl rfl, by decide +kernel, ⟨by decide +kernel, by decide +kernel, by decide +kernel⟩, by decide⟩
set_option maxRecDepth 100000 in
theorem imX3_hasWay : Cond.instanceMethod mX3_hasWay.1 ∈ cm_W0 := cm_inT 544 rfl rfl
set_option maxRecDepth 100000 in
theorem emX3_hasWay : Cond.selects mX3_hasWay.1.cls mX3_hasWay.1 mX3_hasWay.1 ∈ cm_W0 := cm_inT 545 rfl rfl
set_option maxRecDepth 100000 in
theorem kmX3_hasRoomFor : cm_mk mX3_hasRoomFor 1 := ⟨cm_inT 292 rfl rfl, cm_inT 2 rfl rfl, by decide +kernel, ⟨by decide +kernel, by decide +kernel, by decide +kernel⟩, by decide⟩
set_option maxRecDepth 100000 in
theorem imX3_hasRoomFor : Cond.instanceMethod mX3_hasRoomFor.1 ∈ cm_W0 := cm_inT 290 rfl rfl
set_option maxRecDepth 100000 in
theorem emX3_hasRoomFor : Cond.selects mX3_hasRoomFor.1.cls mX3_hasRoomFor.1 mX3_hasRoomFor.1 ∈ cm_W0 := cm_inT 291 rfl rfl
set_option maxRecDepth 100000 in
theorem kmX3_add : cm_mk mX3_add 2 := ⟨cm_inT 296 rfl rfl, cm_inT 2 rfl rfl, by decide +kernel, ⟨by decide +kernel, by decide +kernel, by decide +kernel⟩, by decide⟩
set_option maxRecDepth 100000 in
theorem imX3_add : Cond.instanceMethod mX3_add.1 ∈ cm_W0 := cm_inT 294 rfl rfl
set_option maxRecDepth 100000 in
theorem emX3_add : Cond.selects mX3_add.1.cls mX3_add.1 mX3_add.1 ∈ cm_W0 := cm_inT 295 rfl rfl
set_option maxRecDepth 100000 in
theorem kmX3_addRows : cm_mk mX3_addRows 3 := ⟨cm_inT 314 rfl rfl, cm_inT 2 rfl rfl, by decide +kernel, ⟨by decide +kernel, by decide +kernel, by decide +kernel⟩, by decide⟩
set_option maxRecDepth 100000 in
theorem imX3_addRows : Cond.instanceMethod mX3_addRows.1 ∈ cm_W0 := cm_inT 313 rfl rfl
set_option maxRecDepth 100000 in
theorem emX3_addRows : Cond.selects mX3_addRows.1.cls mX3_addRows.1 mX3_addRows.1 ∈ cm_W0 := cm_inP 1 rfl rfl
set_option maxRecDepth 100000 in
theorem kmX3_spread : cm_mk mX3_spread 2 := ⟨cm_inT 310 rfl rfl, cm_inT 2 rfl rfl, by decide +kernel, ⟨by decide +kernel, by decide +kernel, by decide +kernel⟩, by decide⟩
set_option maxRecDepth 100000 in
theorem imX3_spread : Cond.instanceMethod mX3_spread.1 ∈ cm_W0 := cm_inT 309 rfl rfl
set_option maxRecDepth 100000 in
theorem emX3_spread : Cond.selects mX3_spread.1.cls mX3_spread.1 mX3_spread.1 ∈ cm_W0 := cm_inP 0 rfl rfl
set_option maxRecDepth 100000 in
theorem kmX3_lawfulWays : cm_mk mX3_lawfulWays 0 := ⟨cm_inT 565 rfl rfl, cm_inT 2 rfl rfl, by decide +kernel, ⟨by decide +kernel, by decide +kernel, by decide +kernel⟩, by decide⟩
set_option maxRecDepth 100000 in
theorem imX3_lawfulWays : Cond.instanceMethod mX3_lawfulWays.1 ∈ cm_W0 := cm_inT 563 rfl rfl
set_option maxRecDepth 100000 in
theorem emX3_lawfulWays : Cond.selects mX3_lawfulWays.1.cls mX3_lawfulWays.1 mX3_lawfulWays.1 ∈ cm_W0 := cm_inT 564 rfl rfl
set_option maxRecDepth 100000 in
theorem kmX3_waysWith : cm_mk mX3_waysWith 2 := ⟨cm_inT 581 rfl rfl, cm_inT 2 rfl rfl, by decide +kernel, ⟨by decide +kernel, by decide +kernel, by decide +kernel⟩, by decide⟩
set_option maxRecDepth 100000 in
theorem imX3_waysWith : Cond.instanceMethod mX3_waysWith.1 ∈ cm_W0 := cm_inT 579 rfl rfl
set_option maxRecDepth 100000 in
theorem emX3_waysWith : Cond.selects mX3_waysWith.1.cls mX3_waysWith.1 mX3_waysWith.1 ∈ cm_W0 := cm_inT 580 rfl rfl
set_option maxRecDepth 100000 in
theorem kmX3_afterWay : cm_mk mX3_afterWay 1 := ⟨cm_inT 629 rfl rfl, cm_inT 2 rfl rfl, by decide +kernel, ⟨by decide +kernel, by decide +kernel, by decide +kernel⟩, by decide⟩
set_option maxRecDepth 100000 in
theorem imX3_afterWay : Cond.instanceMethod mX3_afterWay.1 ∈ cm_W0 := cm_inT 627 rfl rfl
set_option maxRecDepth 100000 in
theorem emX3_afterWay : Cond.selects mX3_afterWay.1.cls mX3_afterWay.1 mX3_afterWay.1 ∈ cm_W0 := cm_inT 628 rfl rfl
set_option maxRecDepth 100000 in
theorem kmX3_afterAny : cm_mk mX3_afterAny 1 := ⟨cm_inT 661 rfl rfl, cm_inT 2 rfl rfl, by decide +kernel, ⟨by decide +kernel, by decide +kernel, by decide +kernel⟩, by decide⟩
set_option maxRecDepth 100000 in
theorem imX3_afterAny : Cond.instanceMethod mX3_afterAny.1 ∈ cm_W0 := cm_inT 659 rfl rfl
set_option maxRecDepth 100000 in
theorem emX3_afterAny : Cond.selects mX3_afterAny.1.cls mX3_afterAny.1 mX3_afterAny.1 ∈ cm_W0 := cm_inT 660 rfl rfl
set_option maxRecDepth 100000 in
theorem kmX3_beforeAny : cm_mk mX3_beforeAny 1 := ⟨cm_inT 677 rfl rfl, cm_inT 2 rfl rfl, by decide +kernel, ⟨by decide +kernel, by decide +kernel, by decide +kernel⟩, by decide⟩
set_option maxRecDepth 100000 in
theorem imX3_beforeAny : Cond.instanceMethod mX3_beforeAny.1 ∈ cm_W0 := cm_inT 675 rfl rfl
set_option maxRecDepth 100000 in
theorem emX3_beforeAny : Cond.selects mX3_beforeAny.1.cls mX3_beforeAny.1 mX3_beforeAny.1 ∈ cm_W0 := cm_inT 676 rfl rfl
set_option maxRecDepth 100000 in
theorem kmX3_joined : cm_mk mX3_joined 2 := ⟨cm_inT 665 rfl rfl, cm_inT 2 rfl rfl, by decide +kernel, ⟨by decide +kernel, by decide +kernel, by decide +kernel⟩, by decide⟩
set_option maxRecDepth 100000 in
theorem imX3_joined : Cond.instanceMethod mX3_joined.1 ∈ cm_W0 := cm_inT 664 rfl rfl
set_option maxRecDepth 100000 in
theorem emX3_joined : Cond.selects mX3_joined.1.cls mX3_joined.1 mX3_joined.1 ∈ cm_W0 := cm_inP 19 rfl rfl
set_option maxRecDepth 100000 in
theorem kmX3_changes : cm_mk mX3_changes 2 := ⟨cm_inT 689 rfl rfl, cm_inT 2 rfl rfl, by decide +kernel, ⟨by decide +kernel, by decide +kernel, by decide +kernel⟩, by decide⟩
set_option maxRecDepth 100000 in
theorem imX3_changes : Cond.instanceMethod mX3_changes.1 ∈ cm_W0 := cm_inT 687 rfl rfl
set_option maxRecDepth 100000 in
theorem emX3_changes : Cond.selects mX3_changes.1.cls mX3_changes.1 mX3_changes.1 ∈ cm_W0 := cm_inT 688 rfl rfl
set_option maxRecDepth 100000 in
theorem kmX3_sum : cm_mk mX3_sum 4 := ⟨cm_inT 561 rfl rfl, cm_inT 2 rfl rfl, by decide +kernel, ⟨by decide +kernel, by decide +kernel, by decide +kernel⟩, by decide⟩
set_option maxRecDepth 100000 in
theorem imX3_sum : Cond.instanceMethod mX3_sum.1 ∈ cm_W0 := cm_inT 559 rfl rfl
set_option maxRecDepth 100000 in
theorem emX3_sum : Cond.selects mX3_sum.1.cls mX3_sum.1 mX3_sum.1 ∈ cm_W0 := cm_inT 560 rfl rfl
set_option maxRecDepth 100000 in
theorem kmX4_isKind : cm_mk mX4_isKind 1 := ⟨cm_inT 288 rfl rfl, cm_inT 11 rfl rfl, by decide +kernel, ⟨by decide +kernel, by decide +kernel, by decide +kernel⟩, by decide⟩
set_option maxRecDepth 100000 in
theorem smX4_isKind : Cond.static mX4_isKind.1 ∈ cm_W0 := cm_inT 287 rfl rfl
set_option maxRecDepth 100000 in
theorem kmX4_above : cm_mk mX4_above 1 := ⟨cm_inT 303 rfl rfl, cm_inT 11 rfl rfl, by decide +kernel, ⟨by decide +kernel, by decide +kernel, by decide +kernel⟩, by decide⟩
set_option maxRecDepth 100000 in
theorem smX4_above : Cond.static mX4_above.1 ∈ cm_W0 := cm_inT 302 rfl rfl
set_option maxRecDepth 100000 in
theorem kmX4_isUnder : cm_mk mX4_isUnder 2 := ⟨cm_inT 300 rfl rfl, cm_inT 11 rfl rfl, by decide +kernel, ⟨by decide +kernel, by decide +kernel, by decide +kernel⟩, by decide⟩
set_option maxRecDepth 100000 in
theorem smX4_isUnder : Cond.static mX4_isUnder.1 ∈ cm_W0 := cm_inT 299 rfl rfl
set_option maxRecDepth 100000 in
theorem kmX4_mayFollow : cm_mk mX4_mayFollow 4 := ⟨cm_inT 317 rfl rfl, cm_inT 11 rfl rfl, by decide +kernel, ⟨by decide +kernel, by decide +kernel, by decide +kernel⟩, by decide⟩
set_option maxRecDepth 100000 in
theorem smX4_mayFollow : Cond.static mX4_mayFollow.1 ∈ cm_W0 := cm_inT 316 rfl rfl
set_option maxRecDepth 100000 in
theorem kmX4_mayFollowSwitch : cm_mk mX4_mayFollowSwitch 2 := ⟨cm_inT 320 rfl rfl, cm_inT 11 rfl rfl, by decide +kernel, ⟨by decide +kernel, by decide +kernel, by decide +kernel⟩, by decide⟩
set_option maxRecDepth 100000 in
theorem smX4_mayFollowSwitch : Cond.static mX4_mayFollowSwitch.1 ∈ cm_W0 := cm_inT 319 rfl rfl
set_option maxRecDepth 100000 in
theorem kmX5_init : cm_mk mX5_init 0 := ⟨cm_inT 137 rfl rfl, cm_inT 6 rfl rfl, by decide +kernel, ⟨by decide +kernel, by decide +kernel, by decide +kernel⟩, by decide⟩
set_option maxRecDepth 100000 in
theorem imX5_init : Cond.instanceMethod mX5_init.1 ∈ cm_W0 := cm_inT 136 rfl rfl
set_option maxRecDepth 100000 in
theorem kmX5_has : cm_mk mX5_has 1 := ⟨cm_inT 542 rfl rfl, cm_inT 6 rfl rfl, by decide +kernel, ⟨by decide +kernel, by decide +kernel, by decide +kernel⟩, by decide⟩
set_option maxRecDepth 100000 in
theorem imX5_has : Cond.instanceMethod mX5_has.1 ∈ cm_W0 := cm_inT 540 rfl rfl
set_option maxRecDepth 100000 in
theorem emX5_has : Cond.selects mX5_has.1.cls mX5_has.1 mX5_has.1 ∈ cm_W0 := cm_inT 541 rfl rfl
set_option maxRecDepth 100000 in
theorem kmX5_wattsAt : cm_mk mX5_wattsAt 1 := ⟨cm_inT 597 rfl rfl, cm_inT 6 rfl rfl, by decide +kernel, ⟨by decide +kernel, by decide +kernel, by decide +kernel⟩, by decide⟩
set_option maxRecDepth 100000 in
theorem imX5_wattsAt : Cond.instanceMethod mX5_wattsAt.1 ∈ cm_W0 := cm_inT 595 rfl rfl
set_option maxRecDepth 100000 in
theorem emX5_wattsAt : Cond.selects mX5_wattsAt.1.cls mX5_wattsAt.1 mX5_wattsAt.1 ∈ cm_W0 := cm_inT 596 rfl rfl
set_option maxRecDepth 100000 in
theorem kmX5_add : cm_mk mX5_add 1 := ⟨cm_inT 530 rfl rfl, cm_inT 6 rfl rfl, by decide +kernel, ⟨by decide +kernel, by decide +kernel, by decide +kernel⟩, by decide⟩
set_option maxRecDepth 100000 in
theorem imX5_add : Cond.instanceMethod mX5_add.1 ∈ cm_W0 := cm_inT 528 rfl rfl
set_option maxRecDepth 100000 in
theorem emX5_add : Cond.selects mX5_add.1.cls mX5_add.1 mX5_add.1 ∈ cm_W0 := cm_inT 529 rfl rfl
set_option maxRecDepth 100000 in
theorem kmX5_copy : cm_mk mX5_copy 1 := ⟨cm_inT 792 rfl rfl, cm_inT 6 rfl rfl, by decide +kernel, ⟨by decide +kernel, by decide +kernel, by decide +kernel⟩, by decide⟩
set_option maxRecDepth 100000 in
theorem imX5_copy : Cond.instanceMethod mX5_copy.1 ∈ cm_W0 := cm_inT 790 rfl rfl
set_option maxRecDepth 100000 in
theorem emX5_copy : Cond.selects mX5_copy.1.cls mX5_copy.1 mX5_copy.1 ∈ cm_W0 := cm_inT 791 rfl rfl
set_option maxRecDepth 100000 in
theorem kmX6_init : cm_mk mX6_init 0 := ⟨cm_inT 219 rfl rfl, cm_inT 9 rfl rfl, by decide +kernel, ⟨by decide +kernel, by decide +kernel, by decide +kernel⟩, by decide⟩
set_option maxRecDepth 100000 in
theorem imX6_init : Cond.instanceMethod mX6_init.1 ∈ cm_W0 := cm_inT 218 rfl rfl
set_option maxRecDepth 100000 in
theorem kmX6_isNothing : cm_mk mX6_isNothing 0 := ⟨cm_inT 771 rfl rfl, cm_inT 9 rfl rfl, by decide +kernel, ⟨by decide +kernel, by decide +kernel, by decide +kernel⟩, by decide⟩
set_option maxRecDepth 100000 in
theorem imX6_isNothing : Cond.instanceMethod mX6_isNothing.1 ∈ cm_W0 := cm_inT 769 rfl rfl
set_option maxRecDepth 100000 in
theorem emX6_isNothing : Cond.selects mX6_isNothing.1.cls mX6_isNothing.1 mX6_isNothing.1 ∈ cm_W0 := cm_inT 770 rfl rfl
set_option maxRecDepth 100000 in
theorem kmX6_become : cm_mk mX6_become 2 := ⟨cm_inT 849 rfl rfl, cm_inT 9 rfl rfl, by decide +kernel, ⟨by decide +kernel, by decide +kernel, by decide +kernel⟩, by decide⟩
set_option maxRecDepth 100000 in
theorem imX6_become : Cond.instanceMethod mX6_become.1 ∈ cm_W0 := cm_inT 847 rfl rfl
set_option maxRecDepth 100000 in
theorem emX6_become : Cond.selects mX6_become.1.cls mX6_become.1 mX6_become.1 ∈ cm_W0 := cm_inT 848 rfl rfl
set_option maxRecDepth 100000 in
theorem kmX6_has : cm_mk mX6_has 1 := ⟨cm_inT 779 rfl rfl, cm_inT 9 rfl rfl, by decide +kernel, ⟨by decide +kernel, by decide +kernel, by decide +kernel⟩, by decide⟩
set_option maxRecDepth 100000 in
theorem imX6_has : Cond.instanceMethod mX6_has.1 ∈ cm_W0 := cm_inT 777 rfl rfl
set_option maxRecDepth 100000 in
theorem emX6_has : Cond.selects mX6_has.1.cls mX6_has.1 mX6_has.1 ∈ cm_W0 := cm_inT 778 rfl rfl
set_option maxRecDepth 100000 in
theorem kmX6_hasRun : cm_mk mX6_hasRun 2 := ⟨cm_inT 876 rfl rfl, cm_inT 9 rfl rfl, by decide +kernel, ⟨by decide +kernel, by decide +kernel, by decide +kernel⟩, by decide⟩
set_option maxRecDepth 100000 in
theorem imX6_hasRun : Cond.instanceMethod mX6_hasRun.1 ∈ cm_W0 := cm_inT 874 rfl rfl
set_option maxRecDepth 100000 in
theorem emX6_hasRun : Cond.selects mX6_hasRun.1.cls mX6_hasRun.1 mX6_hasRun.1 ∈ cm_W0 := cm_inT 875 rfl rfl
set_option maxRecDepth 100000 in
theorem kmX6_itemAt : cm_mk mX6_itemAt 1 := ⟨cm_inT 783 rfl rfl, cm_inT 9 rfl rfl, by decide +kernel, ⟨by decide +kernel, by decide +kernel, by decide +kernel⟩, by decide⟩
set_option maxRecDepth 100000 in
theorem imX6_itemAt : Cond.instanceMethod mX6_itemAt.1 ∈ cm_W0 := cm_inT 781 rfl rfl
set_option maxRecDepth 100000 in
theorem emX6_itemAt : Cond.selects mX6_itemAt.1.cls mX6_itemAt.1 mX6_itemAt.1 ∈ cm_W0 := cm_inT 782 rfl rfl
set_option maxRecDepth 100000 in
theorem kmX6_put : cm_mk mX6_put 2 := ⟨cm_inT 858 rfl rfl, cm_inT 9 rfl rfl, by decide +kernel, ⟨by decide +kernel, by decide +kernel, by decide +kernel⟩, by decide⟩
set_option maxRecDepth 100000 in
theorem imX6_put : Cond.instanceMethod mX6_put.1 ∈ cm_W0 := cm_inT 856 rfl rfl
set_option maxRecDepth 100000 in
theorem emX6_put : Cond.selects mX6_put.1.cls mX6_put.1 mX6_put.1 ∈ cm_W0 := cm_inT 857 rfl rfl
set_option maxRecDepth 100000 in
theorem kmX6_cut : cm_mk mX6_cut 1 := ⟨cm_inT 862 rfl rfl, cm_inT 9 rfl rfl, by decide +kernel, ⟨by decide +kernel, by decide +kernel, by decide +kernel⟩, by decide⟩
set_option maxRecDepth 100000 in
theorem imX6_cut : Cond.instanceMethod mX6_cut.1 ∈ cm_W0 := cm_inT 861 rfl rfl
set_option maxRecDepth 100000 in
theorem emX6_cut : Cond.selects mX6_cut.1.cls mX6_cut.1 mX6_cut.1 ∈ cm_W0 := cm_inP 26 rfl rfl
set_option maxRecDepth 100000 in
theorem kmX7_init : cm_mk mX7_init 2 := ⟨cm_inT 152 rfl rfl, cm_inT 7 rfl rfl, by decide +kernel, ⟨by decide +kernel, by decide +kernel, by decide +kernel⟩, by decide⟩
set_option maxRecDepth 100000 in
theorem imX7_init : Cond.instanceMethod mX7_init.1 ∈ cm_W0 := cm_inT 151 rfl rfl
set_option maxRecDepth 100000 in
theorem kmX7_lay : cm_mk mX7_lay 1 := ⟨cm_inT 554 rfl rfl, cm_inT 7 rfl rfl, by decide +kernel, ⟨by decide +kernel, by decide +kernel, by decide +kernel⟩, by decide⟩
set_option maxRecDepth 100000 in
theorem imX7_lay : Cond.instanceMethod mX7_lay.1 ∈ cm_W0 := cm_inT 552 rfl rfl
set_option maxRecDepth 100000 in
theorem emX7_lay : Cond.selects mX7_lay.1.cls mX7_lay.1 mX7_lay.1 ∈ cm_W0 := cm_inT 553 rfl rfl
set_option maxRecDepth 100000 in
theorem kmX7_near : cm_mk mX7_near 4 := ⟨cm_inT 602 rfl rfl, cm_inT 7 rfl rfl, by decide +kernel, ⟨by decide +kernel, by decide +kernel, by decide +kernel⟩, by decide⟩
set_option maxRecDepth 100000 in
theorem imX7_near : Cond.instanceMethod mX7_near.1 ∈ cm_W0 := cm_inT 601 rfl rfl
set_option maxRecDepth 100000 in
theorem emX7_near : Cond.selects mX7_near.1.cls mX7_near.1 mX7_near.1 ∈ cm_W0 := cm_inP 16 rfl rfl
set_option maxRecDepth 100000 in
theorem kmX7_isIn : cm_mk mX7_isIn 2 := ⟨cm_inT 605 rfl rfl, cm_inT 7 rfl rfl, by decide +kernel, ⟨by decide +kernel, by decide +kernel, by decide +kernel⟩, by decide⟩
set_option maxRecDepth 100000 in
theorem smX7_isIn : Cond.static mX7_isIn.1 ∈ cm_W0 := cm_inT 604 rfl rfl
set_option maxRecDepth 100000 in
theorem kmX7_fitsAt : cm_mk mX7_fitsAt 2 := ⟨cm_inT 612 rfl rfl, cm_inT 7 rfl rfl, by decide +kernel, ⟨by decide +kernel, by decide +kernel, by decide +kernel⟩, by decide⟩
set_option maxRecDepth 100000 in
theorem imX7_fitsAt : Cond.instanceMethod mX7_fitsAt.1 ∈ cm_W0 := cm_inT 610 rfl rfl
set_option maxRecDepth 100000 in
theorem emX7_fitsAt : Cond.selects mX7_fitsAt.1.cls mX7_fitsAt.1 mX7_fitsAt.1 ∈ cm_W0 := cm_inT 611 rfl rfl
set_option maxRecDepth 100000 in
theorem kmX7_howManyFit : cm_mk mX7_howManyFit 1 := ⟨cm_inT 639 rfl rfl, cm_inT 7 rfl rfl, by decide +kernel, ⟨by decide +kernel, by decide +kernel, by decide +kernel⟩, by decide⟩
set_option maxRecDepth 100000 in
theorem imX7_howManyFit : Cond.instanceMethod mX7_howManyFit.1 ∈ cm_W0 := cm_inT 637 rfl rfl
set_option maxRecDepth 100000 in
theorem emX7_howManyFit : Cond.selects mX7_howManyFit.1.cls mX7_howManyFit.1 mX7_howManyFit.1 ∈ cm_W0 := cm_inT 638 rfl rfl
set_option maxRecDepth 100000 in
theorem kmX7_howMany : cm_mk mX7_howMany 0 := ⟨cm_inT 621 rfl rfl, cm_inT 7 rfl rfl, by decide +kernel, ⟨by decide +kernel, by decide +kernel, by decide +kernel⟩, by decide⟩
set_option maxRecDepth 100000 in
theorem imX7_howMany : Cond.instanceMethod mX7_howMany.1 ∈ cm_W0 := cm_inT 619 rfl rfl
set_option maxRecDepth 100000 in
theorem emX7_howMany : Cond.selects mX7_howMany.1.cls mX7_howMany.1 mX7_howMany.1 ∈ cm_W0 := cm_inT 620 rfl rfl
set_option maxRecDepth 100000 in
theorem kmX7_countStep : cm_mk mX7_countStep 1 := ⟨cm_inT 625 rfl rfl, cm_inT 7 rfl rfl, by decide +kernel, ⟨by decide +kernel, by decide +kernel, by decide +kernel⟩, by decide⟩
set_option maxRecDepth 100000 in
theorem imX7_countStep : Cond.instanceMethod mX7_countStep.1 ∈ cm_W0 := cm_inT 624 rfl rfl
set_option maxRecDepth 100000 in
theorem emX7_countStep : Cond.selects mX7_countStep.1.cls mX7_countStep.1 mX7_countStep.1 ∈ cm_W0 := cm_inP 17 rfl rfl
set_option maxRecDepth 100000 in
theorem kmX7_reach : cm_mk mX7_reach 0 := ⟨cm_inT 657 rfl rfl, cm_inT 7 rfl rfl, by decide +kernel, ⟨by decide +kernel, by decide +kernel, by decide +kernel⟩, by decide⟩
set_option maxRecDepth 100000 in
theorem imX7_reach : Cond.instanceMethod mX7_reach.1 ∈ cm_W0 := cm_inT 656 rfl rfl
set_option maxRecDepth 100000 in
theorem emX7_reach : Cond.selects mX7_reach.1.cls mX7_reach.1 mX7_reach.1 ∈ cm_W0 := cm_inP 18 rfl rfl
set_option maxRecDepth 100000 in
theorem kmX7_trimBackTo : cm_mk mX7_trimBackTo 1 := ⟨cm_inT 673 rfl rfl, cm_inT 7 rfl rfl, by decide +kernel, ⟨by decide +kernel, by decide +kernel, by decide +kernel⟩, by decide⟩
set_option maxRecDepth 100000 in
theorem imX7_trimBackTo : Cond.instanceMethod mX7_trimBackTo.1 ∈ cm_W0 := cm_inT 672 rfl rfl
set_option maxRecDepth 100000 in
theorem emX7_trimBackTo : Cond.selects mX7_trimBackTo.1.cls mX7_trimBackTo.1 mX7_trimBackTo.1 ∈ cm_W0 := cm_inP 21 rfl rfl
set_option maxRecDepth 100000 in
theorem kmX7_findCheapest : cm_mk mX7_findCheapest 1 := ⟨cm_inT 669 rfl rfl, cm_inT 7 rfl rfl, by decide +kernel, ⟨by decide +kernel, by decide +kernel, by decide +kernel⟩, by decide⟩
set_option maxRecDepth 100000 in
theorem imX7_findCheapest : Cond.instanceMethod mX7_findCheapest.1 ∈ cm_W0 := cm_inT 668 rfl rfl
set_option maxRecDepth 100000 in
theorem emX7_findCheapest : Cond.selects mX7_findCheapest.1.cls mX7_findCheapest.1 mX7_findCheapest.1 ∈ cm_W0 := cm_inP 20 rfl rfl
set_option maxRecDepth 100000 in
theorem kmX7_bestNext : cm_mk mX7_bestNext 3 := ⟨cm_inT 681 rfl rfl, cm_inT 7 rfl rfl, by decide +kernel, ⟨by decide +kernel, by decide +kernel, by decide +kernel⟩, by decide⟩
set_option maxRecDepth 100000 in
theorem imX7_bestNext : Cond.instanceMethod mX7_bestNext.1 ∈ cm_W0 := cm_inT 680 rfl rfl
set_option maxRecDepth 100000 in
theorem emX7_bestNext : Cond.selects mX7_bestNext.1.cls mX7_bestNext.1 mX7_bestNext.1 ∈ cm_W0 := cm_inP 22 rfl rfl
set_option maxRecDepth 100000 in
theorem kmX7_costOf : cm_mk mX7_costOf 4 := ⟨cm_inT 685 rfl rfl, cm_inT 7 rfl rfl, by decide +kernel, ⟨by decide +kernel, by decide +kernel, by decide +kernel⟩, by decide⟩
set_option maxRecDepth 100000 in
theorem imX7_costOf : Cond.instanceMethod mX7_costOf.1 ∈ cm_W0 := cm_inT 684 rfl rfl
set_option maxRecDepth 100000 in
theorem emX7_costOf : Cond.selects mX7_costOf.1.cls mX7_costOf.1 mX7_costOf.1 ∈ cm_W0 := cm_inP 23 rfl rfl
set_option maxRecDepth 100000 in
theorem kmX7_ofFewest : cm_mk mX7_ofFewest 1 := ⟨cm_inT 653 rfl rfl, cm_inT 7 rfl rfl, by decide +kernel, ⟨by decide +kernel, by decide +kernel, by decide +kernel⟩, by decide⟩
set_option maxRecDepth 100000 in
theorem imX7_ofFewest : Cond.instanceMethod mX7_ofFewest.1 ∈ cm_W0 := cm_inT 651 rfl rfl
set_option maxRecDepth 100000 in
theorem emX7_ofFewest : Cond.selects mX7_ofFewest.1.cls mX7_ofFewest.1 mX7_ofFewest.1 ∈ cm_W0 := cm_inT 652 rfl rfl
set_option maxRecDepth 100000 in
theorem kmX7_ofGladdest : cm_mk mX7_ofGladdest 1 := ⟨cm_inT 703 rfl rfl, cm_inT 7 rfl rfl, by decide +kernel, ⟨by decide +kernel, by decide +kernel, by decide +kernel⟩, by decide⟩
set_option maxRecDepth 100000 in
theorem imX7_ofGladdest : Cond.instanceMethod mX7_ofGladdest.1 ∈ cm_W0 := cm_inT 701 rfl rfl
set_option maxRecDepth 100000 in
theorem emX7_ofGladdest : Cond.selects mX7_ofGladdest.1.cls mX7_ofGladdest.1 mX7_ofGladdest.1 ∈ cm_W0 := cm_inT 702 rfl rfl
set_option maxRecDepth 100000 in
theorem kmX7_partOf : cm_mk mX7_partOf 2 := ⟨cm_inT 743 rfl rfl, cm_inT 7 rfl rfl, by decide +kernel, ⟨by decide +kernel, by decide +kernel, by decide +kernel⟩, by decide⟩
set_option maxRecDepth 100000 in
theorem imX7_partOf : Cond.instanceMethod mX7_partOf.1 ∈ cm_W0 := cm_inT 741 rfl rfl
set_option maxRecDepth 100000 in
theorem emX7_partOf : Cond.selects mX7_partOf.1.cls mX7_partOf.1 mX7_partOf.1 ∈ cm_W0 := cm_inT 742 rfl rfl
set_option maxRecDepth 100000 in
theorem kmX7_thingsOn : cm_mk mX7_thingsOn 2 := ⟨cm_inT 714 rfl rfl, cm_inT 7 rfl rfl, by decide +kernel, ⟨by decide +kernel, by decide +kernel, by decide +kernel⟩, by decide⟩
set_option maxRecDepth 100000 in
theorem imX7_thingsOn : Cond.instanceMethod mX7_thingsOn.1 ∈ cm_W0 := cm_inT 712 rfl rfl
set_option maxRecDepth 100000 in
theorem emX7_thingsOn : Cond.selects mX7_thingsOn.1.cls mX7_thingsOn.1 mX7_thingsOn.1 ∈ cm_W0 := cm_inT 713 rfl rfl
set_option maxRecDepth 100000 in
theorem kmX7_leastSecret : cm_mk mX7_leastSecret 0 := ⟨cm_inT 735 rfl rfl, cm_inT 7 rfl rfl, by decide +kernel, ⟨by decide +kernel, by decide +kernel, by decide +kernel⟩, by decide⟩
set_option maxRecDepth 100000 in
theorem imX7_leastSecret : Cond.instanceMethod mX7_leastSecret.1 ∈ cm_W0 := cm_inT 733 rfl rfl
set_option maxRecDepth 100000 in
theorem emX7_leastSecret : Cond.selects mX7_leastSecret.1.cls mX7_leastSecret.1 mX7_leastSecret.1 ∈ cm_W0 := cm_inT 734 rfl rfl
set_option maxRecDepth 100000 in
theorem kmX7_wiredSets : cm_mk mX7_wiredSets 2 := ⟨cm_inT 751 rfl rfl, cm_inT 7 rfl rfl, by decide +kernel, ⟨by decide +kernel, by decide +kernel, by decide +kernel⟩, by decide⟩
set_option maxRecDepth 100000 in
theorem imX7_wiredSets : Cond.instanceMethod mX7_wiredSets.1 ∈ cm_W0 := cm_inT 749 rfl rfl
set_option maxRecDepth 100000 in
theorem emX7_wiredSets : Cond.selects mX7_wiredSets.1.cls mX7_wiredSets.1 mX7_wiredSets.1 ∈ cm_W0 := cm_inT 750 rfl rfl
set_option maxRecDepth 100000 in
theorem kmX7_leastCoarse : cm_mk mX7_leastCoarse 2 := ⟨cm_inT 759 rfl rfl, cm_inT 7 rfl rfl, by decide +kernel, ⟨by decide +kernel, by decide +kernel, by decide +kernel⟩, by decide⟩
set_option maxRecDepth 100000 in
theorem imX7_leastCoarse : Cond.instanceMethod mX7_leastCoarse.1 ∈ cm_W0 := cm_inT 757 rfl rfl
set_option maxRecDepth 100000 in
theorem emX7_leastCoarse : Cond.selects mX7_leastCoarse.1.cls mX7_leastCoarse.1 mX7_leastCoarse.1 ∈ cm_W0 := cm_inT 758 rfl rfl
set_option maxRecDepth 100000 in
theorem kmX7_judged : cm_mk mX7_judged 2 := ⟨cm_inT 775 rfl rfl, cm_inT 7 rfl rfl, by decide +kernel, ⟨by decide +kernel, by decide +kernel, by decide +kernel⟩, by decide⟩
set_option maxRecDepth 100000 in
theorem imX7_judged : Cond.instanceMethod mX7_judged.1 ∈ cm_W0 := cm_inT 773 rfl rfl
set_option maxRecDepth 100000 in
theorem emX7_judged : Cond.selects mX7_judged.1.cls mX7_judged.1 mX7_judged.1 ∈ cm_W0 := cm_inT 774 rfl rfl
set_option maxRecDepth 100000 in
theorem kmX8_init : cm_mk mX8_init 0 := ⟨cm_inT 73 rfl rfl, cm_inT 3 rfl rfl, by decide +kernel, ⟨by decide +kernel, by decide +kernel, by decide +kernel⟩, by decide⟩
set_option maxRecDepth 100000 in
theorem imX8_init : Cond.instanceMethod mX8_init.1 ∈ cm_W0 := cm_inT 72 rfl rfl
set_option maxRecDepth 100000 in
theorem kmX8_add : cm_mk mX8_add 1 := ⟨cm_inT 381 rfl rfl, cm_inT 3 rfl rfl, by decide +kernel, ⟨by decide +kernel, by decide +kernel, by decide +kernel⟩, by decide⟩
set_option maxRecDepth 100000 in
theorem imX8_add : Cond.instanceMethod mX8_add.1 ∈ cm_W0 := cm_inT 379 rfl rfl
set_option maxRecDepth 100000 in
theorem emX8_add : Cond.selects mX8_add.1.cls mX8_add.1 mX8_add.1 ∈ cm_W0 := cm_inT 380 rfl rfl
set_option maxRecDepth 100000 in
theorem kmX8_byteAt : cm_mk mX8_byteAt 1 := ⟨cm_inT 401 rfl rfl, cm_inT 3 rfl rfl, by decide +kernel, ⟨by decide +kernel, by decide +kernel, by decide +kernel⟩, by decide⟩
set_option maxRecDepth 100000 in
theorem imX8_byteAt : Cond.instanceMethod mX8_byteAt.1 ∈ cm_W0 := cm_inT 399 rfl rfl
set_option maxRecDepth 100000 in
theorem emX8_byteAt : Cond.selects mX8_byteAt.1.cls mX8_byteAt.1 mX8_byteAt.1 ∈ cm_W0 := cm_inT 400 rfl rfl
set_option maxRecDepth 100000 in
theorem kmX9_init : cm_mk mX9_init 3 := ⟨cm_inT 324 rfl rfl, cm_inT 12 rfl rfl, by decide +kernel, ⟨by decide +kernel, by decide +kernel, by decide +kernel⟩, by decide⟩
set_option maxRecDepth 100000 in
theorem imX9_init : Cond.instanceMethod mX9_init.1 ∈ cm_W0 := cm_inT 323 rfl rfl
set_option maxRecDepth 100000 in
theorem kmX9_hasState : cm_mk mX9_hasState 1 := ⟨cm_inT 372 rfl rfl, cm_inT 12 rfl rfl, by decide +kernel, ⟨by decide +kernel, by decide +kernel, by decide +kernel⟩, by decide⟩
set_option maxRecDepth 100000 in
theorem imX9_hasState : Cond.instanceMethod mX9_hasState.1 ∈ cm_W0 := cm_inT 370 rfl rfl
set_option maxRecDepth 100000 in
theorem emX9_hasState : Cond.selects mX9_hasState.1.cls mX9_hasState.1 mX9_hasState.1 ∈ cm_W0 := cm_inT 371 rfl rfl
set_option maxRecDepth 100000 in
theorem kmX10_init : cm_mk mX10_init 0 := ⟨cm_inT 204 rfl rfl, cm_inT 8 rfl rfl, by decide +kernel, ⟨by decide +kernel, by decide +kernel, by decide +kernel⟩, by decide⟩
set_option maxRecDepth 100000 in
theorem imX10_init : Cond.instanceMethod mX10_init.1 ∈ cm_W0 := cm_inT 203 rfl rfl
set_option maxRecDepth 100000 in
theorem kmX10_add : cm_mk mX10_add 1 := ⟨cm_inT 819 rfl rfl, cm_inT 8 rfl rfl, by decide +kernel, ⟨by decide +kernel, by decide +kernel, by decide +kernel⟩, by decide⟩
set_option maxRecDepth 100000 in
theorem imX10_add : Cond.instanceMethod mX10_add.1 ∈ cm_W0 := cm_inT 817 rfl rfl
set_option maxRecDepth 100000 in
theorem emX10_add : Cond.selects mX10_add.1.cls mX10_add.1 mX10_add.1 ∈ cm_W0 := cm_inT 818 rfl rfl
set_option maxRecDepth 100000 in
theorem kmX10_has : cm_mk mX10_has 1 := ⟨cm_inT 827 rfl rfl, cm_inT 8 rfl rfl, by decide +kernel, ⟨by decide +kernel, by decide +kernel, by decide +kernel⟩, by decide⟩
set_option maxRecDepth 100000 in
theorem imX10_has : Cond.instanceMethod mX10_has.1 ∈ cm_W0 := cm_inT 825 rfl rfl
set_option maxRecDepth 100000 in
theorem emX10_has : Cond.selects mX10_has.1.cls mX10_has.1 mX10_has.1 ∈ cm_W0 := cm_inT 826 rfl rfl
set_option maxRecDepth 100000 in
theorem kmX10_bodyAt : cm_mk mX10_bodyAt 1 := ⟨cm_inT 831 rfl rfl, cm_inT 8 rfl rfl, by decide +kernel, ⟨by decide +kernel, by decide +kernel, by decide +kernel⟩, by decide⟩
set_option maxRecDepth 100000 in
theorem imX10_bodyAt : Cond.instanceMethod mX10_bodyAt.1 ∈ cm_W0 := cm_inT 829 rfl rfl
set_option maxRecDepth 100000 in
theorem emX10_bodyAt : Cond.selects mX10_bodyAt.1.cls mX10_bodyAt.1 mX10_bodyAt.1 ∈ cm_W0 := cm_inT 830 rfl rfl
set_option maxRecDepth 100000 in
theorem kmX11_init : cm_mk mX11_init 0 := ⟨cm_inT 26 rfl rfl, cm_inT 1 rfl rfl, by decide +kernel, ⟨by decide +kernel, by decide +kernel, by decide +kernel⟩, by decide⟩
set_option maxRecDepth 100000 in
theorem imX11_init : Cond.instanceMethod mX11_init.1 ∈ cm_W0 := cm_inT 25 rfl rfl
set_option maxRecDepth 100000 in
theorem kmX11_thing : cm_mk mX11_thing 2 := ⟨cm_inT 285 rfl rfl, cm_inT 1 rfl rfl, by decide +kernel, ⟨by decide +kernel, by decide +kernel, by decide +kernel⟩, by decide⟩
set_option maxRecDepth 100000 in
theorem imX11_thing : Cond.instanceMethod mX11_thing.1 ∈ cm_W0 := cm_inT 283 rfl rfl
set_option maxRecDepth 100000 in
theorem emX11_thing : Cond.selects mX11_thing.1.cls mX11_thing.1 mX11_thing.1 ∈ cm_W0 := cm_inT 284 rfl rfl
set_option maxRecDepth 100000 in
theorem kmX11_of : cm_mk mX11_of 2 := ⟨cm_inT 345 rfl rfl, cm_inT 1 rfl rfl, by decide +kernel, ⟨by decide +kernel, by decide +kernel, by decide +kernel⟩, by decide⟩
set_option maxRecDepth 100000 in
theorem imX11_of : Cond.instanceMethod mX11_of.1 ∈ cm_W0 := cm_inT 343 rfl rfl
set_option maxRecDepth 100000 in
theorem emX11_of : Cond.selects mX11_of.1.cls mX11_of.1 mX11_of.1 ∈ cm_W0 := cm_inT 344 rfl rfl
set_option maxRecDepth 100000 in
theorem kmX11_follows : cm_mk mX11_follows 3 := ⟨cm_inT 368 rfl rfl, cm_inT 1 rfl rfl, by decide +kernel, ⟨by decide +kernel, by decide +kernel, by decide +kernel⟩, by decide⟩
set_option maxRecDepth 100000 in
theorem imX11_follows : Cond.instanceMethod mX11_follows.1 ∈ cm_W0 := cm_inT 366 rfl rfl
set_option maxRecDepth 100000 in
theorem emX11_follows : Cond.selects mX11_follows.1.cls mX11_follows.1 mX11_follows.1 ∈ cm_W0 := cm_inT 367 rfl rfl
set_option maxRecDepth 100000 in
theorem kmX11_feed : cm_mk mX11_feed 2 := ⟨cm_inT 377 rfl rfl, cm_inT 1 rfl rfl, by decide +kernel, ⟨by decide +kernel, by decide +kernel, by decide +kernel⟩, by decide⟩
set_option maxRecDepth 100000 in
theorem imX11_feed : Cond.instanceMethod mX11_feed.1 ∈ cm_W0 := cm_inT 375 rfl rfl
set_option maxRecDepth 100000 in
theorem emX11_feed : Cond.selects mX11_feed.1.cls mX11_feed.1 mX11_feed.1 ∈ cm_W0 := cm_inT 376 rfl rfl
set_option maxRecDepth 100000 in
theorem kmX11_house : cm_mk mX11_house 0 := ⟨cm_inT 385 rfl rfl, cm_inT 1 rfl rfl, by decide +kernel, ⟨by decide +kernel, by decide +kernel, by decide +kernel⟩, by decide⟩
set_option maxRecDepth 100000 in
theorem imX11_house : Cond.instanceMethod mX11_house.1 ∈ cm_W0 := cm_inT 383 rfl rfl
set_option maxRecDepth 100000 in
theorem emX11_house : Cond.selects mX11_house.1.cls mX11_house.1 mX11_house.1 ∈ cm_W0 := cm_inT 384 rfl rfl
set_option maxRecDepth 100000 in
theorem kmX11_reading : cm_mk mX11_reading 2 := ⟨cm_inT 522 rfl rfl, cm_inT 1 rfl rfl, by decide +kernel, ⟨by decide +kernel, by decide +kernel, by decide +kernel⟩, by decide⟩
set_option maxRecDepth 100000 in
theorem imX11_reading : Cond.instanceMethod mX11_reading.1 ∈ cm_W0 := cm_inT 520 rfl rfl
set_option maxRecDepth 100000 in
theorem emX11_reading : Cond.selects mX11_reading.1.cls mX11_reading.1 mX11_reading.1 ∈ cm_W0 := cm_inT 521 rfl rfl
set_option maxRecDepth 100000 in
theorem kmX11_clear : cm_mk mX11_clear 1 := ⟨cm_inT 534 rfl rfl, cm_inT 1 rfl rfl, by decide +kernel, ⟨by decide +kernel, by decide +kernel, by decide +kernel⟩, by decide⟩
set_option maxRecDepth 100000 in
theorem imX11_clear : Cond.instanceMethod mX11_clear.1 ∈ cm_W0 := cm_inT 532 rfl rfl
set_option maxRecDepth 100000 in
theorem emX11_clear : Cond.selects mX11_clear.1.cls mX11_clear.1 mX11_clear.1 ∈ cm_W0 := cm_inT 533 rfl rfl
set_option maxRecDepth 100000 in
theorem kmX11_fits : cm_mk mX11_fits 2 := ⟨cm_inT 538 rfl rfl, cm_inT 1 rfl rfl, by decide +kernel, ⟨by decide +kernel, by decide +kernel, by decide +kernel⟩, by decide⟩
set_option maxRecDepth 100000 in
theorem imX11_fits : Cond.instanceMethod mX11_fits.1 ∈ cm_W0 := cm_inT 536 rfl rfl
set_option maxRecDepth 100000 in
theorem emX11_fits : Cond.selects mX11_fits.1.cls mX11_fits.1 mX11_fits.1 ∈ cm_W0 := cm_inT 537 rfl rfl
set_option maxRecDepth 100000 in
theorem kmX11_tales : cm_mk mX11_tales 0 := ⟨cm_inT 617 rfl rfl, cm_inT 1 rfl rfl, by decide +kernel, ⟨by decide +kernel, by decide +kernel, by decide +kernel⟩, by decide⟩
set_option maxRecDepth 100000 in
theorem imX11_tales : Cond.instanceMethod mX11_tales.1 ∈ cm_W0 := cm_inT 615 rfl rfl
set_option maxRecDepth 100000 in
theorem emX11_tales : Cond.selects mX11_tales.1.cls mX11_tales.1 mX11_tales.1 ∈ cm_W0 := cm_inT 616 rfl rfl
set_option maxRecDepth 100000 in
theorem kmX11_may : cm_mk mX11_may 1 := ⟨cm_inT 635 rfl rfl, cm_inT 1 rfl rfl, by decide +kernel, ⟨by decide +kernel, by decide +kernel, by decide +kernel⟩, by decide⟩
set_option maxRecDepth 100000 in
theorem imX11_may : Cond.instanceMethod mX11_may.1 ∈ cm_W0 := cm_inT 633 rfl rfl
set_option maxRecDepth 100000 in
theorem emX11_may : Cond.selects mX11_may.1.cls mX11_may.1 mX11_may.1 ∈ cm_W0 := cm_inT 634 rfl rfl
set_option maxRecDepth 100000 in
theorem kmX11_fewest : cm_mk mX11_fewest 1 := ⟨cm_inT 649 rfl rfl, cm_inT 1 rfl rfl, by decide +kernel, ⟨by decide +kernel, by decide +kernel, by decide +kernel⟩, by decide⟩
set_option maxRecDepth 100000 in
theorem imX11_fewest : Cond.instanceMethod mX11_fewest.1 ∈ cm_W0 := cm_inT 647 rfl rfl
set_option maxRecDepth 100000 in
theorem emX11_fewest : Cond.selects mX11_fewest.1.cls mX11_fewest.1 mX11_fewest.1 ∈ cm_W0 := cm_inT 648 rfl rfl
set_option maxRecDepth 100000 in
theorem kmX11_gladdest : cm_mk mX11_gladdest 1 := ⟨cm_inT 699 rfl rfl, cm_inT 1 rfl rfl, by decide +kernel, ⟨by decide +kernel, by decide +kernel, by decide +kernel⟩, by decide⟩
set_option maxRecDepth 100000 in
theorem imX11_gladdest : Cond.instanceMethod mX11_gladdest.1 ∈ cm_W0 := cm_inT 697 rfl rfl
set_option maxRecDepth 100000 in
theorem emX11_gladdest : Cond.selects mX11_gladdest.1.cls mX11_gladdest.1 mX11_gladdest.1 ∈ cm_W0 := cm_inT 698 rfl rfl
set_option maxRecDepth 100000 in
theorem kmX11_sure : cm_mk mX11_sure 2 := ⟨cm_inT 707 rfl rfl, cm_inT 1 rfl rfl, by decide +kernel, ⟨by decide +kernel, by decide +kernel, by decide +kernel⟩, by decide⟩
set_option maxRecDepth 100000 in
theorem imX11_sure : Cond.instanceMethod mX11_sure.1 ∈ cm_W0 := cm_inT 705 rfl rfl
set_option maxRecDepth 100000 in
theorem emX11_sure : Cond.selects mX11_sure.1.cls mX11_sure.1 mX11_sure.1 ∈ cm_W0 := cm_inT 706 rfl rfl
set_option maxRecDepth 100000 in
theorem kmX11_alike : cm_mk mX11_alike 0 := ⟨cm_inT 719 rfl rfl, cm_inT 1 rfl rfl, by decide +kernel, ⟨by decide +kernel, by decide +kernel, by decide +kernel⟩, by decide⟩
set_option maxRecDepth 100000 in
theorem imX11_alike : Cond.instanceMethod mX11_alike.1 ∈ cm_W0 := cm_inT 717 rfl rfl
set_option maxRecDepth 100000 in
theorem emX11_alike : Cond.selects mX11_alike.1.cls mX11_alike.1 mX11_alike.1 ∈ cm_W0 := cm_inT 718 rfl rfl
set_option maxRecDepth 100000 in
theorem kmX11_secret : cm_mk mX11_secret 0 := ⟨cm_inT 731 rfl rfl, cm_inT 1 rfl rfl, by decide +kernel, ⟨by decide +kernel, by decide +kernel, by decide +kernel⟩, by decide⟩
set_option maxRecDepth 100000 in
theorem imX11_secret : Cond.instanceMethod mX11_secret.1 ∈ cm_W0 := cm_inT 729 rfl rfl
set_option maxRecDepth 100000 in
theorem emX11_secret : Cond.selects mX11_secret.1.cls mX11_secret.1 mX11_secret.1 ∈ cm_W0 := cm_inT 730 rfl rfl
set_option maxRecDepth 100000 in
theorem kmX11_part : cm_mk mX11_part 2 := ⟨cm_inT 739 rfl rfl, cm_inT 1 rfl rfl, by decide +kernel, ⟨by decide +kernel, by decide +kernel, by decide +kernel⟩, by decide⟩
set_option maxRecDepth 100000 in
theorem imX11_part : Cond.instanceMethod mX11_part.1 ∈ cm_W0 := cm_inT 737 rfl rfl
set_option maxRecDepth 100000 in
theorem emX11_part : Cond.selects mX11_part.1.cls mX11_part.1 mX11_part.1 ∈ cm_W0 := cm_inT 738 rfl rfl
set_option maxRecDepth 100000 in
theorem kmX11_wires : cm_mk mX11_wires 1 := ⟨cm_inT 747 rfl rfl, cm_inT 1 rfl rfl, by decide +kernel, ⟨by decide +kernel, by decide +kernel, by decide +kernel⟩, by decide⟩
set_option maxRecDepth 100000 in
theorem imX11_wires : Cond.instanceMethod mX11_wires.1 ∈ cm_W0 := cm_inT 745 rfl rfl
set_option maxRecDepth 100000 in
theorem emX11_wires : Cond.selects mX11_wires.1.cls mX11_wires.1 mX11_wires.1 ∈ cm_W0 := cm_inT 746 rfl rfl
set_option maxRecDepth 100000 in
theorem kmX11_coarse : cm_mk mX11_coarse 2 := ⟨cm_inT 755 rfl rfl, cm_inT 1 rfl rfl, by decide +kernel, ⟨by decide +kernel, by decide +kernel, by decide +kernel⟩, by decide⟩
set_option maxRecDepth 100000 in
theorem imX11_coarse : Cond.instanceMethod mX11_coarse.1 ∈ cm_W0 := cm_inT 753 rfl rfl
set_option maxRecDepth 100000 in
theorem emX11_coarse : Cond.selects mX11_coarse.1.cls mX11_coarse.1 mX11_coarse.1 ∈ cm_W0 := cm_inT 754 rfl rfl
set_option maxRecDepth 100000 in
theorem kmX11_judge : cm_mk mX11_judge 2 := ⟨cm_inT 763 rfl rfl, cm_inT 1 rfl rfl, by decide +kernel, ⟨by decide +kernel, by decide +kernel, by decide +kernel⟩, by decide⟩
set_option maxRecDepth 100000 in
theorem imX11_judge : Cond.instanceMethod mX11_judge.1 ∈ cm_W0 := cm_inT 761 rfl rfl
set_option maxRecDepth 100000 in
theorem emX11_judge : Cond.selects mX11_judge.1.cls mX11_judge.1 mX11_judge.1 ∈ cm_W0 := cm_inT 762 rfl rfl
set_option maxRecDepth 100000 in
theorem kmX11_image : cm_mk mX11_image 0 := ⟨cm_inT 788 rfl rfl, cm_inT 1 rfl rfl, by decide +kernel, ⟨by decide +kernel, by decide +kernel, by decide +kernel⟩, by decide⟩
set_option maxRecDepth 100000 in
theorem imX11_image : Cond.instanceMethod mX11_image.1 ∈ cm_W0 := cm_inT 786 rfl rfl
set_option maxRecDepth 100000 in
theorem emX11_image : Cond.selects mX11_image.1.cls mX11_image.1 mX11_image.1 ∈ cm_W0 := cm_inT 787 rfl rfl
set_option maxRecDepth 100000 in
theorem kmX11_undo : cm_mk mX11_undo 0 := ⟨cm_inT 796 rfl rfl, cm_inT 1 rfl rfl, by decide +kernel, ⟨by decide +kernel, by decide +kernel, by decide +kernel⟩, by decide⟩
set_option maxRecDepth 100000 in
theorem imX11_undo : Cond.instanceMethod mX11_undo.1 ∈ cm_W0 := cm_inT 794 rfl rfl
set_option maxRecDepth 100000 in
theorem emX11_undo : Cond.selects mX11_undo.1.cls mX11_undo.1 mX11_undo.1 ∈ cm_W0 := cm_inT 795 rfl rfl
set_option maxRecDepth 100000 in
theorem kmX11_act : cm_mk mX11_act 3 := ⟨cm_inT 800 rfl rfl, cm_inT 1 rfl rfl, by decide +kernel, ⟨by decide +kernel, by decide +kernel, by decide +kernel⟩, by decide⟩
set_option maxRecDepth 100000 in
theorem imX11_act : Cond.instanceMethod mX11_act.1 ∈ cm_W0 := cm_inT 798 rfl rfl
set_option maxRecDepth 100000 in
theorem emX11_act : Cond.selects mX11_act.1.cls mX11_act.1 mX11_act.1 ∈ cm_W0 := cm_inT 799 rfl rfl
set_option maxRecDepth 100000 in
theorem kmX11_trace : cm_mk mX11_trace 1 := ⟨cm_inT 823 rfl rfl, cm_inT 1 rfl rfl, by decide +kernel, ⟨by decide +kernel, by decide +kernel, by decide +kernel⟩, by decide⟩
set_option maxRecDepth 100000 in
theorem imX11_trace : Cond.instanceMethod mX11_trace.1 ∈ cm_W0 := cm_inT 821 rfl rfl
set_option maxRecDepth 100000 in
theorem emX11_trace : Cond.selects mX11_trace.1.cls mX11_trace.1 mX11_trace.1 ∈ cm_W0 := cm_inT 822 rfl rfl
set_option maxRecDepth 100000 in
theorem kmX11_taken : cm_mk mX11_taken 2 := ⟨cm_inT 836 rfl rfl, cm_inT 1 rfl rfl, by decide +kernel, ⟨by decide +kernel, by decide +kernel, by decide +kernel⟩, by decide⟩
set_option maxRecDepth 100000 in
theorem imX11_taken : Cond.instanceMethod mX11_taken.1 ∈ cm_W0 := cm_inT 834 rfl rfl
set_option maxRecDepth 100000 in
theorem emX11_taken : Cond.selects mX11_taken.1.cls mX11_taken.1 mX11_taken.1 ∈ cm_W0 := cm_inT 835 rfl rfl
set_option maxRecDepth 100000 in
theorem kmX11_count : cm_mk mX11_count 1 := ⟨cm_inT 841 rfl rfl, cm_inT 1 rfl rfl, by decide +kernel, ⟨by decide +kernel, by decide +kernel, by decide +kernel⟩, by decide⟩
set_option maxRecDepth 100000 in
theorem imX11_count : Cond.instanceMethod mX11_count.1 ∈ cm_W0 := cm_inT 839 rfl rfl
set_option maxRecDepth 100000 in
theorem emX11_count : Cond.selects mX11_count.1.cls mX11_count.1 mX11_count.1 ∈ cm_W0 := cm_inT 840 rfl rfl
set_option maxRecDepth 100000 in
theorem kmX11_tape : cm_mk mX11_tape 3 := ⟨cm_inT 845 rfl rfl, cm_inT 1 rfl rfl, by decide +kernel, ⟨by decide +kernel, by decide +kernel, by decide +kernel⟩, by decide⟩
set_option maxRecDepth 100000 in
theorem imX11_tape : Cond.instanceMethod mX11_tape.1 ∈ cm_W0 := cm_inT 843 rfl rfl
set_option maxRecDepth 100000 in
theorem emX11_tape : Cond.selects mX11_tape.1.cls mX11_tape.1 mX11_tape.1 ∈ cm_W0 := cm_inT 844 rfl rfl
set_option maxRecDepth 100000 in
theorem kmX11_item : cm_mk mX11_item 3 := ⟨cm_inT 853 rfl rfl, cm_inT 1 rfl rfl, by decide +kernel, ⟨by decide +kernel, by decide +kernel, by decide +kernel⟩, by decide⟩
set_option maxRecDepth 100000 in
theorem imX11_item : Cond.instanceMethod mX11_item.1 ∈ cm_W0 := cm_inT 851 rfl rfl
set_option maxRecDepth 100000 in
theorem emX11_item : Cond.selects mX11_item.1.cls mX11_item.1 mX11_item.1 ∈ cm_W0 := cm_inT 852 rfl rfl
set_option maxRecDepth 100000 in
theorem kmX11_read : cm_mk mX11_read 2 := ⟨cm_inT 866 rfl rfl, cm_inT 1 rfl rfl, by decide +kernel, ⟨by decide +kernel, by decide +kernel, by decide +kernel⟩, by decide⟩
set_option maxRecDepth 100000 in
theorem imX11_read : Cond.instanceMethod mX11_read.1 ∈ cm_W0 := cm_inT 864 rfl rfl
set_option maxRecDepth 100000 in
theorem emX11_read : Cond.selects mX11_read.1.cls mX11_read.1 mX11_read.1 ∈ cm_W0 := cm_inT 865 rfl rfl
set_option maxRecDepth 100000 in
theorem kmX11_shift : cm_mk mX11_shift 5 := ⟨cm_inT 872 rfl rfl, cm_inT 1 rfl rfl, by decide +kernel, ⟨by decide +kernel, by decide +kernel, by decide +kernel⟩, by decide⟩
set_option maxRecDepth 100000 in
theorem imX11_shift : Cond.instanceMethod mX11_shift.1 ∈ cm_W0 := cm_inT 870 rfl rfl
set_option maxRecDepth 100000 in
theorem emX11_shift : Cond.selects mX11_shift.1.cls mX11_shift.1 mX11_shift.1 ∈ cm_W0 := cm_inT 871 rfl rfl
set_option maxRecDepth 100000 in
theorem kmX11_isEither : cm_mk mX11_isEither 1 := ⟨cm_inT 710 rfl rfl, cm_inT 1 rfl rfl, by decide +kernel, ⟨by decide +kernel, by decide +kernel, by decide +kernel⟩, by decide⟩
set_option maxRecDepth 100000 in
theorem smX11_isEither : Cond.static mX11_isEither.1 ∈ cm_W0 := cm_inT 709 rfl rfl
set_option maxRecDepth 100000 in
theorem kmX11_heldHouse : cm_mk mX11_heldHouse 0 := ⟨cm_inT 353 rfl rfl, cm_inT 1 rfl rfl, by decide +kernel, ⟨by decide +kernel, by decide +kernel, by decide +kernel⟩, by decide⟩
set_option maxRecDepth 100000 in
theorem imX11_heldHouse : Cond.instanceMethod mX11_heldHouse.1 ∈ cm_W0 := cm_inT 352 rfl rfl
set_option maxRecDepth 100000 in
theorem emX11_heldHouse : Cond.selects mX11_heldHouse.1.cls mX11_heldHouse.1 mX11_heldHouse.1 ∈ cm_W0 := cm_inP 2 rfl rfl
set_option maxRecDepth 100000 in
theorem kmX11_meterAt : cm_mk mX11_meterAt 1 := ⟨cm_inT 526 rfl rfl, cm_inT 1 rfl rfl, by decide +kernel, ⟨by decide +kernel, by decide +kernel, by decide +kernel⟩, by decide⟩
set_option maxRecDepth 100000 in
theorem imX11_meterAt : Cond.instanceMethod mX11_meterAt.1 ∈ cm_W0 := cm_inT 525 rfl rfl
set_option maxRecDepth 100000 in
theorem emX11_meterAt : Cond.selects mX11_meterAt.1.cls mX11_meterAt.1 mX11_meterAt.1 ∈ cm_W0 := cm_inP 14 rfl rfl
set_option maxRecDepth 100000 in
theorem kmX11_tapeAt : cm_mk mX11_tapeAt 1 := ⟨cm_inT 767 rfl rfl, cm_inT 1 rfl rfl, by decide +kernel, ⟨by decide +kernel, by decide +kernel, by decide +kernel⟩, by decide⟩
set_option maxRecDepth 100000 in
theorem imX11_tapeAt : Cond.instanceMethod mX11_tapeAt.1 ∈ cm_W0 := cm_inT 766 rfl rfl
set_option maxRecDepth 100000 in
theorem emX11_tapeAt : Cond.selects mX11_tapeAt.1.cls mX11_tapeAt.1 mX11_tapeAt.1 ∈ cm_W0 := cm_inP 25 rfl rfl
set_option maxRecDepth 100000 in
theorem kmX11_laid : cm_mk mX11_laid 0 := ⟨cm_inT 550 rfl rfl, cm_inT 1 rfl rfl, by decide +kernel, ⟨by decide +kernel, by decide +kernel, by decide +kernel⟩, by decide⟩
set_option maxRecDepth 100000 in
theorem imX11_laid : Cond.instanceMethod mX11_laid.1 ∈ cm_W0 := cm_inT 549 rfl rfl
set_option maxRecDepth 100000 in
theorem emX11_laid : Cond.selects mX11_laid.1.cls mX11_laid.1 mX11_laid.1 ∈ cm_W0 := cm_inP 15 rfl rfl
set_option maxRecDepth 100000 in
theorem kmX11_areAlike : cm_mk mX11_areAlike 2 := ⟨cm_inT 723 rfl rfl, cm_inT 1 rfl rfl, by decide +kernel, ⟨by decide +kernel, by decide +kernel, by decide +kernel⟩, by decide⟩
set_option maxRecDepth 100000 in
theorem imX11_areAlike : Cond.instanceMethod mX11_areAlike.1 ∈ cm_W0 := cm_inT 722 rfl rfl
set_option maxRecDepth 100000 in
theorem emX11_areAlike : Cond.selects mX11_areAlike.1.cls mX11_areAlike.1 mX11_areAlike.1 ∈ cm_W0 := cm_inP 24 rfl rfl
set_option maxRecDepth 100000 in
theorem kmX12_init : cm_mk mX12_init 0 := ⟨cm_inT 884 rfl rfl, cm_inT 10 rfl rfl, by decide +kernel, ⟨by decide +kernel, by decide +kernel, by decide +kernel⟩, by decide⟩
set_option maxRecDepth 100000 in
theorem imX12_init : Cond.instanceMethod mX12_init.1 ∈ cm_W0 := cm_inT 883 rfl rfl
set_option maxRecDepth 100000 in
theorem kmX12_in : cm_mk mX12_in 3 := ⟨cm_inT 1030 rfl rfl, cm_inT 10 rfl rfl, by decide +kernel, ⟨by decide +kernel, by decide +kernel, by decide +kernel⟩, by decide⟩
set_option maxRecDepth 100000 in
theorem imX12_in : Cond.instanceMethod mX12_in.1 ∈ cm_W0 := cm_inT 1029 rfl rfl
set_option maxRecDepth 100000 in
theorem emX12_in : Cond.selects mX12_in.1.cls mX12_in.1 mX12_in.1 ∈ cm_W0 := cm_inP 27 rfl rfl
set_option maxRecDepth 100000 in
theorem kmX12_isThing : cm_mk mX12_isThing 1 := ⟨cm_inT 1038 rfl rfl, cm_inT 10 rfl rfl, by decide +kernel, ⟨by decide +kernel, by decide +kernel, by decide +kernel⟩, by decide⟩
set_option maxRecDepth 100000 in
theorem imX12_isThing : Cond.instanceMethod mX12_isThing.1 ∈ cm_W0 := cm_inT 1037 rfl rfl
set_option maxRecDepth 100000 in
theorem emX12_isThing : Cond.selects mX12_isThing.1.cls mX12_isThing.1 mX12_isThing.1 ∈ cm_W0 := cm_inP 28 rfl rfl
set_option maxRecDepth 100000 in
theorem kmX12_isUnder : cm_mk mX12_isUnder 2 := ⟨cm_inT 1161 rfl rfl, cm_inT 10 rfl rfl, by decide +kernel, ⟨by decide +kernel, by decide +kernel, by decide +kernel⟩, by decide⟩
set_option maxRecDepth 100000 in
theorem imX12_isUnder : Cond.instanceMethod mX12_isUnder.1 ∈ cm_W0 := cm_inT 1160 rfl rfl
set_option maxRecDepth 100000 in
theorem emX12_isUnder : Cond.selects mX12_isUnder.1.cls mX12_isUnder.1 mX12_isUnder.1 ∈ cm_W0 := cm_inP 52 rfl rfl
set_option maxRecDepth 100000 in
theorem kmX12_thing : cm_mk mX12_thing 2 := ⟨cm_inT 1026 rfl rfl, cm_inT 10 rfl rfl, by decide +kernel, ⟨by decide +kernel, by decide +kernel, by decide +kernel⟩, by decide⟩
set_option maxRecDepth 100000 in
theorem imX12_thing : Cond.instanceMethod mX12_thing.1 ∈ cm_W0 := cm_inT 1024 rfl rfl
set_option maxRecDepth 100000 in
theorem emX12_thing : Cond.selects mX12_thing.1.cls mX12_thing.1 mX12_thing.1 ∈ cm_W0 := cm_inT 1025 rfl rfl
set_option maxRecDepth 100000 in
theorem kmX12_isNext : cm_mk mX12_isNext 3 := ⟨cm_inT 1042 rfl rfl, cm_inT 10 rfl rfl, by decide +kernel, ⟨by decide +kernel, by decide +kernel, by decide +kernel⟩, by decide⟩
set_option maxRecDepth 100000 in
theorem imX12_isNext : Cond.instanceMethod mX12_isNext.1 ∈ cm_W0 := cm_inT 1041 rfl rfl
set_option maxRecDepth 100000 in
theorem emX12_isNext : Cond.selects mX12_isNext.1.cls mX12_isNext.1 mX12_isNext.1 ∈ cm_W0 := cm_inP 29 rfl rfl
set_option maxRecDepth 100000 in
theorem kmX12_follows : cm_mk mX12_follows 3 := ⟨cm_inT 1034 rfl rfl, cm_inT 10 rfl rfl, by decide +kernel, ⟨by decide +kernel, by decide +kernel, by decide +kernel⟩, by decide⟩
set_option maxRecDepth 100000 in
theorem imX12_follows : Cond.instanceMethod mX12_follows.1 ∈ cm_W0 := cm_inT 1032 rfl rfl
set_option maxRecDepth 100000 in
theorem emX12_follows : Cond.selects mX12_follows.1.cls mX12_follows.1 mX12_follows.1 ∈ cm_W0 := cm_inT 1033 rfl rfl
set_option maxRecDepth 100000 in
theorem kmX12_feed : cm_mk mX12_feed 2 := ⟨cm_inT 1046 rfl rfl, cm_inT 10 rfl rfl, by decide +kernel, ⟨by decide +kernel, by decide +kernel, by decide +kernel⟩, by decide⟩
set_option maxRecDepth 100000 in
theorem imX12_feed : Cond.instanceMethod mX12_feed.1 ∈ cm_W0 := cm_inT 1044 rfl rfl
set_option maxRecDepth 100000 in
theorem emX12_feed : Cond.selects mX12_feed.1.cls mX12_feed.1 mX12_feed.1 ∈ cm_W0 := cm_inT 1045 rfl rfl
set_option maxRecDepth 100000 in
theorem kmX12_next : cm_mk mX12_next 0 := ⟨cm_inT 1062 rfl rfl, cm_inT 10 rfl rfl, by decide +kernel, ⟨by decide +kernel, by decide +kernel, by decide +kernel⟩, by decide⟩
set_option maxRecDepth 100000 in
theorem imX12_next : Cond.instanceMethod mX12_next.1 ∈ cm_W0 := cm_inT 1061 rfl rfl
set_option maxRecDepth 100000 in
theorem emX12_next : Cond.selects mX12_next.1.cls mX12_next.1 mX12_next.1 ∈ cm_W0 := cm_inP 32 rfl rfl
set_option maxRecDepth 100000 in
theorem kmX12_second : cm_mk mX12_second 0 := ⟨cm_inT 1111 rfl rfl, cm_inT 10 rfl rfl, by decide +kernel, ⟨by decide +kernel, by decide +kernel, by decide +kernel⟩, by decide⟩
set_option maxRecDepth 100000 in
theorem imX12_second : Cond.instanceMethod mX12_second.1 ∈ cm_W0 := cm_inT 1110 rfl rfl
set_option maxRecDepth 100000 in
theorem emX12_second : Cond.selects mX12_second.1.cls mX12_second.1 mX12_second.1 ∈ cm_W0 := cm_inP 44 rfl rfl
set_option maxRecDepth 100000 in
theorem kmX12_takesSign : cm_mk mX12_takesSign 1 := ⟨cm_inT 1071 rfl rfl, cm_inT 10 rfl rfl, by decide +kernel, ⟨by decide +kernel, by decide +kernel, by decide +kernel⟩, by decide⟩
set_option maxRecDepth 100000 in
theorem imX12_takesSign : Cond.instanceMethod mX12_takesSign.1 ∈ cm_W0 := cm_inT 1070 rfl rfl
set_option maxRecDepth 100000 in
theorem emX12_takesSign : Cond.selects mX12_takesSign.1.cls mX12_takesSign.1 mX12_takesSign.1 ∈ cm_W0 := cm_inP 34 rfl rfl
set_option maxRecDepth 100000 in
theorem kmX12_takesWord : cm_mk mX12_takesWord 2 := ⟨cm_inT 1067 rfl rfl, cm_inT 10 rfl rfl, by decide +kernel, ⟨by decide +kernel, by decide +kernel, by decide +kernel⟩, by decide⟩
set_option maxRecDepth 100000 in
theorem imX12_takesWord : Cond.instanceMethod mX12_takesWord.1 ∈ cm_W0 := cm_inT 1066 rfl rfl
set_option maxRecDepth 100000 in
theorem emX12_takesWord : Cond.selects mX12_takesWord.1.cls mX12_takesWord.1 mX12_takesWord.1 ∈ cm_W0 := cm_inP 33 rfl rfl
set_option maxRecDepth 100000 in
theorem kmX12_isDigit : cm_mk mX12_isDigit 0 := ⟨cm_inT 1087 rfl rfl, cm_inT 10 rfl rfl, by decide +kernel, ⟨by decide +kernel, by decide +kernel, by decide +kernel⟩, by decide⟩
set_option maxRecDepth 100000 in
theorem imX12_isDigit : Cond.instanceMethod mX12_isDigit.1 ∈ cm_W0 := cm_inT 1086 rfl rfl
set_option maxRecDepth 100000 in
theorem emX12_isDigit : Cond.selects mX12_isDigit.1.cls mX12_isDigit.1 mX12_isDigit.1 ∈ cm_W0 := cm_inP 38 rfl rfl
set_option maxRecDepth 100000 in
theorem kmX12_takesNumber : cm_mk mX12_takesNumber 1 := ⟨cm_inT 1083 rfl rfl, cm_inT 10 rfl rfl, by decide +kernel, ⟨by decide +kernel, by decide +kernel, by decide +kernel⟩, by decide⟩
set_option maxRecDepth 100000 in
theorem imX12_takesNumber : Cond.instanceMethod mX12_takesNumber.1 ∈ cm_W0 := cm_inT 1082 rfl rfl
set_option maxRecDepth 100000 in
theorem emX12_takesNumber : Cond.selects mX12_takesNumber.1.cls mX12_takesNumber.1 mX12_takesNumber.1 ∈ cm_W0 := cm_inP 37 rfl rfl
set_option maxRecDepth 100000 in
theorem kmX12_put : cm_mk mX12_put 1 := ⟨cm_inT 1099 rfl rfl, cm_inT 10 rfl rfl, by decide +kernel, ⟨by decide +kernel, by decide +kernel, by decide +kernel⟩, by decide⟩
set_option maxRecDepth 100000 in
theorem imX12_put : Cond.instanceMethod mX12_put.1 ∈ cm_W0 := cm_inT 1098 rfl rfl
set_option maxRecDepth 100000 in
theorem emX12_put : Cond.selects mX12_put.1.cls mX12_put.1 mX12_put.1 ∈ cm_W0 := cm_inP 41 rfl rfl
set_option maxRecDepth 100000 in
theorem kmX12_whole : cm_mk mX12_whole 0 := ⟨cm_inT 1103 rfl rfl, cm_inT 10 rfl rfl, by decide +kernel, ⟨by decide +kernel, by decide +kernel, by decide +kernel⟩, by decide⟩
set_option maxRecDepth 100000 in
theorem imX12_whole : Cond.instanceMethod mX12_whole.1 ∈ cm_W0 := cm_inT 1102 rfl rfl
set_option maxRecDepth 100000 in
theorem emX12_whole : Cond.selects mX12_whole.1.cls mX12_whole.1 mX12_whole.1 ∈ cm_W0 := cm_inP 42 rfl rfl
set_option maxRecDepth 100000 in
theorem kmX12_settle : cm_mk mX12_settle 1 := ⟨cm_inT 1107 rfl rfl, cm_inT 10 rfl rfl, by decide +kernel, ⟨by decide +kernel, by decide +kernel, by decide +kernel⟩, by decide⟩
set_option maxRecDepth 100000 in
theorem imX12_settle : Cond.instanceMethod mX12_settle.1 ∈ cm_W0 := cm_inT 1106 rfl rfl
set_option maxRecDepth 100000 in
theorem emX12_settle : Cond.selects mX12_settle.1.cls mX12_settle.1 mX12_settle.1 ∈ cm_W0 := cm_inP 43 rfl rfl
set_option maxRecDepth 100000 in
theorem kmX12_takesTest : cm_mk mX12_takesTest 0 := ⟨cm_inT 1095 rfl rfl, cm_inT 10 rfl rfl, by decide +kernel, ⟨by decide +kernel, by decide +kernel, by decide +kernel⟩, by decide⟩
set_option maxRecDepth 100000 in
theorem imX12_takesTest : Cond.instanceMethod mX12_takesTest.1 ∈ cm_W0 := cm_inT 1094 rfl rfl
set_option maxRecDepth 100000 in
theorem emX12_takesTest : Cond.selects mX12_takesTest.1.cls mX12_takesTest.1 mX12_takesTest.1 ∈ cm_W0 := cm_inP 40 rfl rfl
set_option maxRecDepth 100000 in
theorem kmX12_takesE : cm_mk mX12_takesE 1 := ⟨cm_inT 1091 rfl rfl, cm_inT 10 rfl rfl, by decide +kernel, ⟨by decide +kernel, by decide +kernel, by decide +kernel⟩, by decide⟩
set_option maxRecDepth 100000 in
theorem imX12_takesE : Cond.instanceMethod mX12_takesE.1 ∈ cm_W0 := cm_inT 1090 rfl rfl
set_option maxRecDepth 100000 in
theorem emX12_takesE : Cond.selects mX12_takesE.1.cls mX12_takesE.1 mX12_takesE.1 ∈ cm_W0 := cm_inP 39 rfl rfl
set_option maxRecDepth 100000 in
theorem kmX12_takesFigure : cm_mk mX12_takesFigure 0 := ⟨cm_inT 1079 rfl rfl, cm_inT 10 rfl rfl, by decide +kernel, ⟨by decide +kernel, by decide +kernel, by decide +kernel⟩, by decide⟩
set_option maxRecDepth 100000 in
theorem imX12_takesFigure : Cond.instanceMethod mX12_takesFigure.1 ∈ cm_W0 := cm_inT 1078 rfl rfl
set_option maxRecDepth 100000 in
theorem emX12_takesFigure : Cond.selects mX12_takesFigure.1.cls mX12_takesFigure.1 mX12_takesFigure.1 ∈ cm_W0 := cm_inP 36 rfl rfl
set_option maxRecDepth 100000 in
theorem kmX12_takesState : cm_mk mX12_takesState 1 := ⟨cm_inT 1075 rfl rfl, cm_inT 10 rfl rfl, by decide +kernel, ⟨by decide +kernel, by decide +kernel, by decide +kernel⟩, by decide⟩
set_option maxRecDepth 100000 in
theorem imX12_takesState : Cond.instanceMethod mX12_takesState.1 ∈ cm_W0 := cm_inT 1074 rfl rfl
set_option maxRecDepth 100000 in
theorem emX12_takesState : Cond.selects mX12_takesState.1.cls mX12_takesState.1 mX12_takesState.1 ∈ cm_W0 := cm_inP 35 rfl rfl
set_option maxRecDepth 100000 in
theorem kmX12_takesClause : cm_mk mX12_takesClause 1 := ⟨cm_inT 1058 rfl rfl, cm_inT 10 rfl rfl, by decide +kernel, ⟨by decide +kernel, by decide +kernel, by decide +kernel⟩, by decide⟩
set_option maxRecDepth 100000 in
theorem imX12_takesClause : Cond.instanceMethod mX12_takesClause.1 ∈ cm_W0 := cm_inT 1057 rfl rfl
set_option maxRecDepth 100000 in
theorem emX12_takesClause : Cond.selects mX12_takesClause.1.cls mX12_takesClause.1 mX12_takesClause.1 ∈ cm_W0 := cm_inP 31 rfl rfl
set_option maxRecDepth 100000 in
theorem kmX12_goes : cm_mk mX12_goes 1 := ⟨cm_inT 1054 rfl rfl, cm_inT 10 rfl rfl, by decide +kernel, ⟨by decide +kernel, by decide +kernel, by decide +kernel⟩, by decide⟩
set_option maxRecDepth 100000 in
theorem imX12_goes : Cond.instanceMethod mX12_goes.1 ∈ cm_W0 := cm_inT 1053 rfl rfl
set_option maxRecDepth 100000 in
theorem emX12_goes : Cond.selects mX12_goes.1.cls mX12_goes.1 mX12_goes.1 ∈ cm_W0 := cm_inP 30 rfl rfl
set_option maxRecDepth 100000 in
theorem kmX12_house : cm_mk mX12_house 0 := ⟨cm_inT 1050 rfl rfl, cm_inT 10 rfl rfl, by decide +kernel, ⟨by decide +kernel, by decide +kernel, by decide +kernel⟩, by decide⟩
set_option maxRecDepth 100000 in
theorem imX12_house : Cond.instanceMethod mX12_house.1 ∈ cm_W0 := cm_inT 1048 rfl rfl
set_option maxRecDepth 100000 in
theorem emX12_house : Cond.selects mX12_house.1.cls mX12_house.1 mX12_house.1 ∈ cm_W0 := cm_inT 1049 rfl rfl
set_option maxRecDepth 100000 in
theorem kmX12_first : cm_mk mX12_first 0 := ⟨cm_inT 1125 rfl rfl, cm_inT 10 rfl rfl, by decide +kernel, ⟨by decide +kernel, by decide +kernel, by decide +kernel⟩, by decide⟩
set_option maxRecDepth 100000 in
theorem imX12_first : Cond.instanceMethod mX12_first.1 ∈ cm_W0 := cm_inT 1124 rfl rfl
set_option maxRecDepth 100000 in
theorem emX12_first : Cond.selects mX12_first.1.cls mX12_first.1 mX12_first.1 ∈ cm_W0 := cm_inP 46 rfl rfl
set_option maxRecDepth 100000 in
theorem kmX12_behind : cm_mk mX12_behind 0 := ⟨cm_inT 1129 rfl rfl, cm_inT 10 rfl rfl, by decide +kernel, ⟨by decide +kernel, by decide +kernel, by decide +kernel⟩, by decide⟩
set_option maxRecDepth 100000 in
theorem imX12_behind : Cond.instanceMethod mX12_behind.1 ∈ cm_W0 := cm_inT 1128 rfl rfl
set_option maxRecDepth 100000 in
theorem emX12_behind : Cond.selects mX12_behind.1.cls mX12_behind.1 mX12_behind.1 ∈ cm_W0 := cm_inP 47 rfl rfl
set_option maxRecDepth 100000 in
theorem kmX12_last : cm_mk mX12_last 2 := ⟨cm_inT 1121 rfl rfl, cm_inT 10 rfl rfl, by decide +kernel, ⟨by decide +kernel, by decide +kernel, by decide +kernel⟩, by decide⟩
set_option maxRecDepth 100000 in
theorem imX12_last : Cond.instanceMethod mX12_last.1 ∈ cm_W0 := cm_inT 1120 rfl rfl
set_option maxRecDepth 100000 in
theorem emX12_last : Cond.selects mX12_last.1.cls mX12_last.1 mX12_last.1 ∈ cm_W0 := cm_inP 45 rfl rfl
set_option maxRecDepth 100000 in
theorem kmX12_of : cm_mk mX12_of 2 := ⟨cm_inT 1117 rfl rfl, cm_inT 10 rfl rfl, by decide +kernel, ⟨by decide +kernel, by decide +kernel, by decide +kernel⟩, by decide⟩
set_option maxRecDepth 100000 in
theorem imX12_of : Cond.instanceMethod mX12_of.1 ∈ cm_W0 := cm_inT 1115 rfl rfl
set_option maxRecDepth 100000 in
theorem emX12_of : Cond.selects mX12_of.1.cls mX12_of.1 mX12_of.1 ∈ cm_W0 := cm_inT 1116 rfl rfl
set_option maxRecDepth 100000 in
theorem kmX12_reading : cm_mk mX12_reading 2 := ⟨cm_inT 1133 rfl rfl, cm_inT 10 rfl rfl, by decide +kernel, ⟨by decide +kernel, by decide +kernel, by decide +kernel⟩, by decide⟩
set_option maxRecDepth 100000 in
theorem imX12_reading : Cond.instanceMethod mX12_reading.1 ∈ cm_W0 := cm_inT 1131 rfl rfl
set_option maxRecDepth 100000 in
theorem emX12_reading : Cond.selects mX12_reading.1.cls mX12_reading.1 mX12_reading.1 ∈ cm_W0 := cm_inT 1132 rfl rfl
set_option maxRecDepth 100000 in
theorem kmX12_clear : cm_mk mX12_clear 1 := ⟨cm_inT 1137 rfl rfl, cm_inT 10 rfl rfl, by decide +kernel, ⟨by decide +kernel, by decide +kernel, by decide +kernel⟩, by decide⟩
set_option maxRecDepth 100000 in
theorem imX12_clear : Cond.instanceMethod mX12_clear.1 ∈ cm_W0 := cm_inT 1135 rfl rfl
set_option maxRecDepth 100000 in
theorem emX12_clear : Cond.selects mX12_clear.1.cls mX12_clear.1 mX12_clear.1 ∈ cm_W0 := cm_inT 1136 rfl rfl
set_option maxRecDepth 100000 in
theorem kmX12_holds : cm_mk mX12_holds 3 := ⟨cm_inT 1165 rfl rfl, cm_inT 10 rfl rfl, by decide +kernel, ⟨by decide +kernel, by decide +kernel, by decide +kernel⟩, by decide⟩
set_option maxRecDepth 100000 in
theorem imX12_holds : Cond.instanceMethod mX12_holds.1 ∈ cm_W0 := cm_inT 1164 rfl rfl
set_option maxRecDepth 100000 in
theorem emX12_holds : Cond.selects mX12_holds.1.cls mX12_holds.1 mX12_holds.1 ∈ cm_W0 := cm_inP 53 rfl rfl
set_option maxRecDepth 100000 in
theorem kmX12_mayBe : cm_mk mX12_mayBe 2 := ⟨cm_inT 1157 rfl rfl, cm_inT 10 rfl rfl, by decide +kernel, ⟨by decide +kernel, by decide +kernel, by decide +kernel⟩, by decide⟩
set_option maxRecDepth 100000 in
theorem imX12_mayBe : Cond.instanceMethod mX12_mayBe.1 ∈ cm_W0 := cm_inT 1156 rfl rfl
set_option maxRecDepth 100000 in
theorem emX12_mayBe : Cond.selects mX12_mayBe.1.cls mX12_mayBe.1 mX12_mayBe.1 ∈ cm_W0 := cm_inP 51 rfl rfl
set_option maxRecDepth 100000 in
theorem kmX12_layWay : cm_mk mX12_layWay 1 := ⟨cm_inT 1153 rfl rfl, cm_inT 10 rfl rfl, by decide +kernel, ⟨by decide +kernel, by decide +kernel, by decide +kernel⟩, by decide⟩
set_option maxRecDepth 100000 in
theorem imX12_layWay : Cond.instanceMethod mX12_layWay.1 ∈ cm_W0 := cm_inT 1152 rfl rfl
set_option maxRecDepth 100000 in
theorem emX12_layWay : Cond.selects mX12_layWay.1.cls mX12_layWay.1 mX12_layWay.1 ∈ cm_W0 := cm_inP 50 rfl rfl
set_option maxRecDepth 100000 in
theorem kmX12_layAll : cm_mk mX12_layAll 0 := ⟨cm_inT 1149 rfl rfl, cm_inT 10 rfl rfl, by decide +kernel, ⟨by decide +kernel, by decide +kernel, by decide +kernel⟩, by decide⟩
set_option maxRecDepth 100000 in
theorem imX12_layAll : Cond.instanceMethod mX12_layAll.1 ∈ cm_W0 := cm_inT 1148 rfl rfl
set_option maxRecDepth 100000 in
theorem emX12_layAll : Cond.selects mX12_layAll.1.cls mX12_layAll.1 mX12_layAll.1 ∈ cm_W0 := cm_inP 49 rfl rfl
set_option maxRecDepth 100000 in
theorem kmX12_isNear : cm_mk mX12_isNear 3 := ⟨cm_inT 1173 rfl rfl, cm_inT 10 rfl rfl, by decide +kernel, ⟨by decide +kernel, by decide +kernel, by decide +kernel⟩, by decide⟩
set_option maxRecDepth 100000 in
theorem imX12_isNear : Cond.instanceMethod mX12_isNear.1 ∈ cm_W0 := cm_inT 1172 rfl rfl
set_option maxRecDepth 100000 in
theorem emX12_isNear : Cond.selects mX12_isNear.1.cls mX12_isNear.1 mX12_isNear.1 ∈ cm_W0 := cm_inP 55 rfl rfl
set_option maxRecDepth 100000 in
theorem kmX12_layFits : cm_mk mX12_layFits 2 := ⟨cm_inT 1169 rfl rfl, cm_inT 10 rfl rfl, by decide +kernel, ⟨by decide +kernel, by decide +kernel, by decide +kernel⟩, by decide⟩
set_option maxRecDepth 100000 in
theorem imX12_layFits : Cond.instanceMethod mX12_layFits.1 ∈ cm_W0 := cm_inT 1168 rfl rfl
set_option maxRecDepth 100000 in
theorem emX12_layFits : Cond.selects mX12_layFits.1.cls mX12_layFits.1 mX12_layFits.1 ∈ cm_W0 := cm_inP 54 rfl rfl
set_option maxRecDepth 100000 in
theorem kmX12_findLive : cm_mk mX12_findLive 0 := ⟨cm_inT 1185 rfl rfl, cm_inT 10 rfl rfl, by decide +kernel, ⟨by decide +kernel, by decide +kernel, by decide +kernel⟩, by decide⟩
set_option maxRecDepth 100000 in
theorem imX12_findLive : Cond.instanceMethod mX12_findLive.1 ∈ cm_W0 := cm_inT 1184 rfl rfl
set_option maxRecDepth 100000 in
theorem emX12_findLive : Cond.selects mX12_findLive.1.cls mX12_findLive.1 mX12_findLive.1 ∈ cm_W0 := cm_inP 57 rfl rfl
set_option maxRecDepth 100000 in
theorem kmX12_look : cm_mk mX12_look 0 := ⟨cm_inT 1181 rfl rfl, cm_inT 10 rfl rfl, by decide +kernel, ⟨by decide +kernel, by decide +kernel, by decide +kernel⟩, by decide⟩
set_option maxRecDepth 100000 in
theorem imX12_look : Cond.instanceMethod mX12_look.1 ∈ cm_W0 := cm_inT 1180 rfl rfl
set_option maxRecDepth 100000 in
theorem emX12_look : Cond.selects mX12_look.1.cls mX12_look.1 mX12_look.1 ∈ cm_W0 := cm_inP 56 rfl rfl
set_option maxRecDepth 100000 in
theorem kmX12_isReading : cm_mk mX12_isReading 1 := ⟨cm_inT 1145 rfl rfl, cm_inT 10 rfl rfl, by decide +kernel, ⟨by decide +kernel, by decide +kernel, by decide +kernel⟩, by decide⟩
set_option maxRecDepth 100000 in
theorem imX12_isReading : Cond.instanceMethod mX12_isReading.1 ∈ cm_W0 := cm_inT 1144 rfl rfl
set_option maxRecDepth 100000 in
theorem emX12_isReading : Cond.selects mX12_isReading.1.cls mX12_isReading.1 mX12_isReading.1 ∈ cm_W0 := cm_inP 48 rfl rfl
set_option maxRecDepth 100000 in
theorem kmX12_fits : cm_mk mX12_fits 2 := ⟨cm_inT 1141 rfl rfl, cm_inT 10 rfl rfl, by decide +kernel, ⟨by decide +kernel, by decide +kernel, by decide +kernel⟩, by decide⟩
set_option maxRecDepth 100000 in
theorem imX12_fits : Cond.instanceMethod mX12_fits.1 ∈ cm_W0 := cm_inT 1139 rfl rfl
set_option maxRecDepth 100000 in
theorem emX12_fits : Cond.selects mX12_fits.1.cls mX12_fits.1 mX12_fits.1 ∈ cm_W0 := cm_inT 1140 rfl rfl
set_option maxRecDepth 100000 in
theorem kmX12_tales : cm_mk mX12_tales 0 := ⟨cm_inT 1177 rfl rfl, cm_inT 10 rfl rfl, by decide +kernel, ⟨by decide +kernel, by decide +kernel, by decide +kernel⟩, by decide⟩
set_option maxRecDepth 100000 in
theorem imX12_tales : Cond.instanceMethod mX12_tales.1 ∈ cm_W0 := cm_inT 1175 rfl rfl
set_option maxRecDepth 100000 in
theorem emX12_tales : Cond.selects mX12_tales.1.cls mX12_tales.1 mX12_tales.1 ∈ cm_W0 := cm_inT 1176 rfl rfl
set_option maxRecDepth 100000 in
theorem kmX12_may : cm_mk mX12_may 1 := ⟨cm_inT 1190 rfl rfl, cm_inT 10 rfl rfl, by decide +kernel, ⟨by decide +kernel, by decide +kernel, by decide +kernel⟩, by decide⟩
set_option maxRecDepth 100000 in
theorem imX12_may : Cond.instanceMethod mX12_may.1 ∈ cm_W0 := cm_inT 1188 rfl rfl
set_option maxRecDepth 100000 in
theorem emX12_may : Cond.selects mX12_may.1.cls mX12_may.1 mX12_may.1 ∈ cm_W0 := cm_inT 1189 rfl rfl
set_option maxRecDepth 100000 in
theorem kmX12_costOf : cm_mk mX12_costOf 3 := ⟨cm_inT 1203 rfl rfl, cm_inT 10 rfl rfl, by decide +kernel, ⟨by decide +kernel, by decide +kernel, by decide +kernel⟩, by decide⟩
set_option maxRecDepth 100000 in
theorem imX12_costOf : Cond.instanceMethod mX12_costOf.1 ∈ cm_W0 := cm_inT 1202 rfl rfl
set_option maxRecDepth 100000 in
theorem emX12_costOf : Cond.selects mX12_costOf.1.cls mX12_costOf.1 mX12_costOf.1 ∈ cm_W0 := cm_inP 59 rfl rfl
set_option maxRecDepth 100000 in
theorem kmX12_findTale : cm_mk mX12_findTale 2 := ⟨cm_inT 1198 rfl rfl, cm_inT 10 rfl rfl, by decide +kernel, ⟨by decide +kernel, by decide +kernel, by decide +kernel⟩, by decide⟩
set_option maxRecDepth 100000 in
theorem imX12_findTale : Cond.instanceMethod mX12_findTale.1 ∈ cm_W0 := cm_inT 1197 rfl rfl
set_option maxRecDepth 100000 in
theorem emX12_findTale : Cond.selects mX12_findTale.1.cls mX12_findTale.1 mX12_findTale.1 ∈ cm_W0 := cm_inP 58 rfl rfl
set_option maxRecDepth 100000 in
theorem kmX12_fewest : cm_mk mX12_fewest 1 := ⟨cm_inT 1194 rfl rfl, cm_inT 10 rfl rfl, by decide +kernel, ⟨by decide +kernel, by decide +kernel, by decide +kernel⟩, by decide⟩
set_option maxRecDepth 100000 in
theorem imX12_fewest : Cond.instanceMethod mX12_fewest.1 ∈ cm_W0 := cm_inT 1192 rfl rfl
set_option maxRecDepth 100000 in
theorem emX12_fewest : Cond.selects mX12_fewest.1.cls mX12_fewest.1 mX12_fewest.1 ∈ cm_W0 := cm_inT 1193 rfl rfl
set_option maxRecDepth 100000 in
theorem kmX12_gladdest : cm_mk mX12_gladdest 1 := ⟨cm_inT 1207 rfl rfl, cm_inT 10 rfl rfl, by decide +kernel, ⟨by decide +kernel, by decide +kernel, by decide +kernel⟩, by decide⟩
set_option maxRecDepth 100000 in
theorem imX12_gladdest : Cond.instanceMethod mX12_gladdest.1 ∈ cm_W0 := cm_inT 1205 rfl rfl
set_option maxRecDepth 100000 in
theorem emX12_gladdest : Cond.selects mX12_gladdest.1.cls mX12_gladdest.1 mX12_gladdest.1 ∈ cm_W0 := cm_inT 1206 rfl rfl
set_option maxRecDepth 100000 in
theorem kmX12_onAt : cm_mk mX12_onAt 2 := ⟨cm_inT 1215 rfl rfl, cm_inT 10 rfl rfl, by decide +kernel, ⟨by decide +kernel, by decide +kernel, by decide +kernel⟩, by decide⟩
set_option maxRecDepth 100000 in
theorem imX12_onAt : Cond.instanceMethod mX12_onAt.1 ∈ cm_W0 := cm_inT 1214 rfl rfl
set_option maxRecDepth 100000 in
theorem emX12_onAt : Cond.selects mX12_onAt.1.cls mX12_onAt.1 mX12_onAt.1 ∈ cm_W0 := cm_inP 60 rfl rfl
set_option maxRecDepth 100000 in
theorem kmX12_sure : cm_mk mX12_sure 2 := ⟨cm_inT 1211 rfl rfl, cm_inT 10 rfl rfl, by decide +kernel, ⟨by decide +kernel, by decide +kernel, by decide +kernel⟩, by decide⟩
set_option maxRecDepth 100000 in
theorem imX12_sure : Cond.instanceMethod mX12_sure.1 ∈ cm_W0 := cm_inT 1209 rfl rfl
set_option maxRecDepth 100000 in
theorem emX12_sure : Cond.selects mX12_sure.1.cls mX12_sure.1 mX12_sure.1 ∈ cm_W0 := cm_inT 1210 rfl rfl
set_option maxRecDepth 100000 in
theorem kmX12_stands : cm_mk mX12_stands 1 := ⟨cm_inT 1227 rfl rfl, cm_inT 10 rfl rfl, by decide +kernel, ⟨by decide +kernel, by decide +kernel, by decide +kernel⟩, by decide⟩
set_option maxRecDepth 100000 in
theorem imX12_stands : Cond.instanceMethod mX12_stands.1 ∈ cm_W0 := cm_inT 1226 rfl rfl
set_option maxRecDepth 100000 in
theorem emX12_stands : Cond.selects mX12_stands.1.cls mX12_stands.1 mX12_stands.1 ∈ cm_W0 := cm_inP 62 rfl rfl
set_option maxRecDepth 100000 in
theorem kmX12_areAlike : cm_mk mX12_areAlike 2 := ⟨cm_inT 1223 rfl rfl, cm_inT 10 rfl rfl, by decide +kernel, ⟨by decide +kernel, by decide +kernel, by decide +kernel⟩, by decide⟩
set_option maxRecDepth 100000 in
theorem imX12_areAlike : Cond.instanceMethod mX12_areAlike.1 ∈ cm_W0 := cm_inT 1222 rfl rfl
set_option maxRecDepth 100000 in
theorem emX12_areAlike : Cond.selects mX12_areAlike.1.cls mX12_areAlike.1 mX12_areAlike.1 ∈ cm_W0 := cm_inP 61 rfl rfl
set_option maxRecDepth 100000 in
theorem kmX12_alike : cm_mk mX12_alike 0 := ⟨cm_inT 1219 rfl rfl, cm_inT 10 rfl rfl, by decide +kernel, ⟨by decide +kernel, by decide +kernel, by decide +kernel⟩, by decide⟩
set_option maxRecDepth 100000 in
theorem imX12_alike : Cond.instanceMethod mX12_alike.1 ∈ cm_W0 := cm_inT 1217 rfl rfl
set_option maxRecDepth 100000 in
theorem emX12_alike : Cond.selects mX12_alike.1.cls mX12_alike.1 mX12_alike.1 ∈ cm_W0 := cm_inT 1218 rfl rfl
set_option maxRecDepth 100000 in
theorem kmX12_secret : cm_mk mX12_secret 0 := ⟨cm_inT 1231 rfl rfl, cm_inT 10 rfl rfl, by decide +kernel, ⟨by decide +kernel, by decide +kernel, by decide +kernel⟩, by decide⟩
set_option maxRecDepth 100000 in
theorem imX12_secret : Cond.instanceMethod mX12_secret.1 ∈ cm_W0 := cm_inT 1229 rfl rfl
set_option maxRecDepth 100000 in
theorem emX12_secret : Cond.selects mX12_secret.1.cls mX12_secret.1 mX12_secret.1 ∈ cm_W0 := cm_inT 1230 rfl rfl
set_option maxRecDepth 100000 in
theorem kmX12_part : cm_mk mX12_part 2 := ⟨cm_inT 1235 rfl rfl, cm_inT 10 rfl rfl, by decide +kernel, ⟨by decide +kernel, by decide +kernel, by decide +kernel⟩, by decide⟩
set_option maxRecDepth 100000 in
theorem imX12_part : Cond.instanceMethod mX12_part.1 ∈ cm_W0 := cm_inT 1233 rfl rfl
set_option maxRecDepth 100000 in
theorem emX12_part : Cond.selects mX12_part.1.cls mX12_part.1 mX12_part.1 ∈ cm_W0 := cm_inT 1234 rfl rfl
set_option maxRecDepth 100000 in
theorem kmX12_wireSum : cm_mk mX12_wireSum 2 := ⟨cm_inT 1243 rfl rfl, cm_inT 10 rfl rfl, by decide +kernel, ⟨by decide +kernel, by decide +kernel, by decide +kernel⟩, by decide⟩
set_option maxRecDepth 100000 in
theorem imX12_wireSum : Cond.instanceMethod mX12_wireSum.1 ∈ cm_W0 := cm_inT 1242 rfl rfl
set_option maxRecDepth 100000 in
theorem emX12_wireSum : Cond.selects mX12_wireSum.1.cls mX12_wireSum.1 mX12_wireSum.1 ∈ cm_W0 := cm_inP 63 rfl rfl
set_option maxRecDepth 100000 in
theorem kmX12_wires : cm_mk mX12_wires 1 := ⟨cm_inT 1239 rfl rfl, cm_inT 10 rfl rfl, by decide +kernel, ⟨by decide +kernel, by decide +kernel, by decide +kernel⟩, by decide⟩
set_option maxRecDepth 100000 in
theorem imX12_wires : Cond.instanceMethod mX12_wires.1 ∈ cm_W0 := cm_inT 1237 rfl rfl
set_option maxRecDepth 100000 in
theorem emX12_wires : Cond.selects mX12_wires.1.cls mX12_wires.1 mX12_wires.1 ∈ cm_W0 := cm_inT 1238 rfl rfl
set_option maxRecDepth 100000 in
theorem kmX12_coarse : cm_mk mX12_coarse 2 := ⟨cm_inT 1247 rfl rfl, cm_inT 10 rfl rfl, by decide +kernel, ⟨by decide +kernel, by decide +kernel, by decide +kernel⟩, by decide⟩
set_option maxRecDepth 100000 in
theorem imX12_coarse : Cond.instanceMethod mX12_coarse.1 ∈ cm_W0 := cm_inT 1245 rfl rfl
set_option maxRecDepth 100000 in
theorem emX12_coarse : Cond.selects mX12_coarse.1.cls mX12_coarse.1 mX12_coarse.1 ∈ cm_W0 := cm_inT 1246 rfl rfl
set_option maxRecDepth 100000 in
theorem kmX12_judge : cm_mk mX12_judge 2 := ⟨cm_inT 1251 rfl rfl, cm_inT 10 rfl rfl, by decide +kernel, ⟨by decide +kernel, by decide +kernel, by decide +kernel⟩, by decide⟩
set_option maxRecDepth 100000 in
theorem imX12_judge : Cond.instanceMethod mX12_judge.1 ∈ cm_W0 := cm_inT 1249 rfl rfl
set_option maxRecDepth 100000 in
theorem emX12_judge : Cond.selects mX12_judge.1.cls mX12_judge.1 mX12_judge.1 ∈ cm_W0 := cm_inT 1250 rfl rfl
set_option maxRecDepth 100000 in
theorem kmX12_image : cm_mk mX12_image 0 := ⟨cm_inT 1259 rfl rfl, cm_inT 10 rfl rfl, by decide +kernel, ⟨by decide +kernel, by decide +kernel, by decide +kernel⟩, by decide⟩
set_option maxRecDepth 100000 in
theorem imX12_image : Cond.instanceMethod mX12_image.1 ∈ cm_W0 := cm_inT 1257 rfl rfl
set_option maxRecDepth 100000 in
theorem emX12_image : Cond.selects mX12_image.1.cls mX12_image.1 mX12_image.1 ∈ cm_W0 := cm_inT 1258 rfl rfl
set_option maxRecDepth 100000 in
theorem kmX12_undo : cm_mk mX12_undo 0 := ⟨cm_inT 1263 rfl rfl, cm_inT 10 rfl rfl, by decide +kernel, ⟨by decide +kernel, by decide +kernel, by decide +kernel⟩, by decide⟩
set_option maxRecDepth 100000 in
theorem imX12_undo : Cond.instanceMethod mX12_undo.1 ∈ cm_W0 := cm_inT 1261 rfl rfl
set_option maxRecDepth 100000 in
theorem emX12_undo : Cond.selects mX12_undo.1.cls mX12_undo.1 mX12_undo.1 ∈ cm_W0 := cm_inT 1262 rfl rfl
set_option maxRecDepth 100000 in
theorem kmX12_body : cm_mk mX12_body 1 := ⟨cm_inT 1275 rfl rfl, cm_inT 10 rfl rfl, by decide +kernel, ⟨by decide +kernel, by decide +kernel, by decide +kernel⟩, by decide⟩
set_option maxRecDepth 100000 in
theorem imX12_body : Cond.instanceMethod mX12_body.1 ∈ cm_W0 := cm_inT 1274 rfl rfl
set_option maxRecDepth 100000 in
theorem emX12_body : Cond.selects mX12_body.1.cls mX12_body.1 mX12_body.1 ∈ cm_W0 := cm_inP 66 rfl rfl
set_option maxRecDepth 100000 in
theorem kmX12_plainTakes : cm_mk mX12_plainTakes 2 := ⟨cm_inT 1279 rfl rfl, cm_inT 10 rfl rfl, by decide +kernel, ⟨by decide +kernel, by decide +kernel, by decide +kernel⟩, by decide⟩
set_option maxRecDepth 100000 in
theorem imX12_plainTakes : Cond.instanceMethod mX12_plainTakes.1 ∈ cm_W0 := cm_inT 1278 rfl rfl
set_option maxRecDepth 100000 in
theorem emX12_plainTakes : Cond.selects mX12_plainTakes.1.cls mX12_plainTakes.1 mX12_plainTakes.1 ∈ cm_W0 := cm_inP 67 rfl rfl
set_option maxRecDepth 100000 in
theorem kmX12_takesAct : cm_mk mX12_takesAct 2 := ⟨cm_inT 1271 rfl rfl, cm_inT 10 rfl rfl, by decide +kernel, ⟨by decide +kernel, by decide +kernel, by decide +kernel⟩, by decide⟩
set_option maxRecDepth 100000 in
theorem imX12_takesAct : Cond.instanceMethod mX12_takesAct.1 ∈ cm_W0 := cm_inT 1270 rfl rfl
set_option maxRecDepth 100000 in
theorem emX12_takesAct : Cond.selects mX12_takesAct.1.cls mX12_takesAct.1 mX12_takesAct.1 ∈ cm_W0 := cm_inP 65 rfl rfl
set_option maxRecDepth 100000 in
theorem kmX12_plainFollows : cm_mk mX12_plainFollows 2 := ⟨cm_inT 1291 rfl rfl, cm_inT 10 rfl rfl, by decide +kernel, ⟨by decide +kernel, by decide +kernel, by decide +kernel⟩, by decide⟩
set_option maxRecDepth 100000 in
theorem imX12_plainFollows : Cond.instanceMethod mX12_plainFollows.1 ∈ cm_W0 := cm_inT 1290 rfl rfl
set_option maxRecDepth 100000 in
theorem emX12_plainFollows : Cond.selects mX12_plainFollows.1.cls mX12_plainFollows.1 mX12_plainFollows.1 ∈ cm_W0 := cm_inP 70 rfl rfl
set_option maxRecDepth 100000 in
theorem kmX12_switchFollows : cm_mk mX12_switchFollows 2 := ⟨cm_inT 1287 rfl rfl, cm_inT 10 rfl rfl, by decide +kernel, ⟨by decide +kernel, by decide +kernel, by decide +kernel⟩, by decide⟩
set_option maxRecDepth 100000 in
theorem imX12_switchFollows : Cond.instanceMethod mX12_switchFollows.1 ∈ cm_W0 := cm_inT 1286 rfl rfl
set_option maxRecDepth 100000 in
theorem emX12_switchFollows : Cond.selects mX12_switchFollows.1.cls mX12_switchFollows.1 mX12_switchFollows.1 ∈ cm_W0 := cm_inP 69 rfl rfl
set_option maxRecDepth 100000 in
theorem kmX12_followsAct : cm_mk mX12_followsAct 2 := ⟨cm_inT 1283 rfl rfl, cm_inT 10 rfl rfl, by decide +kernel, ⟨by decide +kernel, by decide +kernel, by decide +kernel⟩, by decide⟩
set_option maxRecDepth 100000 in
theorem imX12_followsAct : Cond.instanceMethod mX12_followsAct.1 ∈ cm_W0 := cm_inT 1282 rfl rfl
set_option maxRecDepth 100000 in
theorem emX12_followsAct : Cond.selects mX12_followsAct.1.cls mX12_followsAct.1 mX12_followsAct.1 ∈ cm_W0 := cm_inP 68 rfl rfl
set_option maxRecDepth 100000 in
theorem kmX12_plainTells : cm_mk mX12_plainTells 2 := ⟨cm_inT 1299 rfl rfl, cm_inT 10 rfl rfl, by decide +kernel, ⟨by decide +kernel, by decide +kernel, by decide +kernel⟩, by decide⟩
set_option maxRecDepth 100000 in
theorem imX12_plainTells : Cond.instanceMethod mX12_plainTells.1 ∈ cm_W0 := cm_inT 1298 rfl rfl
set_option maxRecDepth 100000 in
theorem emX12_plainTells : Cond.selects mX12_plainTells.1.cls mX12_plainTells.1 mX12_plainTells.1 ∈ cm_W0 := cm_inP 72 rfl rfl
set_option maxRecDepth 100000 in
theorem kmX12_tellsAct : cm_mk mX12_tellsAct 2 := ⟨cm_inT 1295 rfl rfl, cm_inT 10 rfl rfl, by decide +kernel, ⟨by decide +kernel, by decide +kernel, by decide +kernel⟩, by decide⟩
set_option maxRecDepth 100000 in
theorem imX12_tellsAct : Cond.instanceMethod mX12_tellsAct.1 ∈ cm_W0 := cm_inT 1294 rfl rfl
set_option maxRecDepth 100000 in
theorem emX12_tellsAct : Cond.selects mX12_tellsAct.1.cls mX12_tellsAct.1 mX12_tellsAct.1 ∈ cm_W0 := cm_inP 71 rfl rfl
set_option maxRecDepth 100000 in
theorem kmX12_act : cm_mk mX12_act 3 := ⟨cm_inT 1267 rfl rfl, cm_inT 10 rfl rfl, by decide +kernel, ⟨by decide +kernel, by decide +kernel, by decide +kernel⟩, by decide⟩
set_option maxRecDepth 100000 in
theorem imX12_act : Cond.instanceMethod mX12_act.1 ∈ cm_W0 := cm_inT 1265 rfl rfl
set_option maxRecDepth 100000 in
theorem emX12_act : Cond.selects mX12_act.1.cls mX12_act.1 mX12_act.1 ∈ cm_W0 := cm_inT 1266 rfl rfl
set_option maxRecDepth 100000 in
theorem kmX12_trace : cm_mk mX12_trace 1 := ⟨cm_inT 1303 rfl rfl, cm_inT 10 rfl rfl, by decide +kernel, ⟨by decide +kernel, by decide +kernel, by decide +kernel⟩, by decide⟩
set_option maxRecDepth 100000 in
theorem imX12_trace : Cond.instanceMethod mX12_trace.1 ∈ cm_W0 := cm_inT 1301 rfl rfl
set_option maxRecDepth 100000 in
theorem emX12_trace : Cond.selects mX12_trace.1.cls mX12_trace.1 mX12_trace.1 ∈ cm_W0 := cm_inT 1302 rfl rfl
set_option maxRecDepth 100000 in
theorem kmX12_taken : cm_mk mX12_taken 2 := ⟨cm_inT 1307 rfl rfl, cm_inT 10 rfl rfl, by decide +kernel, ⟨by decide +kernel, by decide +kernel, by decide +kernel⟩, by decide⟩
set_option maxRecDepth 100000 in
theorem imX12_taken : Cond.instanceMethod mX12_taken.1 ∈ cm_W0 := cm_inT 1305 rfl rfl
set_option maxRecDepth 100000 in
theorem emX12_taken : Cond.selects mX12_taken.1.cls mX12_taken.1 mX12_taken.1 ∈ cm_W0 := cm_inT 1306 rfl rfl
set_option maxRecDepth 100000 in
theorem kmX12_count : cm_mk mX12_count 1 := ⟨cm_inT 1311 rfl rfl, cm_inT 10 rfl rfl, by decide +kernel, ⟨by decide +kernel, by decide +kernel, by decide +kernel⟩, by decide⟩
set_option maxRecDepth 100000 in
theorem imX12_count : Cond.instanceMethod mX12_count.1 ∈ cm_W0 := cm_inT 1309 rfl rfl
set_option maxRecDepth 100000 in
theorem emX12_count : Cond.selects mX12_count.1.cls mX12_count.1 mX12_count.1 ∈ cm_W0 := cm_inT 1310 rfl rfl
set_option maxRecDepth 100000 in
theorem kmX12_isTape : cm_mk mX12_isTape 1 := ⟨cm_inT 1255 rfl rfl, cm_inT 10 rfl rfl, by decide +kernel, ⟨by decide +kernel, by decide +kernel, by decide +kernel⟩, by decide⟩
set_option maxRecDepth 100000 in
theorem imX12_isTape : Cond.instanceMethod mX12_isTape.1 ∈ cm_W0 := cm_inT 1254 rfl rfl
set_option maxRecDepth 100000 in
theorem emX12_isTape : Cond.selects mX12_isTape.1.cls mX12_isTape.1 mX12_isTape.1 ∈ cm_W0 := cm_inP 64 rfl rfl
set_option maxRecDepth 100000 in
theorem kmX12_tape : cm_mk mX12_tape 3 := ⟨cm_inT 1315 rfl rfl, cm_inT 10 rfl rfl, by decide +kernel, ⟨by decide +kernel, by decide +kernel, by decide +kernel⟩, by decide⟩
set_option maxRecDepth 100000 in
theorem imX12_tape : Cond.instanceMethod mX12_tape.1 ∈ cm_W0 := cm_inT 1313 rfl rfl
set_option maxRecDepth 100000 in
theorem emX12_tape : Cond.selects mX12_tape.1.cls mX12_tape.1 mX12_tape.1 ∈ cm_W0 := cm_inT 1314 rfl rfl
set_option maxRecDepth 100000 in
theorem kmX12_narrow : cm_mk mX12_narrow 2 := ⟨cm_inT 1323 rfl rfl, cm_inT 10 rfl rfl, by decide +kernel, ⟨by decide +kernel, by decide +kernel, by decide +kernel⟩, by decide⟩
set_option maxRecDepth 100000 in
theorem imX12_narrow : Cond.instanceMethod mX12_narrow.1 ∈ cm_W0 := cm_inT 1322 rfl rfl
set_option maxRecDepth 100000 in
theorem emX12_narrow : Cond.selects mX12_narrow.1.cls mX12_narrow.1 mX12_narrow.1 ∈ cm_W0 := cm_inP 73 rfl rfl
set_option maxRecDepth 100000 in
theorem kmX12_item : cm_mk mX12_item 3 := ⟨cm_inT 1319 rfl rfl, cm_inT 10 rfl rfl, by decide +kernel, ⟨by decide +kernel, by decide +kernel, by decide +kernel⟩, by decide⟩
set_option maxRecDepth 100000 in
theorem imX12_item : Cond.instanceMethod mX12_item.1 ∈ cm_W0 := cm_inT 1317 rfl rfl
set_option maxRecDepth 100000 in
theorem emX12_item : Cond.selects mX12_item.1.cls mX12_item.1 mX12_item.1 ∈ cm_W0 := cm_inT 1318 rfl rfl
set_option maxRecDepth 100000 in
theorem kmX12_read : cm_mk mX12_read 2 := ⟨cm_inT 1327 rfl rfl, cm_inT 10 rfl rfl, by decide +kernel, ⟨by decide +kernel, by decide +kernel, by decide +kernel⟩, by decide⟩
set_option maxRecDepth 100000 in
theorem imX12_read : Cond.instanceMethod mX12_read.1 ∈ cm_W0 := cm_inT 1325 rfl rfl
set_option maxRecDepth 100000 in
theorem emX12_read : Cond.selects mX12_read.1.cls mX12_read.1 mX12_read.1 ∈ cm_W0 := cm_inT 1326 rfl rfl
set_option maxRecDepth 100000 in
theorem kmX12_shift : cm_mk mX12_shift 5 := ⟨cm_inT 1332 rfl rfl, cm_inT 10 rfl rfl, by decide +kernel, ⟨by decide +kernel, by decide +kernel, by decide +kernel⟩, by decide⟩
set_option maxRecDepth 100000 in
theorem imX12_shift : Cond.instanceMethod mX12_shift.1 ∈ cm_W0 := cm_inT 1330 rfl rfl
set_option maxRecDepth 100000 in
theorem emX12_shift : Cond.selects mX12_shift.1.cls mX12_shift.1 mX12_shift.1 ∈ cm_W0 := cm_inT 1331 rfl rfl
set_option maxRecDepth 100000 in
theorem kmJ6_bitCount : cm_mk mJ6_bitCount 1 := ⟨cm_inT 692 rfl rfl, cm_inT 19 rfl rfl, by decide +kernel, ⟨by decide +kernel, by decide +kernel, by decide +kernel⟩, by decide⟩
set_option maxRecDepth 100000 in
theorem smJ6_bitCount : Cond.static mJ6_bitCount.1 ∈ cm_W0 := cm_inT 691 rfl rfl
set_option maxRecDepth 100000 in
theorem kmJ13_bitCount : cm_mk mJ13_bitCount 1 := ⟨cm_inT 642 rfl rfl, cm_inT 18 rfl rfl, by decide +kernel, ⟨by decide +kernel, by decide +kernel, by decide +kernel⟩, by decide⟩
set_option maxRecDepth 100000 in
theorem smJ13_bitCount : Cond.static mJ13_bitCount.1 ∈ cm_W0 := cm_inT 641 rfl rfl
set_option maxRecDepth 100000 in
theorem kmJ9_abs : Cond.code Lib.Math.abs.name Lib.Math.abs.code 1 (some .int) ∈ cm_W0 := cm_inT 608 rfl rfl
set_option maxRecDepth 100000 in
theorem smJ9_abs : Cond.static Lib.Math.abs.name ∈ cm_W0 := cm_inT 607 rfl rfl
set_option maxRecDepth 100000 in
theorem kmJ9_min : Cond.code Lib.Math.min.name Lib.Math.min.code 2 (some .int) ∈ cm_W0 := cm_inT 557 rfl rfl
set_option maxRecDepth 100000 in
theorem smJ9_min : Cond.static Lib.Math.min.name ∈ cm_W0 := cm_inT 556 rfl rfl
set_option maxRecDepth 100000 in
theorem kmJ0_length : cm_mk mJ0_length 0 := ⟨cm_inT 410 rfl rfl, cm_inT 13 rfl rfl, by decide +kernel, ⟨by decide +kernel, by decide +kernel, by decide +kernel⟩, by decide⟩
set_option maxRecDepth 100000 in
theorem imJ0_length : Cond.instanceMethod mJ0_length.1 ∈ cm_W0 := cm_inT 408 rfl rfl
set_option maxRecDepth 100000 in
theorem emJ0_length : Cond.selects mJ0_length.1.cls mJ0_length.1 mJ0_length.1 ∈ cm_W0 := cm_inT 409 rfl rfl
set_option maxRecDepth 100000 in
theorem kmJ0_charAt : cm_mk mJ0_charAt 1 := ⟨cm_inT 420 rfl rfl, cm_inT 13 rfl rfl, by decide +kernel, ⟨by decide +kernel, by decide +kernel, by decide +kernel⟩, by decide⟩
set_option maxRecDepth 100000 in
theorem imJ0_charAt : Cond.instanceMethod mJ0_charAt.1 ∈ cm_W0 := cm_inT 418 rfl rfl
set_option maxRecDepth 100000 in
theorem emJ0_charAt : Cond.selects mJ0_charAt.1.cls mJ0_charAt.1 mJ0_charAt.1 ∈ cm_W0 := cm_inT 419 rfl rfl
set_option maxRecDepth 100000 in
theorem kmJ0_coder : cm_mk mJ0_coder 0 := ⟨cm_inT 414 rfl rfl, cm_inT 13 rfl rfl, by decide +kernel, ⟨by decide +kernel, by decide +kernel, by decide +kernel⟩, by decide⟩
set_option maxRecDepth 100000 in
theorem imJ0_coder : Cond.instanceMethod mJ0_coder.1 ∈ cm_W0 := cm_inT 412 rfl rfl
set_option maxRecDepth 100000 in
theorem emJ0_coder : Cond.selects mJ0_coder.1.cls mJ0_coder.1 mJ0_coder.1 ∈ cm_W0 := cm_inT 413 rfl rfl
set_option maxRecDepth 100000 in
theorem kmJ0_isLatin1 : cm_mk mJ0_isLatin1 0 := ⟨cm_inT 424 rfl rfl, cm_inT 13 rfl rfl, by decide +kernel, ⟨by decide +kernel, by decide +kernel, by decide +kernel⟩, by decide⟩
set_option maxRecDepth 100000 in
theorem imJ0_isLatin1 : Cond.instanceMethod mJ0_isLatin1.1 ∈ cm_W0 := cm_inT 422 rfl rfl
set_option maxRecDepth 100000 in
theorem emJ0_isLatin1 : Cond.selects mJ0_isLatin1.1.cls mJ0_isLatin1.1 mJ0_isLatin1.1 ∈ cm_W0 := cm_inT 423 rfl rfl
set_option maxRecDepth 100000 in
theorem kmJ0_checkIndex : cm_mk mJ0_checkIndex 2 := ⟨cm_inT 430 rfl rfl, cm_inT 13 rfl rfl, by decide +kernel, ⟨by decide +kernel, by decide +kernel, by decide +kernel⟩, by decide⟩
set_option maxRecDepth 100000 in
theorem smJ0_checkIndex : Cond.static mJ0_checkIndex.1 ∈ cm_W0 := cm_inT 429 rfl rfl
set_option maxRecDepth 100000 in
theorem kmJ1_charAt : cm_mk mJ1_charAt 2 := ⟨cm_inT 427 rfl rfl, cm_inT 14 rfl rfl, by decide +kernel, ⟨by decide +kernel, by decide +kernel, by decide +kernel⟩, by decide⟩
set_option maxRecDepth 100000 in
theorem smJ1_charAt : Cond.static mJ1_charAt.1 ∈ cm_W0 := cm_inT 426 rfl rfl
set_option maxRecDepth 100000 in
theorem kmJ2_getChar : cm_mk mJ2_getChar 2 := ⟨cm_inT 448 rfl rfl, cm_inT 16 rfl rfl, by decide +kernel, ⟨by decide +kernel, by decide +kernel, by decide +kernel⟩, by decide⟩
set_option maxRecDepth 100000 in
theorem smJ2_getChar : Cond.static mJ2_getChar.1 ∈ cm_W0 := cm_inT 447 rfl rfl
set_option maxRecDepth 100000 in
theorem kmJ2_length : cm_mk mJ2_length 1 := ⟨cm_inT 444 rfl rfl, cm_inT 16 rfl rfl, by decide +kernel, ⟨by decide +kernel, by decide +kernel, by decide +kernel⟩, by decide⟩
set_option maxRecDepth 100000 in
theorem smJ2_length : Cond.static mJ2_length.1 ∈ cm_W0 := cm_inT 443 rfl rfl
set_option maxRecDepth 100000 in
theorem kmJ2_charAt : cm_mk mJ2_charAt 2 := ⟨cm_inT 438 rfl rfl, cm_inT 16 rfl rfl, by decide +kernel, ⟨by decide +kernel, by decide +kernel, by decide +kernel⟩, by decide⟩
set_option maxRecDepth 100000 in
theorem smJ2_charAt : Cond.static mJ2_charAt.1 ∈ cm_W0 := cm_inT 437 rfl rfl
set_option maxRecDepth 100000 in
theorem kmJ2_checkIndex : cm_mk mJ2_checkIndex 2 := ⟨cm_inT 441 rfl rfl, cm_inT 16 rfl rfl, by decide +kernel, ⟨by decide +kernel, by decide +kernel, by decide +kernel⟩, by decide⟩
set_option maxRecDepth 100000 in
theorem smJ2_checkIndex : Cond.static mJ2_checkIndex.1 ∈ cm_W0 := cm_inT 440 rfl rfl
set_option maxRecDepth 100000 in
theorem kmJ3_checkIndex : cm_mk mJ3_checkIndex 3 := ⟨cm_inT 435 rfl rfl, cm_inT 15 rfl rfl, by decide +kernel, ⟨by decide +kernel, by decide +kernel, by decide +kernel⟩, by decide⟩
set_option maxRecDepth 100000 in
theorem smJ3_checkIndex : Cond.static mJ3_checkIndex.1 ∈ cm_W0 := cm_inT 434 rfl rfl
theorem wiX1 : ∀ w ∈ u_ws RX1 TX1 6, w ∈ cm_W0 := by decide +kernel
theorem wiX2 : ∀ w ∈ u_ws RX2 TX2 4, w ∈ cm_W0 := by decide +kernel
theorem wiX3 : ∀ w ∈ u_ws RX3 TX3 8, w ∈ cm_W0 := by decide +kernel
theorem wiX5 : ∀ w ∈ u_ws RX5 TX5 2, w ∈ cm_W0 := by decide +kernel
theorem wiX6 : ∀ w ∈ u_ws RX6 TX6 3, w ∈ cm_W0 := by decide +kernel
theorem wiX7 : ∀ w ∈ u_ws RX7 TX7 15, w ∈ cm_W0 := by decide +kernel
theorem wiX8 : ∀ w ∈ u_ws RX8 TX8 2, w ∈ cm_W0 := by decide +kernel
theorem wiX9 : ∀ w ∈ u_ws RX9 TX9 3, w ∈ cm_W0 := by decide +kernel
theorem wiX10 : ∀ w ∈ u_ws RX10 TX10 2, w ∈ cm_W0 := by decide +kernel
theorem wiX11 : ∀ w ∈ u_ws RX11 TX11 16, w ∈ cm_W0 := by decide +kernel
theorem wiX12 : ∀ w ∈ u_ws RX12 TX12 45, w ∈ cm_W0 := by decide +kernel
set_option maxRecDepth 100000 in
theorem wfX3_11 : cm_fo RX3 11 2 0 := fun C T N h => by cases h; exact ⟨rfl, cm_inT 38 rfl rfl⟩
set_option maxRecDepth 100000 in
theorem fX3_11 : cm_fl RX3 11 2 0 2 true := ⟨RX3, TX3, 8, tyX3, rfl, wiX3, tyX3_ok, nmX3, by decide, rfl, Or.inl (cm_inT 38 rfl rfl), rfl, fun h => absurd h (by decide), fun h => absurd h (by decide), fun h => absurd h (by decide), fun _ => Or.inr ⟨_, rfl⟩⟩
set_option maxRecDepth 100000 in
theorem wfX3_17 : cm_fo RX3 17 2 1 := fun C T N h => by cases h; exact ⟨rfl, cm_inT 39 rfl rfl⟩
set_option maxRecDepth 100000 in
theorem fX3_17 : cm_fl RX3 17 2 1 2 true := ⟨RX3, TX3, 8, tyX3, rfl, wiX3, tyX3_ok, nmX3, by decide, rfl, Or.inl (cm_inT 39 rfl rfl), rfl, fun h => absurd h (by decide), fun h => absurd h (by decide), fun h => absurd h (by decide), fun _ => Or.inr ⟨_, rfl⟩⟩
set_option maxRecDepth 100000 in
theorem wfX3_21 : cm_fo RX3 21 2 2 := fun C T N h => by cases h; exact ⟨rfl, cm_inT 40 rfl rfl⟩
set_option maxRecDepth 100000 in
theorem fX3_21 : cm_fl RX3 21 2 2 2 true := ⟨RX3, TX3, 8, tyX3, rfl, wiX3, tyX3_ok, nmX3, by decide, rfl, Or.inl (cm_inT 40 rfl rfl), rfl, fun h => absurd h (by decide), fun h => absurd h (by decide), fun h => absurd h (by decide), fun _ => Or.inr ⟨_, rfl⟩⟩
set_option maxRecDepth 100000 in
theorem wfX3_24 : cm_fo RX3 24 2 3 := fun C T N h => by cases h; exact ⟨rfl, cm_inT 41 rfl rfl⟩
set_option maxRecDepth 100000 in
theorem fX3_24 : cm_fl RX3 24 2 3 2 true := ⟨RX3, TX3, 8, tyX3, rfl, wiX3, tyX3_ok, nmX3, by decide, rfl, Or.inl (cm_inT 41 rfl rfl), rfl, fun h => absurd h (by decide), fun h => absurd h (by decide), fun h => absurd h (by decide), fun _ => Or.inr ⟨_, rfl⟩⟩
set_option maxRecDepth 100000 in
theorem wfX3_27 : cm_fo RX3 27 2 4 := fun C T N h => by cases h; exact ⟨rfl, cm_inT 42 rfl rfl⟩
set_option maxRecDepth 100000 in
theorem fX3_27 : cm_fl RX3 27 2 4 2 true := ⟨RX3, TX3, 8, tyX3, rfl, wiX3, tyX3_ok, nmX3, by decide, rfl, Or.inl (cm_inT 42 rfl rfl), rfl, fun h => absurd h (by decide), fun h => absurd h (by decide), fun h => absurd h (by decide), fun _ => Or.inr ⟨_, rfl⟩⟩
set_option maxRecDepth 100000 in
theorem fX3_31 : cm_fl RX3 31 2 5 1 false := ⟨RX3, TX3, 8, tyX3, rfl, wiX3, tyX3_ok, nmX3, by decide, rfl, Or.inl (cm_inT 43 rfl rfl), rfl, fun h => absurd h (by decide), fun _ => rfl, fun h => absurd h (by decide), fun h => absurd h (by decide)⟩
set_option maxRecDepth 100000 in
theorem fX3_35 : cm_fl RX3 35 2 6 0 false := ⟨RX3, TX3, 8, tyX3, rfl, wiX3, tyX3_ok, nmX3, by decide, rfl, Or.inl (cm_inT 44 rfl rfl), rfl, fun _ => rfl, fun h => absurd h (by decide), fun h => absurd h (by decide), fun h => absurd h (by decide)⟩
set_option maxRecDepth 100000 in
theorem fX11_114 : cm_fl RX11 114 2 6 0 false := ⟨RX3, TX3, 8, tyX3, rfl, wiX3, tyX3_ok, nmX3, by decide, rfl, Or.inr ⟨"CellarMeter", cm_inN 45 rfl rfl⟩, rfl, fun _ => rfl, fun h => absurd h (by decide), fun h => absurd h (by decide), fun h => absurd h (by decide)⟩
set_option maxRecDepth 100000 in
theorem fX7_163 : cm_fl RX7 163 2 6 0 false := ⟨RX3, TX3, 8, tyX3, rfl, wiX3, tyX3_ok, nmX3, by decide, rfl, Or.inr ⟨"CellarMeter", cm_inN 46 rfl rfl⟩, rfl, fun _ => rfl, fun h => absurd h (by decide), fun h => absurd h (by decide), fun h => absurd h (by decide)⟩
set_option maxRecDepth 100000 in
theorem fX3_39 : cm_fl RX3 39 2 7 0 false := ⟨RX3, TX3, 8, tyX3, rfl, wiX3, tyX3_ok, nmX3, by decide, rfl, Or.inl (cm_inT 47 rfl rfl), rfl, fun _ => rfl, fun h => absurd h (by decide), fun h => absurd h (by decide), fun h => absurd h (by decide)⟩
set_option maxRecDepth 100000 in
theorem fX7_73 : cm_fl RX7 73 2 7 0 false := ⟨RX3, TX3, 8, tyX3, rfl, wiX3, tyX3_ok, nmX3, by decide, rfl, Or.inr ⟨"CellarMeter", cm_inN 48 rfl rfl⟩, rfl, fun _ => rfl, fun h => absurd h (by decide), fun h => absurd h (by decide), fun h => absurd h (by decide)⟩
set_option maxRecDepth 100000 in
theorem fX11_246 : cm_fl RX11 246 2 7 0 false := ⟨RX3, TX3, 8, tyX3, rfl, wiX3, tyX3_ok, nmX3, by decide, rfl, Or.inr ⟨"CellarMeter", cm_inN 49 rfl rfl⟩, rfl, fun _ => rfl, fun h => absurd h (by decide), fun h => absurd h (by decide), fun h => absurd h (by decide)⟩
set_option maxRecDepth 100000 in
theorem wfX8_9 : cm_fo RX8 9 6 0 := fun C T N h => by cases h; exact ⟨rfl, cm_inT 75 rfl rfl⟩
set_option maxRecDepth 100000 in
theorem fX8_9 : cm_fl RX8 9 6 0 2 true := ⟨RX8, TX8, 2, tyX8, rfl, wiX8, tyX8_ok, nmX8, by decide, rfl, Or.inl (cm_inT 75 rfl rfl), rfl, fun h => absurd h (by decide), fun h => absurd h (by decide), fun h => absurd h (by decide), fun _ => Or.inr ⟨_, rfl⟩⟩
set_option maxRecDepth 100000 in
theorem fX8_15 : cm_fl RX8 15 6 1 0 false := ⟨RX8, TX8, 2, tyX8, rfl, wiX8, tyX8_ok, nmX8, by decide, rfl, Or.inl (cm_inT 76 rfl rfl), rfl, fun _ => rfl, fun h => absurd h (by decide), fun h => absurd h (by decide), fun h => absurd h (by decide)⟩
set_option maxRecDepth 100000 in
theorem fX2_35 : cm_fl RX2 35 6 1 0 false := ⟨RX8, TX8, 2, tyX8, rfl, wiX8, tyX8_ok, nmX8, by decide, rfl, Or.inr ⟨"CellarMeter", cm_inN 77 rfl rfl⟩, rfl, fun _ => rfl, fun h => absurd h (by decide), fun h => absurd h (by decide), fun h => absurd h (by decide)⟩
set_option maxRecDepth 100000 in
theorem fX11_145 : cm_fl RX11 145 6 1 0 false := ⟨RX8, TX8, 2, tyX8, rfl, wiX8, tyX8_ok, nmX8, by decide, rfl, Or.inr ⟨"CellarMeter", cm_inN 78 rfl rfl⟩, rfl, fun _ => rfl, fun h => absurd h (by decide), fun h => absurd h (by decide), fun h => absurd h (by decide)⟩
set_option maxRecDepth 100000 in
theorem wfX2_23 : cm_fo RX2 23 1 0 := fun C T N h => by cases h; exact ⟨rfl, cm_inT 90 rfl rfl⟩
set_option maxRecDepth 100000 in
theorem fX2_23 : cm_fl RX2 23 1 0 2 true := ⟨RX2, TX2, 4, tyX2, rfl, wiX2, tyX2_ok, nmX2, by decide, rfl, Or.inl (cm_inT 90 rfl rfl), rfl, fun h => absurd h (by decide), fun h => absurd h (by decide), fun h => absurd h (by decide), fun _ => Or.inl ⟨_, rfl⟩⟩
set_option maxRecDepth 100000 in
theorem fX2_9 : cm_fl RX2 9 1 1 2 false := ⟨RX2, TX2, 4, tyX2, rfl, wiX2, tyX2_ok, nmX2, by decide, rfl, Or.inl (cm_inT 91 rfl rfl), rfl, fun h => absurd h (by decide), fun h => absurd h (by decide), fun h => absurd h (by decide), fun _ => Or.inl ⟨_, rfl⟩⟩
set_option maxRecDepth 100000 in
theorem fX2_15 : cm_fl RX2 15 1 2 0 false := ⟨RX2, TX2, 4, tyX2, rfl, wiX2, tyX2_ok, nmX2, by decide, rfl, Or.inl (cm_inT 92 rfl rfl), rfl, fun _ => rfl, fun h => absurd h (by decide), fun h => absurd h (by decide), fun h => absurd h (by decide)⟩
set_option maxRecDepth 100000 in
theorem fX2_19 : cm_fl RX2 19 1 3 3 false := ⟨RX2, TX2, 4, tyX2, rfl, wiX2, tyX2_ok, nmX2, by decide, rfl, Or.inl (cm_inT 93 rfl rfl), rfl, fun h => absurd h (by decide), fun h => absurd h (by decide), fun _ => rfl, fun h => absurd h (by decide)⟩
set_option maxRecDepth 100000 in
theorem wfX1_9 : cm_fo RX1 9 0 0 := fun C T N h => by cases h; exact ⟨rfl, cm_inT 110 rfl rfl⟩
set_option maxRecDepth 100000 in
theorem fX1_9 : cm_fl RX1 9 0 0 2 true := ⟨RX1, TX1, 6, tyX1, rfl, wiX1, tyX1_ok, nmX1, by decide, rfl, Or.inl (cm_inT 110 rfl rfl), rfl, fun h => absurd h (by decide), fun h => absurd h (by decide), fun h => absurd h (by decide), fun _ => Or.inr ⟨_, rfl⟩⟩
set_option maxRecDepth 100000 in
theorem fX7_76 : cm_fl RX7 76 0 0 2 true := ⟨RX1, TX1, 6, tyX1, rfl, wiX1, tyX1_ok, nmX1, by decide, rfl, Or.inr ⟨"CellarMeter", cm_inN 111 rfl rfl⟩, rfl, fun h => absurd h (by decide), fun h => absurd h (by decide), fun h => absurd h (by decide), fun _ => Or.inr ⟨_, rfl⟩⟩
set_option maxRecDepth 100000 in
theorem wfX1_15 : cm_fo RX1 15 0 1 := fun C T N h => by cases h; exact ⟨rfl, cm_inT 112 rfl rfl⟩
set_option maxRecDepth 100000 in
theorem fX1_15 : cm_fl RX1 15 0 1 2 true := ⟨RX1, TX1, 6, tyX1, rfl, wiX1, tyX1_ok, nmX1, by decide, rfl, Or.inl (cm_inT 112 rfl rfl), rfl, fun h => absurd h (by decide), fun h => absurd h (by decide), fun h => absurd h (by decide), fun _ => Or.inr ⟨_, rfl⟩⟩
set_option maxRecDepth 100000 in
theorem fX7_160 : cm_fl RX7 160 0 1 2 true := ⟨RX1, TX1, 6, tyX1, rfl, wiX1, tyX1_ok, nmX1, by decide, rfl, Or.inr ⟨"CellarMeter", cm_inN 113 rfl rfl⟩, rfl, fun h => absurd h (by decide), fun h => absurd h (by decide), fun h => absurd h (by decide), fun _ => Or.inr ⟨_, rfl⟩⟩
set_option maxRecDepth 100000 in
theorem wfX1_18 : cm_fo RX1 18 0 2 := fun C T N h => by cases h; exact ⟨rfl, cm_inT 114 rfl rfl⟩
set_option maxRecDepth 100000 in
theorem fX1_18 : cm_fl RX1 18 0 2 2 true := ⟨RX1, TX1, 6, tyX1, rfl, wiX1, tyX1_ok, nmX1, by decide, rfl, Or.inl (cm_inT 114 rfl rfl), rfl, fun h => absurd h (by decide), fun h => absurd h (by decide), fun h => absurd h (by decide), fun _ => Or.inr ⟨_, rfl⟩⟩
set_option maxRecDepth 100000 in
theorem fX1_21 : cm_fl RX1 21 0 3 0 false := ⟨RX1, TX1, 6, tyX1, rfl, wiX1, tyX1_ok, nmX1, by decide, rfl, Or.inl (cm_inT 115 rfl rfl), rfl, fun _ => rfl, fun h => absurd h (by decide), fun h => absurd h (by decide), fun h => absurd h (by decide)⟩
set_option maxRecDepth 100000 in
theorem fX1_25 : cm_fl RX1 25 0 4 0 false := ⟨RX1, TX1, 6, tyX1, rfl, wiX1, tyX1_ok, nmX1, by decide, rfl, Or.inl (cm_inT 116 rfl rfl), rfl, fun _ => rfl, fun h => absurd h (by decide), fun h => absurd h (by decide), fun h => absurd h (by decide)⟩
set_option maxRecDepth 100000 in
theorem fX1_28 : cm_fl RX1 28 0 5 0 false := ⟨RX1, TX1, 6, tyX1, rfl, wiX1, tyX1_ok, nmX1, by decide, rfl, Or.inl (cm_inT 117 rfl rfl), rfl, fun _ => rfl, fun h => absurd h (by decide), fun h => absurd h (by decide), fun h => absurd h (by decide)⟩
set_option maxRecDepth 100000 in
theorem fX7_99 : cm_fl RX7 99 0 5 0 false := ⟨RX1, TX1, 6, tyX1, rfl, wiX1, tyX1_ok, nmX1, by decide, rfl, Or.inr ⟨"CellarMeter", cm_inN 118 rfl rfl⟩, rfl, fun _ => rfl, fun h => absurd h (by decide), fun h => absurd h (by decide), fun h => absurd h (by decide)⟩
set_option maxRecDepth 100000 in
theorem fX2_68 : cm_fl RX2 68 0 5 0 false := ⟨RX1, TX1, 6, tyX1, rfl, wiX1, tyX1_ok, nmX1, by decide, rfl, Or.inr ⟨"CellarMeter", cm_inN 119 rfl rfl⟩, rfl, fun _ => rfl, fun h => absurd h (by decide), fun h => absurd h (by decide), fun h => absurd h (by decide)⟩
set_option maxRecDepth 100000 in
theorem wfX5_9 : cm_fo RX5 9 3 0 := fun C T N h => by cases h; exact ⟨rfl, cm_inT 139 rfl rfl⟩
set_option maxRecDepth 100000 in
theorem fX5_9 : cm_fl RX5 9 3 0 2 true := ⟨RX5, TX5, 2, tyX5, rfl, wiX5, tyX5_ok, nmX5, by decide, rfl, Or.inl (cm_inT 139 rfl rfl), rfl, fun h => absurd h (by decide), fun h => absurd h (by decide), fun h => absurd h (by decide), fun _ => Or.inr ⟨_, rfl⟩⟩
set_option maxRecDepth 100000 in
theorem fX5_15 : cm_fl RX5 15 3 1 0 false := ⟨RX5, TX5, 2, tyX5, rfl, wiX5, tyX5_ok, nmX5, by decide, rfl, Or.inl (cm_inT 140 rfl rfl), rfl, fun _ => rfl, fun h => absurd h (by decide), fun h => absurd h (by decide), fun h => absurd h (by decide)⟩
set_option maxRecDepth 100000 in
theorem fX7_62 : cm_fl RX7 62 3 1 0 false := ⟨RX5, TX5, 2, tyX5, rfl, wiX5, tyX5_ok, nmX5, by decide, rfl, Or.inr ⟨"CellarMeter", cm_inN 141 rfl rfl⟩, rfl, fun _ => rfl, fun h => absurd h (by decide), fun h => absurd h (by decide), fun h => absurd h (by decide)⟩
set_option maxRecDepth 100000 in
theorem fX11_104 : cm_fl RX11 104 3 1 0 false := ⟨RX5, TX5, 2, tyX5, rfl, wiX5, tyX5_ok, nmX5, by decide, rfl, Or.inr ⟨"CellarMeter", cm_inN 142 rfl rfl⟩, rfl, fun _ => rfl, fun h => absurd h (by decide), fun h => absurd h (by decide), fun h => absurd h (by decide)⟩
set_option maxRecDepth 100000 in
theorem wfX7_54 : cm_fo RX7 54 5 0 := fun C T N h => by cases h; exact ⟨rfl, cm_inT 154 rfl rfl⟩
set_option maxRecDepth 100000 in
theorem fX7_54 : cm_fl RX7 54 5 0 2 true := ⟨RX7, TX7, 15, tyX7, rfl, wiX7, tyX7_ok, nmX7, by decide, rfl, Or.inl (cm_inT 154 rfl rfl), rfl, fun h => absurd h (by decide), fun h => absurd h (by decide), fun h => absurd h (by decide), fun _ => Or.inl ⟨_, rfl⟩⟩
set_option maxRecDepth 100000 in
theorem wfX7_58 : cm_fo RX7 58 5 1 := fun C T N h => by cases h; exact ⟨rfl, cm_inT 155 rfl rfl⟩
set_option maxRecDepth 100000 in
theorem fX7_58 : cm_fl RX7 58 5 1 2 true := ⟨RX7, TX7, 15, tyX7, rfl, wiX7, tyX7_ok, nmX7, by decide, rfl, Or.inl (cm_inT 155 rfl rfl), rfl, fun h => absurd h (by decide), fun h => absurd h (by decide), fun h => absurd h (by decide), fun _ => Or.inl ⟨_, rfl⟩⟩
set_option maxRecDepth 100000 in
theorem wfX7_9 : cm_fo RX7 9 5 2 := fun C T N h => by cases h; exact ⟨rfl, cm_inT 156 rfl rfl⟩
set_option maxRecDepth 100000 in
theorem fX7_9 : cm_fl RX7 9 5 2 2 true := ⟨RX7, TX7, 15, tyX7, rfl, wiX7, tyX7_ok, nmX7, by decide, rfl, Or.inl (cm_inT 156 rfl rfl), rfl, fun h => absurd h (by decide), fun h => absurd h (by decide), fun h => absurd h (by decide), fun _ => Or.inr ⟨_, rfl⟩⟩
set_option maxRecDepth 100000 in
theorem wfX7_15 : cm_fo RX7 15 5 3 := fun C T N h => by cases h; exact ⟨rfl, cm_inT 157 rfl rfl⟩
set_option maxRecDepth 100000 in
theorem fX7_15 : cm_fl RX7 15 5 3 2 true := ⟨RX7, TX7, 15, tyX7, rfl, wiX7, tyX7_ok, nmX7, by decide, rfl, Or.inl (cm_inT 157 rfl rfl), rfl, fun h => absurd h (by decide), fun h => absurd h (by decide), fun h => absurd h (by decide), fun _ => Or.inr ⟨_, rfl⟩⟩
set_option maxRecDepth 100000 in
theorem wfX7_18 : cm_fo RX7 18 5 4 := fun C T N h => by cases h; exact ⟨rfl, cm_inT 158 rfl rfl⟩
set_option maxRecDepth 100000 in
theorem fX7_18 : cm_fl RX7 18 5 4 2 true := ⟨RX7, TX7, 15, tyX7, rfl, wiX7, tyX7_ok, nmX7, by decide, rfl, Or.inl (cm_inT 158 rfl rfl), rfl, fun h => absurd h (by decide), fun h => absurd h (by decide), fun h => absurd h (by decide), fun _ => Or.inr ⟨_, rfl⟩⟩
set_option maxRecDepth 100000 in
theorem wfX7_21 : cm_fo RX7 21 5 5 := fun C T N h => by cases h; exact ⟨rfl, cm_inT 159 rfl rfl⟩
set_option maxRecDepth 100000 in
theorem fX7_21 : cm_fl RX7 21 5 5 2 true := ⟨RX7, TX7, 15, tyX7, rfl, wiX7, tyX7_ok, nmX7, by decide, rfl, Or.inl (cm_inT 159 rfl rfl), rfl, fun h => absurd h (by decide), fun h => absurd h (by decide), fun h => absurd h (by decide), fun _ => Or.inr ⟨_, rfl⟩⟩
set_option maxRecDepth 100000 in
theorem wfX7_24 : cm_fo RX7 24 5 6 := fun C T N h => by cases h; exact ⟨rfl, cm_inT 160 rfl rfl⟩
set_option maxRecDepth 100000 in
theorem fX7_24 : cm_fl RX7 24 5 6 2 true := ⟨RX7, TX7, 15, tyX7, rfl, wiX7, tyX7_ok, nmX7, by decide, rfl, Or.inl (cm_inT 160 rfl rfl), rfl, fun h => absurd h (by decide), fun h => absurd h (by decide), fun h => absurd h (by decide), fun _ => Or.inr ⟨_, rfl⟩⟩
set_option maxRecDepth 100000 in
theorem wfX7_28 : cm_fo RX7 28 5 7 := fun C T N h => by cases h; exact ⟨rfl, cm_inT 161 rfl rfl⟩
set_option maxRecDepth 100000 in
theorem fX7_28 : cm_fl RX7 28 5 7 2 true := ⟨RX7, TX7, 15, tyX7, rfl, wiX7, tyX7_ok, nmX7, by decide, rfl, Or.inl (cm_inT 161 rfl rfl), rfl, fun h => absurd h (by decide), fun h => absurd h (by decide), fun h => absurd h (by decide), fun _ => Or.inr ⟨_, rfl⟩⟩
set_option maxRecDepth 100000 in
theorem wfX7_31 : cm_fo RX7 31 5 8 := fun C T N h => by cases h; exact ⟨rfl, cm_inT 162 rfl rfl⟩
set_option maxRecDepth 100000 in
theorem fX7_31 : cm_fl RX7 31 5 8 2 true := ⟨RX7, TX7, 15, tyX7, rfl, wiX7, tyX7_ok, nmX7, by decide, rfl, Or.inl (cm_inT 162 rfl rfl), rfl, fun h => absurd h (by decide), fun h => absurd h (by decide), fun h => absurd h (by decide), fun _ => Or.inr ⟨_, rfl⟩⟩
set_option maxRecDepth 100000 in
theorem wfX7_34 : cm_fo RX7 34 5 9 := fun C T N h => by cases h; exact ⟨rfl, cm_inT 163 rfl rfl⟩
set_option maxRecDepth 100000 in
theorem fX7_34 : cm_fl RX7 34 5 9 2 true := ⟨RX7, TX7, 15, tyX7, rfl, wiX7, tyX7_ok, nmX7, by decide, rfl, Or.inl (cm_inT 163 rfl rfl), rfl, fun h => absurd h (by decide), fun h => absurd h (by decide), fun h => absurd h (by decide), fun _ => Or.inr ⟨_, rfl⟩⟩
set_option maxRecDepth 100000 in
theorem wfX7_37 : cm_fo RX7 37 5 10 := fun C T N h => by cases h; exact ⟨rfl, cm_inT 164 rfl rfl⟩
set_option maxRecDepth 100000 in
theorem fX7_37 : cm_fl RX7 37 5 10 2 true := ⟨RX7, TX7, 15, tyX7, rfl, wiX7, tyX7_ok, nmX7, by decide, rfl, Or.inl (cm_inT 164 rfl rfl), rfl, fun h => absurd h (by decide), fun h => absurd h (by decide), fun h => absurd h (by decide), fun _ => Or.inr ⟨_, rfl⟩⟩
set_option maxRecDepth 100000 in
theorem wfX7_40 : cm_fo RX7 40 5 11 := fun C T N h => by cases h; exact ⟨rfl, cm_inT 165 rfl rfl⟩
set_option maxRecDepth 100000 in
theorem fX7_40 : cm_fl RX7 40 5 11 2 true := ⟨RX7, TX7, 15, tyX7, rfl, wiX7, tyX7_ok, nmX7, by decide, rfl, Or.inl (cm_inT 165 rfl rfl), rfl, fun h => absurd h (by decide), fun h => absurd h (by decide), fun h => absurd h (by decide), fun _ => Or.inr ⟨_, rfl⟩⟩
set_option maxRecDepth 100000 in
theorem fX7_43 : cm_fl RX7 43 5 12 2 false := ⟨RX7, TX7, 15, tyX7, rfl, wiX7, tyX7_ok, nmX7, by decide, rfl, Or.inl (cm_inT 166 rfl rfl), rfl, fun h => absurd h (by decide), fun h => absurd h (by decide), fun h => absurd h (by decide), fun _ => Or.inl ⟨_, rfl⟩⟩
set_option maxRecDepth 100000 in
theorem fX7_47 : cm_fl RX7 47 5 13 0 false := ⟨RX7, TX7, 15, tyX7, rfl, wiX7, tyX7_ok, nmX7, by decide, rfl, Or.inl (cm_inT 167 rfl rfl), rfl, fun _ => rfl, fun h => absurd h (by decide), fun h => absurd h (by decide), fun h => absurd h (by decide)⟩
set_option maxRecDepth 100000 in
theorem fX7_51 : cm_fl RX7 51 5 14 0 false := ⟨RX7, TX7, 15, tyX7, rfl, wiX7, tyX7_ok, nmX7, by decide, rfl, Or.inl (cm_inT 168 rfl rfl), rfl, fun _ => rfl, fun h => absurd h (by decide), fun h => absurd h (by decide), fun h => absurd h (by decide)⟩
set_option maxRecDepth 100000 in
theorem wfX10_9 : cm_fo RX10 9 8 0 := fun C T N h => by cases h; exact ⟨rfl, cm_inT 206 rfl rfl⟩
set_option maxRecDepth 100000 in
theorem fX10_9 : cm_fl RX10 9 8 0 2 true := ⟨RX10, TX10, 2, tyX10, rfl, wiX10, tyX10_ok, nmX10, by decide, rfl, Or.inl (cm_inT 206 rfl rfl), rfl, fun h => absurd h (by decide), fun h => absurd h (by decide), fun h => absurd h (by decide), fun _ => Or.inr ⟨_, rfl⟩⟩
set_option maxRecDepth 100000 in
theorem fX10_15 : cm_fl RX10 15 8 1 0 false := ⟨RX10, TX10, 2, tyX10, rfl, wiX10, tyX10_ok, nmX10, by decide, rfl, Or.inl (cm_inT 207 rfl rfl), rfl, fun _ => rfl, fun h => absurd h (by decide), fun h => absurd h (by decide), fun h => absurd h (by decide)⟩
set_option maxRecDepth 100000 in
theorem fX11_230 : cm_fl RX11 230 8 1 0 false := ⟨RX10, TX10, 2, tyX10, rfl, wiX10, tyX10_ok, nmX10, by decide, rfl, Or.inr ⟨"CellarMeter", cm_inN 208 rfl rfl⟩, rfl, fun _ => rfl, fun h => absurd h (by decide), fun h => absurd h (by decide), fun h => absurd h (by decide)⟩
set_option maxRecDepth 100000 in
theorem wfX6_9 : cm_fo RX6 9 4 0 := fun C T N h => by cases h; exact ⟨rfl, cm_inT 221 rfl rfl⟩
set_option maxRecDepth 100000 in
theorem fX6_9 : cm_fl RX6 9 4 0 2 true := ⟨RX6, TX6, 3, tyX6, rfl, wiX6, tyX6_ok, nmX6, by decide, rfl, Or.inl (cm_inT 221 rfl rfl), rfl, fun h => absurd h (by decide), fun h => absurd h (by decide), fun h => absurd h (by decide), fun _ => Or.inr ⟨_, rfl⟩⟩
set_option maxRecDepth 100000 in
theorem fX11_266 : cm_fl RX11 266 4 0 2 true := ⟨RX6, TX6, 3, tyX6, rfl, wiX6, tyX6_ok, nmX6, by decide, rfl, Or.inr ⟨"CellarMeter", cm_inN 222 rfl rfl⟩, rfl, fun h => absurd h (by decide), fun h => absurd h (by decide), fun h => absurd h (by decide), fun _ => Or.inr ⟨_, rfl⟩⟩
set_option maxRecDepth 100000 in
theorem fX6_15 : cm_fl RX6 15 4 1 0 false := ⟨RX6, TX6, 3, tyX6, rfl, wiX6, tyX6_ok, nmX6, by decide, rfl, Or.inl (cm_inT 223 rfl rfl), rfl, fun _ => rfl, fun h => absurd h (by decide), fun h => absurd h (by decide), fun h => absurd h (by decide)⟩
set_option maxRecDepth 100000 in
theorem fX11_219 : cm_fl RX11 219 4 1 0 false := ⟨RX6, TX6, 3, tyX6, rfl, wiX6, tyX6_ok, nmX6, by decide, rfl, Or.inr ⟨"CellarMeter", cm_inN 224 rfl rfl⟩, rfl, fun _ => rfl, fun h => absurd h (by decide), fun h => absurd h (by decide), fun h => absurd h (by decide)⟩
set_option maxRecDepth 100000 in
theorem fX6_19 : cm_fl RX6 19 4 2 0 false := ⟨RX6, TX6, 3, tyX6, rfl, wiX6, tyX6_ok, nmX6, by decide, rfl, Or.inl (cm_inT 225 rfl rfl), rfl, fun _ => rfl, fun h => absurd h (by decide), fun h => absurd h (by decide), fun h => absurd h (by decide)⟩
set_option maxRecDepth 100000 in
theorem wfX11_12 : cm_fo RX11 12 9 0 := fun C T N h => by cases h; exact ⟨rfl, cm_inT 233 rfl rfl⟩
set_option maxRecDepth 100000 in
theorem fX11_12 : cm_fl RX11 12 9 0 2 true := ⟨RX11, TX11, 16, tyX11, rfl, wiX11, tyX11_ok, nmX11, by decide, rfl, Or.inl (cm_inT 233 rfl rfl), rfl, fun h => absurd h (by decide), fun h => absurd h (by decide), fun h => absurd h (by decide), fun _ => Or.inl ⟨_, rfl⟩⟩
set_option maxRecDepth 100000 in
theorem wfX11_21 : cm_fo RX11 21 9 1 := fun C T N h => by cases h; exact ⟨rfl, cm_inT 234 rfl rfl⟩
set_option maxRecDepth 100000 in
theorem fX11_21 : cm_fl RX11 21 9 1 2 true := ⟨RX11, TX11, 16, tyX11, rfl, wiX11, tyX11_ok, nmX11, by decide, rfl, Or.inl (cm_inT 234 rfl rfl), rfl, fun h => absurd h (by decide), fun h => absurd h (by decide), fun h => absurd h (by decide), fun _ => Or.inl ⟨_, rfl⟩⟩
set_option maxRecDepth 100000 in
theorem wfX11_30 : cm_fo RX11 30 9 2 := fun C T N h => by cases h; exact ⟨rfl, cm_inT 235 rfl rfl⟩
set_option maxRecDepth 100000 in
theorem fX11_30 : cm_fl RX11 30 9 2 2 true := ⟨RX11, TX11, 16, tyX11, rfl, wiX11, tyX11_ok, nmX11, by decide, rfl, Or.inl (cm_inT 235 rfl rfl), rfl, fun h => absurd h (by decide), fun h => absurd h (by decide), fun h => absurd h (by decide), fun _ => Or.inl ⟨_, rfl⟩⟩
set_option maxRecDepth 100000 in
theorem wfX11_36 : cm_fo RX11 36 9 3 := fun C T N h => by cases h; exact ⟨rfl, cm_inT 236 rfl rfl⟩
set_option maxRecDepth 100000 in
theorem fX11_36 : cm_fl RX11 36 9 3 2 true := ⟨RX11, TX11, 16, tyX11, rfl, wiX11, tyX11_ok, nmX11, by decide, rfl, Or.inl (cm_inT 236 rfl rfl), rfl, fun h => absurd h (by decide), fun h => absurd h (by decide), fun h => absurd h (by decide), fun _ => Or.inr ⟨_, rfl⟩⟩
set_option maxRecDepth 100000 in
theorem wfX11_41 : cm_fo RX11 41 9 4 := fun C T N h => by cases h; exact ⟨rfl, cm_inT 237 rfl rfl⟩
set_option maxRecDepth 100000 in
theorem fX11_41 : cm_fl RX11 41 9 4 2 true := ⟨RX11, TX11, 16, tyX11, rfl, wiX11, tyX11_ok, nmX11, by decide, rfl, Or.inl (cm_inT 237 rfl rfl), rfl, fun h => absurd h (by decide), fun h => absurd h (by decide), fun h => absurd h (by decide), fun _ => Or.inl ⟨_, rfl⟩⟩
set_option maxRecDepth 100000 in
theorem wfX11_48 : cm_fo RX11 48 9 5 := fun C T N h => by cases h; exact ⟨rfl, cm_inT 238 rfl rfl⟩
set_option maxRecDepth 100000 in
theorem fX11_48 : cm_fl RX11 48 9 5 2 true := ⟨RX11, TX11, 16, tyX11, rfl, wiX11, tyX11_ok, nmX11, by decide, rfl, Or.inl (cm_inT 238 rfl rfl), rfl, fun h => absurd h (by decide), fun h => absurd h (by decide), fun h => absurd h (by decide), fun _ => Or.inl ⟨_, rfl⟩⟩
set_option maxRecDepth 100000 in
theorem wfX11_52 : cm_fo RX11 52 9 6 := fun C T N h => by cases h; exact ⟨rfl, cm_inT 239 rfl rfl⟩
set_option maxRecDepth 100000 in
theorem fX11_52 : cm_fl RX11 52 9 6 2 true := ⟨RX11, TX11, 16, tyX11, rfl, wiX11, tyX11_ok, nmX11, by decide, rfl, Or.inl (cm_inT 239 rfl rfl), rfl, fun h => absurd h (by decide), fun h => absurd h (by decide), fun h => absurd h (by decide), fun _ => Or.inl ⟨_, rfl⟩⟩
set_option maxRecDepth 100000 in
theorem wfX11_55 : cm_fo RX11 55 9 7 := fun C T N h => by cases h; exact ⟨rfl, cm_inT 240 rfl rfl⟩
set_option maxRecDepth 100000 in
theorem fX11_55 : cm_fl RX11 55 9 7 2 true := ⟨RX11, TX11, 16, tyX11, rfl, wiX11, tyX11_ok, nmX11, by decide, rfl, Or.inl (cm_inT 240 rfl rfl), rfl, fun h => absurd h (by decide), fun h => absurd h (by decide), fun h => absurd h (by decide), fun _ => Or.inl ⟨_, rfl⟩⟩
set_option maxRecDepth 100000 in
theorem wfX11_58 : cm_fo RX11 58 9 8 := fun C T N h => by cases h; exact ⟨rfl, cm_inT 241 rfl rfl⟩
set_option maxRecDepth 100000 in
theorem fX11_58 : cm_fl RX11 58 9 8 2 true := ⟨RX11, TX11, 16, tyX11, rfl, wiX11, tyX11_ok, nmX11, by decide, rfl, Or.inl (cm_inT 241 rfl rfl), rfl, fun h => absurd h (by decide), fun h => absurd h (by decide), fun h => absurd h (by decide), fun _ => Or.inl ⟨_, rfl⟩⟩
set_option maxRecDepth 100000 in
theorem wfX11_66 : cm_fo RX11 66 9 9 := fun C T N h => by cases h; exact ⟨rfl, cm_inT 242 rfl rfl⟩
set_option maxRecDepth 100000 in
theorem fX11_66 : cm_fl RX11 66 9 9 2 true := ⟨RX11, TX11, 16, tyX11, rfl, wiX11, tyX11_ok, nmX11, by decide, rfl, Or.inl (cm_inT 242 rfl rfl), rfl, fun h => absurd h (by decide), fun h => absurd h (by decide), fun h => absurd h (by decide), fun _ => Or.inl ⟨_, rfl⟩⟩
set_option maxRecDepth 100000 in
theorem wfX11_73 : cm_fo RX11 73 9 10 := fun C T N h => by cases h; exact ⟨rfl, cm_inT 243 rfl rfl⟩
set_option maxRecDepth 100000 in
theorem fX11_73 : cm_fl RX11 73 9 10 2 true := ⟨RX11, TX11, 16, tyX11, rfl, wiX11, tyX11_ok, nmX11, by decide, rfl, Or.inl (cm_inT 243 rfl rfl), rfl, fun h => absurd h (by decide), fun h => absurd h (by decide), fun h => absurd h (by decide), fun _ => Or.inl ⟨_, rfl⟩⟩
set_option maxRecDepth 100000 in
theorem wfX11_79 : cm_fo RX11 79 9 11 := fun C T N h => by cases h; exact ⟨rfl, cm_inT 244 rfl rfl⟩
set_option maxRecDepth 100000 in
theorem fX11_79 : cm_fl RX11 79 9 11 2 true := ⟨RX11, TX11, 16, tyX11, rfl, wiX11, tyX11_ok, nmX11, by decide, rfl, Or.inl (cm_inT 244 rfl rfl), rfl, fun h => absurd h (by decide), fun h => absurd h (by decide), fun h => absurd h (by decide), fun _ => Or.inr ⟨_, rfl⟩⟩
set_option maxRecDepth 100000 in
theorem fX11_83 : cm_fl RX11 83 9 12 0 false := ⟨RX11, TX11, 16, tyX11, rfl, wiX11, tyX11_ok, nmX11, by decide, rfl, Or.inl (cm_inT 245 rfl rfl), rfl, fun _ => rfl, fun h => absurd h (by decide), fun h => absurd h (by decide), fun h => absurd h (by decide)⟩
set_option maxRecDepth 100000 in
theorem fX11_87 : cm_fl RX11 87 9 13 0 false := ⟨RX11, TX11, 16, tyX11, rfl, wiX11, tyX11_ok, nmX11, by decide, rfl, Or.inl (cm_inT 246 rfl rfl), rfl, fun _ => rfl, fun h => absurd h (by decide), fun h => absurd h (by decide), fun h => absurd h (by decide)⟩
set_option maxRecDepth 100000 in
theorem fX11_90 : cm_fl RX11 90 9 14 0 false := ⟨RX11, TX11, 16, tyX11, rfl, wiX11, tyX11_ok, nmX11, by decide, rfl, Or.inl (cm_inT 247 rfl rfl), rfl, fun _ => rfl, fun h => absurd h (by decide), fun h => absurd h (by decide), fun h => absurd h (by decide)⟩
set_option maxRecDepth 100000 in
theorem fX11_93 : cm_fl RX11 93 9 15 3 false := ⟨RX11, TX11, 16, tyX11, rfl, wiX11, tyX11_ok, nmX11, by decide, rfl, Or.inl (cm_inT 248 rfl rfl), rfl, fun h => absurd h (by decide), fun h => absurd h (by decide), fun _ => rfl, fun h => absurd h (by decide)⟩
set_option maxRecDepth 100000 in
theorem wfX9_7 : cm_fo RX9 7 7 0 := fun C T N h => by cases h; exact ⟨rfl, cm_inT 326 rfl rfl⟩
set_option maxRecDepth 100000 in
theorem fX9_7 : cm_fl RX9 7 7 0 0 true := ⟨RX9, TX9, 3, tyX9, rfl, wiX9, tyX9_ok, nmX9, by decide, rfl, Or.inl (cm_inT 326 rfl rfl), rfl, fun _ => rfl, fun h => absurd h (by decide), fun h => absurd h (by decide), fun h => absurd h (by decide)⟩
set_option maxRecDepth 100000 in
theorem fX0_38 : cm_fl RX0 38 7 0 0 true := ⟨RX9, TX9, 3, tyX9, rfl, wiX9, tyX9_ok, nmX9, by decide, rfl, Or.inl (cm_inT 327 rfl rfl), rfl, fun _ => rfl, fun h => absurd h (by decide), fun h => absurd h (by decide), fun h => absurd h (by decide)⟩
set_option maxRecDepth 100000 in
theorem wfX9_13 : cm_fo RX9 13 7 1 := fun C T N h => by cases h; exact ⟨rfl, cm_inT 328 rfl rfl⟩
set_option maxRecDepth 100000 in
theorem fX9_13 : cm_fl RX9 13 7 1 0 true := ⟨RX9, TX9, 3, tyX9, rfl, wiX9, tyX9_ok, nmX9, by decide, rfl, Or.inl (cm_inT 328 rfl rfl), rfl, fun _ => rfl, fun h => absurd h (by decide), fun h => absurd h (by decide), fun h => absurd h (by decide)⟩
set_option maxRecDepth 100000 in
theorem fX0_7 : cm_fl RX0 7 7 1 0 true := ⟨RX9, TX9, 3, tyX9, rfl, wiX9, tyX9_ok, nmX9, by decide, rfl, Or.inl (cm_inT 329 rfl rfl), rfl, fun _ => rfl, fun h => absurd h (by decide), fun h => absurd h (by decide), fun h => absurd h (by decide)⟩
set_option maxRecDepth 100000 in
theorem fX11_119 : cm_fl RX11 119 7 1 0 true := ⟨RX9, TX9, 3, tyX9, rfl, wiX9, tyX9_ok, nmX9, by decide, rfl, Or.inl (cm_inT 330 rfl rfl), rfl, fun _ => rfl, fun h => absurd h (by decide), fun h => absurd h (by decide), fun h => absurd h (by decide)⟩
set_option maxRecDepth 100000 in
theorem wfX9_16 : cm_fo RX9 16 7 2 := fun C T N h => by cases h; exact ⟨rfl, cm_inT 331 rfl rfl⟩
set_option maxRecDepth 100000 in
theorem fX9_16 : cm_fl RX9 16 7 2 0 true := ⟨RX9, TX9, 3, tyX9, rfl, wiX9, tyX9_ok, nmX9, by decide, rfl, Or.inl (cm_inT 331 rfl rfl), rfl, fun _ => rfl, fun h => absurd h (by decide), fun h => absurd h (by decide), fun h => absurd h (by decide)⟩
set_option maxRecDepth 100000 in
theorem fX11_124 : cm_fl RX11 124 7 2 0 true := ⟨RX9, TX9, 3, tyX9, rfl, wiX9, tyX9_ok, nmX9, by decide, rfl, Or.inl (cm_inT 332 rfl rfl), rfl, fun _ => rfl, fun h => absurd h (by decide), fun h => absurd h (by decide), fun h => absurd h (by decide)⟩
set_option maxRecDepth 100000 in
theorem fX0_41 : cm_fl RX0 41 7 2 0 true := ⟨RX9, TX9, 3, tyX9, rfl, wiX9, tyX9_ok, nmX9, by decide, rfl, Or.inl (cm_inT 333 rfl rfl), rfl, fun _ => rfl, fun h => absurd h (by decide), fun h => absurd h (by decide), fun h => absurd h (by decide)⟩
set_option maxRecDepth 100000 in
theorem fX1_67 : cm_fl RX1 67 7 2 0 true := ⟨RX9, TX9, 3, tyX9, rfl, wiX9, tyX9_ok, nmX9, by decide, rfl, Or.inl (cm_inT 334 rfl rfl), rfl, fun _ => rfl, fun h => absurd h (by decide), fun h => absurd h (by decide), fun h => absurd h (by decide)⟩
set_option maxRecDepth 100000 in
theorem fX12_7 : cm_fl RX12 7 10 0 0 false := ⟨RX12, TX12, 45, tyX12, rfl, wiX12, tyX12_ok, nmX12, by decide, rfl, Or.inl (cm_inT 886 rfl rfl), rfl, fun _ => rfl, fun h => absurd h (by decide), fun h => absurd h (by decide), fun h => absurd h (by decide)⟩
set_option maxRecDepth 100000 in
theorem fX12_13 : cm_fl RX12 13 10 1 0 false := ⟨RX12, TX12, 45, tyX12, rfl, wiX12, tyX12_ok, nmX12, by decide, rfl, Or.inl (cm_inT 887 rfl rfl), rfl, fun _ => rfl, fun h => absurd h (by decide), fun h => absurd h (by decide), fun h => absurd h (by decide)⟩
set_option maxRecDepth 100000 in
theorem wfX12_16 : cm_fo RX12 16 10 2 := fun C T N h => by cases h; exact ⟨rfl, cm_inT 888 rfl rfl⟩
set_option maxRecDepth 100000 in
theorem fX12_16 : cm_fl RX12 16 10 2 2 true := ⟨RX12, TX12, 45, tyX12, rfl, wiX12, tyX12_ok, nmX12, by decide, rfl, Or.inl (cm_inT 888 rfl rfl), rfl, fun h => absurd h (by decide), fun h => absurd h (by decide), fun h => absurd h (by decide), fun _ => Or.inr ⟨_, rfl⟩⟩
set_option maxRecDepth 100000 in
theorem wfX12_20 : cm_fo RX12 20 10 3 := fun C T N h => by cases h; exact ⟨rfl, cm_inT 889 rfl rfl⟩
set_option maxRecDepth 100000 in
theorem fX12_20 : cm_fl RX12 20 10 3 2 true := ⟨RX12, TX12, 45, tyX12, rfl, wiX12, tyX12_ok, nmX12, by decide, rfl, Or.inl (cm_inT 889 rfl rfl), rfl, fun h => absurd h (by decide), fun h => absurd h (by decide), fun h => absurd h (by decide), fun _ => Or.inr ⟨_, rfl⟩⟩
set_option maxRecDepth 100000 in
theorem fX12_23 : cm_fl RX12 23 10 4 0 false := ⟨RX12, TX12, 45, tyX12, rfl, wiX12, tyX12_ok, nmX12, by decide, rfl, Or.inl (cm_inT 890 rfl rfl), rfl, fun _ => rfl, fun h => absurd h (by decide), fun h => absurd h (by decide), fun h => absurd h (by decide)⟩
set_option maxRecDepth 100000 in
theorem fX12_26 : cm_fl RX12 26 10 5 0 false := ⟨RX12, TX12, 45, tyX12, rfl, wiX12, tyX12_ok, nmX12, by decide, rfl, Or.inl (cm_inT 891 rfl rfl), rfl, fun _ => rfl, fun h => absurd h (by decide), fun h => absurd h (by decide), fun h => absurd h (by decide)⟩
set_option maxRecDepth 100000 in
theorem fX12_29 : cm_fl RX12 29 10 6 0 false := ⟨RX12, TX12, 45, tyX12, rfl, wiX12, tyX12_ok, nmX12, by decide, rfl, Or.inl (cm_inT 892 rfl rfl), rfl, fun _ => rfl, fun h => absurd h (by decide), fun h => absurd h (by decide), fun h => absurd h (by decide)⟩
set_option maxRecDepth 100000 in
theorem fX12_32 : cm_fl RX12 32 10 7 0 false := ⟨RX12, TX12, 45, tyX12, rfl, wiX12, tyX12_ok, nmX12, by decide, rfl, Or.inl (cm_inT 893 rfl rfl), rfl, fun _ => rfl, fun h => absurd h (by decide), fun h => absurd h (by decide), fun h => absurd h (by decide)⟩
set_option maxRecDepth 100000 in
theorem fX12_35 : cm_fl RX12 35 10 8 0 false := ⟨RX12, TX12, 45, tyX12, rfl, wiX12, tyX12_ok, nmX12, by decide, rfl, Or.inl (cm_inT 894 rfl rfl), rfl, fun _ => rfl, fun h => absurd h (by decide), fun h => absurd h (by decide), fun h => absurd h (by decide)⟩
set_option maxRecDepth 100000 in
theorem wfX12_38 : cm_fo RX12 38 10 9 := fun C T N h => by cases h; exact ⟨rfl, cm_inT 895 rfl rfl⟩
set_option maxRecDepth 100000 in
theorem fX12_38 : cm_fl RX12 38 10 9 2 true := ⟨RX12, TX12, 45, tyX12, rfl, wiX12, tyX12_ok, nmX12, by decide, rfl, Or.inl (cm_inT 895 rfl rfl), rfl, fun h => absurd h (by decide), fun h => absurd h (by decide), fun h => absurd h (by decide), fun _ => Or.inr ⟨_, rfl⟩⟩
set_option maxRecDepth 100000 in
theorem wfX12_41 : cm_fo RX12 41 10 10 := fun C T N h => by cases h; exact ⟨rfl, cm_inT 896 rfl rfl⟩
set_option maxRecDepth 100000 in
theorem fX12_41 : cm_fl RX12 41 10 10 2 true := ⟨RX12, TX12, 45, tyX12, rfl, wiX12, tyX12_ok, nmX12, by decide, rfl, Or.inl (cm_inT 896 rfl rfl), rfl, fun h => absurd h (by decide), fun h => absurd h (by decide), fun h => absurd h (by decide), fun _ => Or.inr ⟨_, rfl⟩⟩
set_option maxRecDepth 100000 in
theorem wfX12_44 : cm_fo RX12 44 10 11 := fun C T N h => by cases h; exact ⟨rfl, cm_inT 897 rfl rfl⟩
set_option maxRecDepth 100000 in
theorem fX12_44 : cm_fl RX12 44 10 11 2 true := ⟨RX12, TX12, 45, tyX12, rfl, wiX12, tyX12_ok, nmX12, by decide, rfl, Or.inl (cm_inT 897 rfl rfl), rfl, fun h => absurd h (by decide), fun h => absurd h (by decide), fun h => absurd h (by decide), fun _ => Or.inr ⟨_, rfl⟩⟩
set_option maxRecDepth 100000 in
theorem wfX12_47 : cm_fo RX12 47 10 12 := fun C T N h => by cases h; exact ⟨rfl, cm_inT 898 rfl rfl⟩
set_option maxRecDepth 100000 in
theorem fX12_47 : cm_fl RX12 47 10 12 2 true := ⟨RX12, TX12, 45, tyX12, rfl, wiX12, tyX12_ok, nmX12, by decide, rfl, Or.inl (cm_inT 898 rfl rfl), rfl, fun h => absurd h (by decide), fun h => absurd h (by decide), fun h => absurd h (by decide), fun _ => Or.inr ⟨_, rfl⟩⟩
set_option maxRecDepth 100000 in
theorem wfX12_50 : cm_fo RX12 50 10 13 := fun C T N h => by cases h; exact ⟨rfl, cm_inT 899 rfl rfl⟩
set_option maxRecDepth 100000 in
theorem fX12_50 : cm_fl RX12 50 10 13 2 true := ⟨RX12, TX12, 45, tyX12, rfl, wiX12, tyX12_ok, nmX12, by decide, rfl, Or.inl (cm_inT 899 rfl rfl), rfl, fun h => absurd h (by decide), fun h => absurd h (by decide), fun h => absurd h (by decide), fun _ => Or.inr ⟨_, rfl⟩⟩
set_option maxRecDepth 100000 in
theorem wfX12_53 : cm_fo RX12 53 10 14 := fun C T N h => by cases h; exact ⟨rfl, cm_inT 900 rfl rfl⟩
set_option maxRecDepth 100000 in
theorem fX12_53 : cm_fl RX12 53 10 14 2 true := ⟨RX12, TX12, 45, tyX12, rfl, wiX12, tyX12_ok, nmX12, by decide, rfl, Or.inl (cm_inT 900 rfl rfl), rfl, fun h => absurd h (by decide), fun h => absurd h (by decide), fun h => absurd h (by decide), fun _ => Or.inr ⟨_, rfl⟩⟩
set_option maxRecDepth 100000 in
theorem wfX12_56 : cm_fo RX12 56 10 15 := fun C T N h => by cases h; exact ⟨rfl, cm_inT 901 rfl rfl⟩
set_option maxRecDepth 100000 in
theorem fX12_56 : cm_fl RX12 56 10 15 2 true := ⟨RX12, TX12, 45, tyX12, rfl, wiX12, tyX12_ok, nmX12, by decide, rfl, Or.inl (cm_inT 901 rfl rfl), rfl, fun h => absurd h (by decide), fun h => absurd h (by decide), fun h => absurd h (by decide), fun _ => Or.inr ⟨_, rfl⟩⟩
set_option maxRecDepth 100000 in
theorem wfX12_59 : cm_fo RX12 59 10 16 := fun C T N h => by cases h; exact ⟨rfl, cm_inT 902 rfl rfl⟩
set_option maxRecDepth 100000 in
theorem fX12_59 : cm_fl RX12 59 10 16 2 true := ⟨RX12, TX12, 45, tyX12, rfl, wiX12, tyX12_ok, nmX12, by decide, rfl, Or.inl (cm_inT 902 rfl rfl), rfl, fun h => absurd h (by decide), fun h => absurd h (by decide), fun h => absurd h (by decide), fun _ => Or.inr ⟨_, rfl⟩⟩
set_option maxRecDepth 100000 in
theorem wfX12_62 : cm_fo RX12 62 10 17 := fun C T N h => by cases h; exact ⟨rfl, cm_inT 903 rfl rfl⟩
set_option maxRecDepth 100000 in
theorem fX12_62 : cm_fl RX12 62 10 17 2 true := ⟨RX12, TX12, 45, tyX12, rfl, wiX12, tyX12_ok, nmX12, by decide, rfl, Or.inl (cm_inT 903 rfl rfl), rfl, fun h => absurd h (by decide), fun h => absurd h (by decide), fun h => absurd h (by decide), fun _ => Or.inr ⟨_, rfl⟩⟩
set_option maxRecDepth 100000 in
theorem fX12_65 : cm_fl RX12 65 10 18 0 false := ⟨RX12, TX12, 45, tyX12, rfl, wiX12, tyX12_ok, nmX12, by decide, rfl, Or.inl (cm_inT 904 rfl rfl), rfl, fun _ => rfl, fun h => absurd h (by decide), fun h => absurd h (by decide), fun h => absurd h (by decide)⟩
set_option maxRecDepth 100000 in
theorem fX12_68 : cm_fl RX12 68 10 19 0 false := ⟨RX12, TX12, 45, tyX12, rfl, wiX12, tyX12_ok, nmX12, by decide, rfl, Or.inl (cm_inT 905 rfl rfl), rfl, fun _ => rfl, fun h => absurd h (by decide), fun h => absurd h (by decide), fun h => absurd h (by decide)⟩
set_option maxRecDepth 100000 in
theorem fX12_71 : cm_fl RX12 71 10 20 0 false := ⟨RX12, TX12, 45, tyX12, rfl, wiX12, tyX12_ok, nmX12, by decide, rfl, Or.inl (cm_inT 906 rfl rfl), rfl, fun _ => rfl, fun h => absurd h (by decide), fun h => absurd h (by decide), fun h => absurd h (by decide)⟩
set_option maxRecDepth 100000 in
theorem wfX12_74 : cm_fo RX12 74 10 21 := fun C T N h => by cases h; exact ⟨rfl, cm_inT 907 rfl rfl⟩
set_option maxRecDepth 100000 in
theorem fX12_74 : cm_fl RX12 74 10 21 2 true := ⟨RX12, TX12, 45, tyX12, rfl, wiX12, tyX12_ok, nmX12, by decide, rfl, Or.inl (cm_inT 907 rfl rfl), rfl, fun h => absurd h (by decide), fun h => absurd h (by decide), fun h => absurd h (by decide), fun _ => Or.inr ⟨_, rfl⟩⟩
set_option maxRecDepth 100000 in
theorem wfX12_77 : cm_fo RX12 77 10 22 := fun C T N h => by cases h; exact ⟨rfl, cm_inT 908 rfl rfl⟩
set_option maxRecDepth 100000 in
theorem fX12_77 : cm_fl RX12 77 10 22 2 true := ⟨RX12, TX12, 45, tyX12, rfl, wiX12, tyX12_ok, nmX12, by decide, rfl, Or.inl (cm_inT 908 rfl rfl), rfl, fun h => absurd h (by decide), fun h => absurd h (by decide), fun h => absurd h (by decide), fun _ => Or.inr ⟨_, rfl⟩⟩
set_option maxRecDepth 100000 in
theorem wfX12_80 : cm_fo RX12 80 10 23 := fun C T N h => by cases h; exact ⟨rfl, cm_inT 909 rfl rfl⟩
set_option maxRecDepth 100000 in
theorem fX12_80 : cm_fl RX12 80 10 23 2 true := ⟨RX12, TX12, 45, tyX12, rfl, wiX12, tyX12_ok, nmX12, by decide, rfl, Or.inl (cm_inT 909 rfl rfl), rfl, fun h => absurd h (by decide), fun h => absurd h (by decide), fun h => absurd h (by decide), fun _ => Or.inr ⟨_, rfl⟩⟩
set_option maxRecDepth 100000 in
theorem wfX12_83 : cm_fo RX12 83 10 24 := fun C T N h => by cases h; exact ⟨rfl, cm_inT 910 rfl rfl⟩
set_option maxRecDepth 100000 in
theorem fX12_83 : cm_fl RX12 83 10 24 2 true := ⟨RX12, TX12, 45, tyX12, rfl, wiX12, tyX12_ok, nmX12, by decide, rfl, Or.inl (cm_inT 910 rfl rfl), rfl, fun h => absurd h (by decide), fun h => absurd h (by decide), fun h => absurd h (by decide), fun _ => Or.inr ⟨_, rfl⟩⟩
set_option maxRecDepth 100000 in
theorem wfX12_86 : cm_fo RX12 86 10 25 := fun C T N h => by cases h; exact ⟨rfl, cm_inT 911 rfl rfl⟩
set_option maxRecDepth 100000 in
theorem fX12_86 : cm_fl RX12 86 10 25 2 true := ⟨RX12, TX12, 45, tyX12, rfl, wiX12, tyX12_ok, nmX12, by decide, rfl, Or.inl (cm_inT 911 rfl rfl), rfl, fun h => absurd h (by decide), fun h => absurd h (by decide), fun h => absurd h (by decide), fun _ => Or.inr ⟨_, rfl⟩⟩
set_option maxRecDepth 100000 in
theorem wfX12_89 : cm_fo RX12 89 10 26 := fun C T N h => by cases h; exact ⟨rfl, cm_inT 912 rfl rfl⟩
set_option maxRecDepth 100000 in
theorem fX12_89 : cm_fl RX12 89 10 26 2 true := ⟨RX12, TX12, 45, tyX12, rfl, wiX12, tyX12_ok, nmX12, by decide, rfl, Or.inl (cm_inT 912 rfl rfl), rfl, fun h => absurd h (by decide), fun h => absurd h (by decide), fun h => absurd h (by decide), fun _ => Or.inr ⟨_, rfl⟩⟩
set_option maxRecDepth 100000 in
theorem wfX12_92 : cm_fo RX12 92 10 27 := fun C T N h => by cases h; exact ⟨rfl, cm_inT 913 rfl rfl⟩
set_option maxRecDepth 100000 in
theorem fX12_92 : cm_fl RX12 92 10 27 2 true := ⟨RX12, TX12, 45, tyX12, rfl, wiX12, tyX12_ok, nmX12, by decide, rfl, Or.inl (cm_inT 913 rfl rfl), rfl, fun h => absurd h (by decide), fun h => absurd h (by decide), fun h => absurd h (by decide), fun _ => Or.inr ⟨_, rfl⟩⟩
set_option maxRecDepth 100000 in
theorem wfX12_95 : cm_fo RX12 95 10 28 := fun C T N h => by cases h; exact ⟨rfl, cm_inT 914 rfl rfl⟩
set_option maxRecDepth 100000 in
theorem fX12_95 : cm_fl RX12 95 10 28 2 true := ⟨RX12, TX12, 45, tyX12, rfl, wiX12, tyX12_ok, nmX12, by decide, rfl, Or.inl (cm_inT 914 rfl rfl), rfl, fun h => absurd h (by decide), fun h => absurd h (by decide), fun h => absurd h (by decide), fun _ => Or.inr ⟨_, rfl⟩⟩
set_option maxRecDepth 100000 in
theorem wfX12_99 : cm_fo RX12 99 10 29 := fun C T N h => by cases h; exact ⟨rfl, cm_inT 915 rfl rfl⟩
set_option maxRecDepth 100000 in
theorem fX12_99 : cm_fl RX12 99 10 29 2 true := ⟨RX12, TX12, 45, tyX12, rfl, wiX12, tyX12_ok, nmX12, by decide, rfl, Or.inl (cm_inT 915 rfl rfl), rfl, fun h => absurd h (by decide), fun h => absurd h (by decide), fun h => absurd h (by decide), fun _ => Or.inr ⟨_, rfl⟩⟩
set_option maxRecDepth 100000 in
theorem wfX12_102 : cm_fo RX12 102 10 30 := fun C T N h => by cases h; exact ⟨rfl, cm_inT 916 rfl rfl⟩
set_option maxRecDepth 100000 in
theorem fX12_102 : cm_fl RX12 102 10 30 2 true := ⟨RX12, TX12, 45, tyX12, rfl, wiX12, tyX12_ok, nmX12, by decide, rfl, Or.inl (cm_inT 916 rfl rfl), rfl, fun h => absurd h (by decide), fun h => absurd h (by decide), fun h => absurd h (by decide), fun _ => Or.inr ⟨_, rfl⟩⟩
set_option maxRecDepth 100000 in
theorem wfX12_105 : cm_fo RX12 105 10 31 := fun C T N h => by cases h; exact ⟨rfl, cm_inT 917 rfl rfl⟩
set_option maxRecDepth 100000 in
theorem fX12_105 : cm_fl RX12 105 10 31 2 true := ⟨RX12, TX12, 45, tyX12, rfl, wiX12, tyX12_ok, nmX12, by decide, rfl, Or.inl (cm_inT 917 rfl rfl), rfl, fun h => absurd h (by decide), fun h => absurd h (by decide), fun h => absurd h (by decide), fun _ => Or.inr ⟨_, rfl⟩⟩
set_option maxRecDepth 100000 in
theorem wfX12_108 : cm_fo RX12 108 10 32 := fun C T N h => by cases h; exact ⟨rfl, cm_inT 918 rfl rfl⟩
set_option maxRecDepth 100000 in
theorem fX12_108 : cm_fl RX12 108 10 32 2 true := ⟨RX12, TX12, 45, tyX12, rfl, wiX12, tyX12_ok, nmX12, by decide, rfl, Or.inl (cm_inT 918 rfl rfl), rfl, fun h => absurd h (by decide), fun h => absurd h (by decide), fun h => absurd h (by decide), fun _ => Or.inr ⟨_, rfl⟩⟩
set_option maxRecDepth 100000 in
theorem wfX12_111 : cm_fo RX12 111 10 33 := fun C T N h => by cases h; exact ⟨rfl, cm_inT 919 rfl rfl⟩
set_option maxRecDepth 100000 in
theorem fX12_111 : cm_fl RX12 111 10 33 2 true := ⟨RX12, TX12, 45, tyX12, rfl, wiX12, tyX12_ok, nmX12, by decide, rfl, Or.inl (cm_inT 919 rfl rfl), rfl, fun h => absurd h (by decide), fun h => absurd h (by decide), fun h => absurd h (by decide), fun _ => Or.inr ⟨_, rfl⟩⟩
set_option maxRecDepth 100000 in
theorem wfX12_114 : cm_fo RX12 114 10 34 := fun C T N h => by cases h; exact ⟨rfl, cm_inT 920 rfl rfl⟩
set_option maxRecDepth 100000 in
theorem fX12_114 : cm_fl RX12 114 10 34 2 true := ⟨RX12, TX12, 45, tyX12, rfl, wiX12, tyX12_ok, nmX12, by decide, rfl, Or.inl (cm_inT 920 rfl rfl), rfl, fun h => absurd h (by decide), fun h => absurd h (by decide), fun h => absurd h (by decide), fun _ => Or.inr ⟨_, rfl⟩⟩
set_option maxRecDepth 100000 in
theorem fX12_117 : cm_fl RX12 117 10 35 3 false := ⟨RX12, TX12, 45, tyX12, rfl, wiX12, tyX12_ok, nmX12, by decide, rfl, Or.inl (cm_inT 921 rfl rfl), rfl, fun h => absurd h (by decide), fun h => absurd h (by decide), fun _ => rfl, fun h => absurd h (by decide)⟩
set_option maxRecDepth 100000 in
theorem fX12_121 : cm_fl RX12 121 10 36 0 false := ⟨RX12, TX12, 45, tyX12, rfl, wiX12, tyX12_ok, nmX12, by decide, rfl, Or.inl (cm_inT 922 rfl rfl), rfl, fun _ => rfl, fun h => absurd h (by decide), fun h => absurd h (by decide), fun h => absurd h (by decide)⟩
set_option maxRecDepth 100000 in
theorem wfX12_124 : cm_fo RX12 124 10 37 := fun C T N h => by cases h; exact ⟨rfl, cm_inT 923 rfl rfl⟩
set_option maxRecDepth 100000 in
theorem fX12_124 : cm_fl RX12 124 10 37 2 true := ⟨RX12, TX12, 45, tyX12, rfl, wiX12, tyX12_ok, nmX12, by decide, rfl, Or.inl (cm_inT 923 rfl rfl), rfl, fun h => absurd h (by decide), fun h => absurd h (by decide), fun h => absurd h (by decide), fun _ => Or.inr ⟨_, rfl⟩⟩
set_option maxRecDepth 100000 in
theorem wfX12_127 : cm_fo RX12 127 10 38 := fun C T N h => by cases h; exact ⟨rfl, cm_inT 924 rfl rfl⟩
set_option maxRecDepth 100000 in
theorem fX12_127 : cm_fl RX12 127 10 38 2 true := ⟨RX12, TX12, 45, tyX12, rfl, wiX12, tyX12_ok, nmX12, by decide, rfl, Or.inl (cm_inT 924 rfl rfl), rfl, fun h => absurd h (by decide), fun h => absurd h (by decide), fun h => absurd h (by decide), fun _ => Or.inr ⟨_, rfl⟩⟩
set_option maxRecDepth 100000 in
theorem fX12_130 : cm_fl RX12 130 10 39 0 false := ⟨RX12, TX12, 45, tyX12, rfl, wiX12, tyX12_ok, nmX12, by decide, rfl, Or.inl (cm_inT 925 rfl rfl), rfl, fun _ => rfl, fun h => absurd h (by decide), fun h => absurd h (by decide), fun h => absurd h (by decide)⟩
set_option maxRecDepth 100000 in
theorem wfX12_133 : cm_fo RX12 133 10 40 := fun C T N h => by cases h; exact ⟨rfl, cm_inT 926 rfl rfl⟩
set_option maxRecDepth 100000 in
theorem fX12_133 : cm_fl RX12 133 10 40 2 true := ⟨RX12, TX12, 45, tyX12, rfl, wiX12, tyX12_ok, nmX12, by decide, rfl, Or.inl (cm_inT 926 rfl rfl), rfl, fun h => absurd h (by decide), fun h => absurd h (by decide), fun h => absurd h (by decide), fun _ => Or.inr ⟨_, rfl⟩⟩
set_option maxRecDepth 100000 in
theorem wfX12_136 : cm_fo RX12 136 10 41 := fun C T N h => by cases h; exact ⟨rfl, cm_inT 927 rfl rfl⟩
set_option maxRecDepth 100000 in
theorem fX12_136 : cm_fl RX12 136 10 41 2 true := ⟨RX12, TX12, 45, tyX12, rfl, wiX12, tyX12_ok, nmX12, by decide, rfl, Or.inl (cm_inT 927 rfl rfl), rfl, fun h => absurd h (by decide), fun h => absurd h (by decide), fun h => absurd h (by decide), fun _ => Or.inr ⟨_, rfl⟩⟩
set_option maxRecDepth 100000 in
theorem wfX12_139 : cm_fo RX12 139 10 42 := fun C T N h => by cases h; exact ⟨rfl, cm_inT 928 rfl rfl⟩
set_option maxRecDepth 100000 in
theorem fX12_139 : cm_fl RX12 139 10 42 2 true := ⟨RX12, TX12, 45, tyX12, rfl, wiX12, tyX12_ok, nmX12, by decide, rfl, Or.inl (cm_inT 928 rfl rfl), rfl, fun h => absurd h (by decide), fun h => absurd h (by decide), fun h => absurd h (by decide), fun _ => Or.inr ⟨_, rfl⟩⟩
set_option maxRecDepth 100000 in
theorem wfX12_142 : cm_fo RX12 142 10 43 := fun C T N h => by cases h; exact ⟨rfl, cm_inT 929 rfl rfl⟩
set_option maxRecDepth 100000 in
theorem fX12_142 : cm_fl RX12 142 10 43 2 true := ⟨RX12, TX12, 45, tyX12, rfl, wiX12, tyX12_ok, nmX12, by decide, rfl, Or.inl (cm_inT 929 rfl rfl), rfl, fun h => absurd h (by decide), fun h => absurd h (by decide), fun h => absurd h (by decide), fun _ => Or.inr ⟨_, rfl⟩⟩
set_option maxRecDepth 100000 in
theorem wfX12_146 : cm_fo RX12 146 10 44 := fun C T N h => by cases h; exact ⟨rfl, cm_inT 930 rfl rfl⟩
set_option maxRecDepth 100000 in
theorem fX12_146 : cm_fl RX12 146 10 44 2 true := ⟨RX12, TX12, 45, tyX12, rfl, wiX12, tyX12_ok, nmX12, by decide, rfl, Or.inl (cm_inT 930 rfl rfl), rfl, fun h => absurd h (by decide), fun h => absurd h (by decide), fun h => absurd h (by decide), fun _ => Or.inr ⟨_, rfl⟩⟩
set_option maxRecDepth 100000 in
theorem cL_9 : cm_ci "CellarMeterLaw" 9 mX11_init 0 := ⟨Or.inl (cm_inT 24 rfl rfl), kmX11_init, imX11_init, rfl, rfl⟩
set_option maxRecDepth 100000 in
theorem oX11_3 : Cond.methodLink RX11 3 Lib.objectInit ∈ cm_W0 := cm_inT 27 rfl rfl
set_option maxRecDepth 100000 in
theorem cX11_11 : cm_ci RX11 11 mX3_init 0 := ⟨Or.inl (cm_inT 32 rfl rfl), kmX3_init, imX3_init, rfl, rfl⟩
set_option maxRecDepth 100000 in
theorem oX3_3 : Cond.methodLink RX3 3 Lib.objectInit ∈ cm_W0 := cm_inT 35 rfl rfl
set_option maxRecDepth 100000 in
theorem cX11_20 : cm_ci RX11 20 mX8_init 0 := ⟨Or.inr ⟨"CellarMeter", cm_inN 71 rfl rfl⟩, kmX8_init, imX8_init, rfl, rfl⟩
set_option maxRecDepth 100000 in
theorem oX8_3 : Cond.methodLink RX8 3 Lib.objectInit ∈ cm_W0 := cm_inT 74 rfl rfl
set_option maxRecDepth 100000 in
theorem cX11_27 : cm_ci RX11 27 mX2_init 1 := ⟨Or.inl (cm_inT 86 rfl rfl), kmX2_init, imX2_init, rfl, rfl⟩
set_option maxRecDepth 100000 in
theorem oX2_3 : Cond.methodLink RX2 3 Lib.objectInit ∈ cm_W0 := cm_inT 89 rfl rfl
set_option maxRecDepth 100000 in
theorem cX11_40 : cm_ci RX11 40 mX1_init 0 := ⟨Or.inr ⟨"CellarMeter", cm_inN 106 rfl rfl⟩, kmX1_init, imX1_init, rfl, rfl⟩
set_option maxRecDepth 100000 in
theorem oX1_3 : Cond.methodLink RX1 3 Lib.objectInit ∈ cm_W0 := cm_inT 109 rfl rfl
set_option maxRecDepth 100000 in
theorem cX11_47 : cm_ci RX11 47 mX5_init 0 := ⟨Or.inr ⟨"CellarMeter", cm_inN 135 rfl rfl⟩, kmX5_init, imX5_init, rfl, rfl⟩
set_option maxRecDepth 100000 in
theorem oX5_3 : Cond.methodLink RX5 3 Lib.objectInit ∈ cm_W0 := cm_inT 138 rfl rfl
set_option maxRecDepth 100000 in
theorem cX11_63 : cm_ci RX11 63 mX7_init 2 := ⟨Or.inl (cm_inT 150 rfl rfl), kmX7_init, imX7_init, rfl, rfl⟩
set_option maxRecDepth 100000 in
theorem oX7_3 : Cond.methodLink RX7 3 Lib.objectInit ∈ cm_W0 := cm_inT 153 rfl rfl
set_option maxRecDepth 100000 in
theorem cX11_72 : cm_ci RX11 72 mX10_init 0 := ⟨Or.inr ⟨"CellarMeter", cm_inN 202 rfl rfl⟩, kmX10_init, imX10_init, rfl, rfl⟩
set_option maxRecDepth 100000 in
theorem oX10_3 : Cond.methodLink RX10 3 Lib.objectInit ∈ cm_W0 := cm_inT 205 rfl rfl
set_option maxRecDepth 100000 in
theorem cX11_97 : cm_ci RX11 97 mX6_init 0 := ⟨Or.inr ⟨"CellarMeter", cm_inN 217 rfl rfl⟩, kmX6_init, imX6_init, rfl, rfl⟩
set_option maxRecDepth 100000 in
theorem oX6_3 : Cond.methodLink RX6 3 Lib.objectInit ∈ cm_W0 := cm_inT 220 rfl rfl
set_option maxRecDepth 100000 in
theorem cL_13 : cm_cv "CellarMeterLaw" 13 mX11_thing 2 := ⟨Or.inl (cm_inT 282 rfl rfl), kmX11_thing, imX11_thing, emX11_thing⟩
set_option maxRecDepth 100000 in
theorem cX11_98 : cm_cs RX11 98 mX4_isKind 1 := ⟨Or.inl (cm_inT 286 rfl rfl), kmX4_isKind, smX4_isKind⟩
set_option maxRecDepth 100000 in
theorem cX11_107 : cm_cv RX11 107 mX3_hasRoomFor 1 := ⟨Or.inl (cm_inT 289 rfl rfl), kmX3_hasRoomFor, imX3_hasRoomFor, emX3_hasRoomFor⟩
set_option maxRecDepth 100000 in
theorem cX11_110 : cm_cv RX11 110 mX3_add 2 := ⟨Or.inl (cm_inT 293 rfl rfl), kmX3_add, imX3_add, emX3_add⟩
set_option maxRecDepth 100000 in
theorem cX3_42 : cm_cv RX3 42 mX3_hasRoomFor 1 := ⟨Or.inl (cm_inT 297 rfl rfl), kmX3_hasRoomFor, imX3_hasRoomFor, emX3_hasRoomFor⟩
set_option maxRecDepth 100000 in
theorem cX3_48 : cm_cs RX3 48 mX4_isUnder 2 := ⟨Or.inl (cm_inT 298 rfl rfl), kmX4_isUnder, smX4_isUnder⟩
set_option maxRecDepth 100000 in
theorem cX4_17 : cm_cs RX4 17 mX4_above 1 := ⟨Or.inl (cm_inT 301 rfl rfl), kmX4_above, smX4_above⟩
set_option maxRecDepth 100000 in
theorem cX4_9 : cm_cs RX4 9 mX4_isKind 1 := ⟨Or.inl (cm_inT 304 rfl rfl), kmX4_isKind, smX4_isKind⟩
set_option maxRecDepth 100000 in
theorem cX3_52 : cm_cv RX3 52 mX3_spread 2 := ⟨Or.inl (cm_inT 307 rfl rfl), kmX3_spread, imX3_spread, emX3_spread⟩
set_option maxRecDepth 100000 in
theorem cX3_56 : cm_cv RX3 56 mX3_addRows 3 := ⟨Or.inl (cm_inT 311 rfl rfl), kmX3_addRows, imX3_addRows, emX3_addRows⟩
set_option maxRecDepth 100000 in
theorem cX3_62 : cm_cs RX3 62 mX4_mayFollow 4 := ⟨Or.inl (cm_inT 315 rfl rfl), kmX4_mayFollow, smX4_mayFollow⟩
set_option maxRecDepth 100000 in
theorem cX4_21 : cm_cs RX4 21 mX4_mayFollowSwitch 2 := ⟨Or.inl (cm_inT 318 rfl rfl), kmX4_mayFollowSwitch, smX4_mayFollowSwitch⟩
set_option maxRecDepth 100000 in
theorem cX3_60 : cm_ci RX3 60 mX9_init 3 := ⟨Or.inl (cm_inT 322 rfl rfl), kmX9_init, imX9_init, rfl, rfl⟩
set_option maxRecDepth 100000 in
theorem oX9_1 : Cond.methodLink RX9 1 Lib.objectInit ∈ cm_W0 := cm_inT 325 rfl rfl
set_option maxRecDepth 100000 in
theorem cL_18 : cm_cv "CellarMeterLaw" 18 mX11_of 2 := ⟨Or.inl (cm_inT 342 rfl rfl), kmX11_of, imX11_of, emX11_of⟩
set_option maxRecDepth 100000 in
theorem cX11_115 : cm_cv RX11 115 mX3_thingAt 1 := ⟨Or.inl (cm_inT 346 rfl rfl), kmX3_thingAt, imX3_thingAt, emX3_thingAt⟩
set_option maxRecDepth 100000 in
theorem cX11_127 : cm_cv RX11 127 mX11_heldHouse 0 := ⟨Or.inl (cm_inT 350 rfl rfl), kmX11_heldHouse, imX11_heldHouse, emX11_heldHouse⟩
set_option maxRecDepth 100000 in
theorem cX11_131 : cm_cv RX11 131 mX1_takeOf 2 := ⟨Or.inl (cm_inT 354 rfl rfl), kmX1_takeOf, imX1_takeOf, emX1_takeOf⟩
set_option maxRecDepth 100000 in
theorem cX1_31 : cm_cs RX1 31 mX1_placeOf 2 := ⟨Or.inl (cm_inT 358 rfl rfl), kmX1_placeOf, smX1_placeOf⟩
set_option maxRecDepth 100000 in
theorem cX11_135 : cm_cv RX11 135 mX1_gladOf 2 := ⟨Or.inl (cm_inT 361 rfl rfl), kmX1_gladOf, imX1_gladOf, emX1_gladOf⟩
set_option maxRecDepth 100000 in
theorem cL_22 : cm_cv "CellarMeterLaw" 22 mX11_follows 3 := ⟨Or.inl (cm_inT 365 rfl rfl), kmX11_follows, imX11_follows, emX11_follows⟩
set_option maxRecDepth 100000 in
theorem cX11_138 : cm_cv RX11 138 mX9_hasState 1 := ⟨Or.inl (cm_inT 369 rfl rfl), kmX9_hasState, imX9_hasState, emX9_hasState⟩
set_option maxRecDepth 100000 in
theorem cX11_141 : cm_cs RX11 141 mX4_mayFollow 4 := ⟨Or.inl (cm_inT 373 rfl rfl), kmX4_mayFollow, smX4_mayFollow⟩
set_option maxRecDepth 100000 in
theorem cL_27 : cm_cv "CellarMeterLaw" 27 mX11_feed 2 := ⟨Or.inl (cm_inT 374 rfl rfl), kmX11_feed, imX11_feed, emX11_feed⟩
set_option maxRecDepth 100000 in
theorem cX11_148 : cm_cv RX11 148 mX8_add 1 := ⟨Or.inl (cm_inT 378 rfl rfl), kmX8_add, imX8_add, emX8_add⟩
set_option maxRecDepth 100000 in
theorem cL_31 : cm_cv "CellarMeterLaw" 31 mX11_house 0 := ⟨Or.inl (cm_inT 382 rfl rfl), kmX11_house, imX11_house, emX11_house⟩
set_option maxRecDepth 100000 in
theorem cX11_151 : cm_cv RX11 151 mX2_fill 1 := ⟨Or.inl (cm_inT 386 rfl rfl), kmX2_fill, imX2_fill, emX2_fill⟩
set_option maxRecDepth 100000 in
theorem cX2_27 : cm_cv RX2 27 mX1_empty 0 := ⟨Or.inl (cm_inT 390 rfl rfl), kmX1_empty, imX1_empty, emX1_empty⟩
set_option maxRecDepth 100000 in
theorem cX2_32 : cm_cv RX2 32 mX2_readClause 0 := ⟨Or.inl (cm_inT 394 rfl rfl), kmX2_readClause, imX2_readClause, emX2_readClause⟩
set_option maxRecDepth 100000 in
theorem cX2_44 : cm_cv RX2 44 mX8_byteAt 1 := ⟨Or.inl (cm_inT 398 rfl rfl), kmX8_byteAt, imX8_byteAt, emX8_byteAt⟩
set_option maxRecDepth 100000 in
theorem cX2_50 : cm_cv RX2 50 mX2_readWord 1 := ⟨Or.inl (cm_inT 403 rfl rfl), kmX2_readWord, imX2_readWord, emX2_readWord⟩
set_option maxRecDepth 100000 in
theorem cX2_115 : cm_cv RX2 115 mJ0_length 0 := ⟨Or.inl (cm_inT 407 rfl rfl), kmJ0_length, imJ0_length, emJ0_length⟩
set_option maxRecDepth 100000 in
theorem cJ0_335 : cm_cv RJ0 335 mJ0_coder 0 := ⟨Or.inl (cm_inT 411 rfl rfl), kmJ0_coder, imJ0_coder, emJ0_coder⟩
set_option maxRecDepth 100000 in
theorem cX2_120 : cm_cv RX2 120 mJ0_charAt 1 := ⟨Or.inl (cm_inT 417 rfl rfl), kmJ0_charAt, imJ0_charAt, emJ0_charAt⟩
set_option maxRecDepth 100000 in
theorem cJ0_492 : cm_cv RJ0 492 mJ0_isLatin1 0 := ⟨Or.inl (cm_inT 421 rfl rfl), kmJ0_isLatin1, imJ0_isLatin1, emJ0_isLatin1⟩
set_option maxRecDepth 100000 in
theorem cJ0_495 : cm_cs RJ0 495 mJ1_charAt 2 := ⟨Or.inl (cm_inT 425 rfl rfl), kmJ1_charAt, smJ1_charAt⟩
set_option maxRecDepth 100000 in
theorem cJ1_9 : cm_cs RJ1 9 mJ0_checkIndex 2 := ⟨Or.inl (cm_inT 428 rfl rfl), kmJ0_checkIndex, smJ0_checkIndex⟩
set_option maxRecDepth 100000 in
theorem cJ0_1059 : cm_cs RJ0 1059 mJ3_checkIndex 3 := ⟨Or.inl (cm_inT 433 rfl rfl), kmJ3_checkIndex, smJ3_checkIndex⟩
set_option maxRecDepth 100000 in
theorem cJ0_498 : cm_cs RJ0 498 mJ2_charAt 2 := ⟨Or.inl (cm_inT 436 rfl rfl), kmJ2_charAt, smJ2_charAt⟩
set_option maxRecDepth 100000 in
theorem cJ2_67 : cm_cs RJ2 67 mJ2_checkIndex 2 := ⟨Or.inl (cm_inT 439 rfl rfl), kmJ2_checkIndex, smJ2_checkIndex⟩
set_option maxRecDepth 100000 in
theorem cJ2_48 : cm_cs RJ2 48 mJ2_length 1 := ⟨Or.inl (cm_inT 442 rfl rfl), kmJ2_length, smJ2_length⟩
set_option maxRecDepth 100000 in
theorem cJ2_414 : cm_cs RJ2 414 mJ0_checkIndex 2 := ⟨Or.inl (cm_inT 445 rfl rfl), kmJ0_checkIndex, smJ0_checkIndex⟩
set_option maxRecDepth 100000 in
theorem cJ2_71 : cm_cs RJ2 71 mJ2_getChar 2 := ⟨Or.inl (cm_inT 446 rfl rfl), kmJ2_getChar, smJ2_getChar⟩
set_option maxRecDepth 100000 in
theorem cX2_40 : cm_cv RX2 40 mX2_readSign 1 := ⟨Or.inl (cm_inT 455 rfl rfl), kmX2_readSign, imX2_readSign, emX2_readSign⟩
set_option maxRecDepth 100000 in
theorem cX2_54 : cm_cv RX2 54 mX2_readEither 1 := ⟨Or.inl (cm_inT 459 rfl rfl), kmX2_readEither, imX2_readEither, emX2_readEither⟩
set_option maxRecDepth 100000 in
theorem cX2_86 : cm_cv RX2 86 mX2_readBoth 1 := ⟨Or.inl (cm_inT 463 rfl rfl), kmX2_readBoth, imX2_readBoth, emX2_readBoth⟩
set_option maxRecDepth 100000 in
theorem cX2_92 : cm_cv RX2 92 mX2_readSingle 1 := ⟨Or.inl (cm_inT 467 rfl rfl), kmX2_readSingle, imX2_readSingle, emX2_readSingle⟩
set_option maxRecDepth 100000 in
theorem cX2_95 : cm_cv RX2 95 mX2_readTest 0 := ⟨Or.inl (cm_inT 471 rfl rfl), kmX2_readTest, imX2_readTest, emX2_readTest⟩
set_option maxRecDepth 100000 in
theorem cX2_75 : cm_cv RX2 75 mX2_readOneOf 1 := ⟨Or.inl (cm_inT 476 rfl rfl), kmX2_readOneOf, imX2_readOneOf, emX2_readOneOf⟩
set_option maxRecDepth 100000 in
theorem cX2_65 : cm_cv RX2 65 mX2_readNumber 1 := ⟨Or.inl (cm_inT 481 rfl rfl), kmX2_readNumber, imX2_readNumber, emX2_readNumber⟩
set_option maxRecDepth 100000 in
theorem cX2_111 : cm_cs RX2 111 mX2_isFigure 1 := ⟨Or.inl (cm_inT 486 rfl rfl), kmX2_isFigure, smX2_isFigure⟩
set_option maxRecDepth 100000 in
theorem cX2_106 : cm_cv RX2 106 mX1_addTest 3 := ⟨Or.inl (cm_inT 489 rfl rfl), kmX1_addTest, imX1_addTest, emX1_addTest⟩
set_option maxRecDepth 100000 in
theorem cX1_35 : cm_cv RX1 35 mX1_addStep 1 := ⟨Or.inl (cm_inT 493 rfl rfl), kmX1_addStep, imX1_addStep, emX1_addStep⟩
set_option maxRecDepth 100000 in
theorem cX2_98 : cm_cv RX2 98 mX2_readNested 2 := ⟨Or.inl (cm_inT 497 rfl rfl), kmX2_readNested, imX2_readNested, emX2_readNested⟩
set_option maxRecDepth 100000 in
theorem cX2_89 : cm_cv RX2 89 mX1_addStep 1 := ⟨Or.inl (cm_inT 501 rfl rfl), kmX1_addStep, imX1_addStep, emX1_addStep⟩
set_option maxRecDepth 100000 in
theorem cX2_59 : cm_cv RX2 59 mX2_readTable 1 := ⟨Or.inl (cm_inT 503 rfl rfl), kmX2_readTable, imX2_readTable, emX2_readTable⟩
set_option maxRecDepth 100000 in
theorem cX2_79 : cm_cv RX2 79 mX1_setTake 3 := ⟨Or.inl (cm_inT 508 rfl rfl), kmX1_setTake, imX1_setTake, emX1_setTake⟩
set_option maxRecDepth 100000 in
theorem cX2_83 : cm_cv RX2 83 mX1_setGlad 3 := ⟨Or.inl (cm_inT 512 rfl rfl), kmX1_setGlad, imX1_setGlad, emX1_setGlad⟩
set_option maxRecDepth 100000 in
theorem cL_36 : cm_cv "CellarMeterLaw" 36 mX11_reading 2 := ⟨Or.inl (cm_inT 519 rfl rfl), kmX11_reading, imX11_reading, emX11_reading⟩
set_option maxRecDepth 100000 in
theorem cX11_155 : cm_cv RX11 155 mX11_meterAt 1 := ⟨Or.inl (cm_inT 523 rfl rfl), kmX11_meterAt, imX11_meterAt, emX11_meterAt⟩
set_option maxRecDepth 100000 in
theorem cX11_159 : cm_cv RX11 159 mX5_add 1 := ⟨Or.inl (cm_inT 527 rfl rfl), kmX5_add, imX5_add, emX5_add⟩
set_option maxRecDepth 100000 in
theorem cL_40 : cm_cv "CellarMeterLaw" 40 mX11_clear 1 := ⟨Or.inl (cm_inT 531 rfl rfl), kmX11_clear, imX11_clear, emX11_clear⟩
set_option maxRecDepth 100000 in
theorem cL_45 : cm_cv "CellarMeterLaw" 45 mX11_fits 2 := ⟨Or.inl (cm_inT 535 rfl rfl), kmX11_fits, imX11_fits, emX11_fits⟩
set_option maxRecDepth 100000 in
theorem cX11_160 : cm_cv RX11 160 mX5_has 1 := ⟨Or.inl (cm_inT 539 rfl rfl), kmX5_has, imX5_has, emX5_has⟩
set_option maxRecDepth 100000 in
theorem cX11_163 : cm_cv RX11 163 mX3_hasWay 1 := ⟨Or.inl (cm_inT 543 rfl rfl), kmX3_hasWay, imX3_hasWay, emX3_hasWay⟩
set_option maxRecDepth 100000 in
theorem cX11_166 : cm_cv RX11 166 mX11_laid 0 := ⟨Or.inl (cm_inT 547 rfl rfl), kmX11_laid, imX11_laid, emX11_laid⟩
set_option maxRecDepth 100000 in
theorem cX11_276 : cm_cv RX11 276 mX7_lay 1 := ⟨Or.inl (cm_inT 551 rfl rfl), kmX7_lay, imX7_lay, emX7_lay⟩
set_option maxRecDepth 100000 in
theorem cX7_67 : Cond.methodLink RX7 67 Lib.Math.min.name ∈ cm_W0 := cm_inT 555 rfl rfl
set_option maxRecDepth 100000 in
theorem cX7_81 : cm_cv RX7 81 mX3_sum 4 := ⟨Or.inl (cm_inT 558 rfl rfl), kmX3_sum, imX3_sum, emX3_sum⟩
set_option maxRecDepth 100000 in
theorem cX7_85 : cm_cv RX7 85 mX3_lawfulWays 0 := ⟨Or.inl (cm_inT 562 rfl rfl), kmX3_lawfulWays, imX3_lawfulWays, emX3_lawfulWays⟩
set_option maxRecDepth 100000 in
theorem cX7_89 : cm_cv RX7 89 mX1_barred 3 := ⟨Or.inl (cm_inT 566 rfl rfl), kmX1_barred, imX1_barred, emX1_barred⟩
set_option maxRecDepth 100000 in
theorem cX1_39 : cm_cs RX1 39 mX1_tested 3 := ⟨Or.inl (cm_inT 570 rfl rfl), kmX1_tested, smX1_tested⟩
set_option maxRecDepth 100000 in
theorem cX1_57 : cm_cv RX1 57 mX3_thingAt 1 := ⟨Or.inl (cm_inT 573 rfl rfl), kmX3_thingAt, imX3_thingAt, emX3_thingAt⟩
set_option maxRecDepth 100000 in
theorem cX1_63 : cm_cs RX1 63 mX1_compares 3 := ⟨Or.inl (cm_inT 574 rfl rfl), kmX1_compares, smX1_compares⟩
set_option maxRecDepth 100000 in
theorem cX1_72 : cm_cv RX1 72 mX3_waysWith 2 := ⟨Or.inl (cm_inT 578 rfl rfl), kmX3_waysWith, imX3_waysWith, emX3_waysWith⟩
set_option maxRecDepth 100000 in
theorem cX3_66 : cm_cv RX3 66 mX3_thingAt 1 := ⟨Or.inl (cm_inT 582 rfl rfl), kmX3_thingAt, imX3_thingAt, emX3_thingAt⟩
set_option maxRecDepth 100000 in
theorem cX3_70 : cm_cv RX3 70 mX9_hasState 1 := ⟨Or.inl (cm_inT 583 rfl rfl), kmX9_hasState, imX9_hasState, emX9_hasState⟩
set_option maxRecDepth 100000 in
theorem cX1_43 : cm_cs RX1 43 mX1_push 3 := ⟨Or.inl (cm_inT 584 rfl rfl), kmX1_push, smX1_push⟩
set_option maxRecDepth 100000 in
theorem cX1_47 : cm_cs RX1 47 mX1_negate 2 := ⟨Or.inl (cm_inT 587 rfl rfl), kmX1_negate, smX1_negate⟩
set_option maxRecDepth 100000 in
theorem cX1_51 : cm_cs RX1 51 mX1_join 3 := ⟨Or.inl (cm_inT 590 rfl rfl), kmX1_join, smX1_join⟩
set_option maxRecDepth 100000 in
theorem cX7_95 : cm_cv RX7 95 mX5_wattsAt 1 := ⟨Or.inl (cm_inT 594 rfl rfl), kmX5_wattsAt, imX5_wattsAt, emX5_wattsAt⟩
set_option maxRecDepth 100000 in
theorem cX5_19 : cm_cv RX5 19 mX5_has 1 := ⟨Or.inl (cm_inT 598 rfl rfl), kmX5_has, imX5_has, emX5_has⟩
set_option maxRecDepth 100000 in
theorem cX7_102 : cm_cv RX7 102 mX7_near 4 := ⟨Or.inl (cm_inT 599 rfl rfl), kmX7_near, imX7_near, emX7_near⟩
set_option maxRecDepth 100000 in
theorem cX7_106 : cm_cs RX7 106 mX7_isIn 2 := ⟨Or.inl (cm_inT 603 rfl rfl), kmX7_isIn, smX7_isIn⟩
set_option maxRecDepth 100000 in
theorem cX7_110 : Cond.methodLink RX7 110 Lib.Math.abs.name ∈ cm_W0 := cm_inT 606 rfl rfl
set_option maxRecDepth 100000 in
theorem cX11_170 : cm_cv RX11 170 mX7_fitsAt 2 := ⟨Or.inl (cm_inT 609 rfl rfl), kmX7_fitsAt, imX7_fitsAt, emX7_fitsAt⟩
set_option maxRecDepth 100000 in
theorem cX7_113 : cm_cv RX7 113 mX3_hasWay 1 := ⟨Or.inl (cm_inT 613 rfl rfl), kmX3_hasWay, imX3_hasWay, emX3_hasWay⟩
set_option maxRecDepth 100000 in
theorem cL_49 : cm_cv "CellarMeterLaw" 49 mX11_tales 0 := ⟨Or.inl (cm_inT 614 rfl rfl), kmX11_tales, imX11_tales, emX11_tales⟩
set_option maxRecDepth 100000 in
theorem cX11_174 : cm_cv RX11 174 mX7_howMany 0 := ⟨Or.inl (cm_inT 618 rfl rfl), kmX7_howMany, imX7_howMany, emX7_howMany⟩
set_option maxRecDepth 100000 in
theorem cX7_123 : cm_cv RX7 123 mX7_countStep 1 := ⟨Or.inl (cm_inT 622 rfl rfl), kmX7_countStep, imX7_countStep, emX7_countStep⟩
set_option maxRecDepth 100000 in
theorem cX7_128 : cm_cv RX7 128 mX3_afterWay 1 := ⟨Or.inl (cm_inT 626 rfl rfl), kmX3_afterWay, imX3_afterWay, emX3_afterWay⟩
set_option maxRecDepth 100000 in
theorem cX3_73 : cm_cv RX3 73 mX3_hasWay 1 := ⟨Or.inl (cm_inT 630 rfl rfl), kmX3_hasWay, imX3_hasWay, emX3_hasWay⟩
set_option maxRecDepth 100000 in
theorem cL_53 : cm_cv "CellarMeterLaw" 53 mX11_may 1 := ⟨Or.inl (cm_inT 632 rfl rfl), kmX11_may, imX11_may, emX11_may⟩
set_option maxRecDepth 100000 in
theorem cX11_178 : cm_cv RX11 178 mX7_howManyFit 1 := ⟨Or.inl (cm_inT 636 rfl rfl), kmX7_howManyFit, imX7_howManyFit, emX7_howManyFit⟩
set_option maxRecDepth 100000 in
theorem cX7_117 : cm_cs RX7 117 mJ13_bitCount 1 := ⟨Or.inl (cm_inT 640 rfl rfl), kmJ13_bitCount, smJ13_bitCount⟩
set_option maxRecDepth 100000 in
theorem cL_57 : cm_cv "CellarMeterLaw" 57 mX11_fewest 1 := ⟨Or.inl (cm_inT 646 rfl rfl), kmX11_fewest, imX11_fewest, emX11_fewest⟩
set_option maxRecDepth 100000 in
theorem cX11_182 : cm_cv RX11 182 mX7_ofFewest 1 := ⟨Or.inl (cm_inT 650 rfl rfl), kmX7_ofFewest, imX7_ofFewest, emX7_ofFewest⟩
set_option maxRecDepth 100000 in
theorem cX7_153 : cm_cv RX7 153 mX7_reach 0 := ⟨Or.inl (cm_inT 654 rfl rfl), kmX7_reach, imX7_reach, emX7_reach⟩
set_option maxRecDepth 100000 in
theorem cX7_132 : cm_cv RX7 132 mX3_afterAny 1 := ⟨Or.inl (cm_inT 658 rfl rfl), kmX3_afterAny, imX3_afterAny, emX3_afterAny⟩
set_option maxRecDepth 100000 in
theorem cX3_76 : cm_cv RX3 76 mX3_joined 2 := ⟨Or.inl (cm_inT 662 rfl rfl), kmX3_joined, imX3_joined, emX3_joined⟩
set_option maxRecDepth 100000 in
theorem cX7_157 : cm_cv RX7 157 mX7_findCheapest 1 := ⟨Or.inl (cm_inT 666 rfl rfl), kmX7_findCheapest, imX7_findCheapest, emX7_findCheapest⟩
set_option maxRecDepth 100000 in
theorem cX7_139 : cm_cv RX7 139 mX7_trimBackTo 1 := ⟨Or.inl (cm_inT 670 rfl rfl), kmX7_trimBackTo, imX7_trimBackTo, emX7_trimBackTo⟩
set_option maxRecDepth 100000 in
theorem cX7_136 : cm_cv RX7 136 mX3_beforeAny 1 := ⟨Or.inl (cm_inT 674 rfl rfl), kmX3_beforeAny, imX3_beforeAny, emX3_beforeAny⟩
set_option maxRecDepth 100000 in
theorem cX7_142 : cm_cv RX7 142 mX7_bestNext 3 := ⟨Or.inl (cm_inT 678 rfl rfl), kmX7_bestNext, imX7_bestNext, emX7_bestNext⟩
set_option maxRecDepth 100000 in
theorem cX7_146 : cm_cv RX7 146 mX7_costOf 4 := ⟨Or.inl (cm_inT 682 rfl rfl), kmX7_costOf, imX7_costOf, emX7_costOf⟩
set_option maxRecDepth 100000 in
theorem cX7_150 : cm_cv RX7 150 mX3_changes 2 := ⟨Or.inl (cm_inT 686 rfl rfl), kmX3_changes, imX3_changes, emX3_changes⟩
set_option maxRecDepth 100000 in
theorem cX3_80 : cm_cs RX3 80 mJ6_bitCount 1 := ⟨Or.inl (cm_inT 690 rfl rfl), kmJ6_bitCount, smJ6_bitCount⟩
set_option maxRecDepth 100000 in
theorem cL_61 : cm_cv "CellarMeterLaw" 61 mX11_gladdest 1 := ⟨Or.inl (cm_inT 696 rfl rfl), kmX11_gladdest, imX11_gladdest, emX11_gladdest⟩
set_option maxRecDepth 100000 in
theorem cX11_185 : cm_cv RX11 185 mX7_ofGladdest 1 := ⟨Or.inl (cm_inT 700 rfl rfl), kmX7_ofGladdest, imX7_ofGladdest, emX7_ofGladdest⟩
set_option maxRecDepth 100000 in
theorem cL_65 : cm_cv "CellarMeterLaw" 65 mX11_sure 2 := ⟨Or.inl (cm_inT 704 rfl rfl), kmX11_sure, imX11_sure, emX11_sure⟩
set_option maxRecDepth 100000 in
theorem cX11_188 : cm_cs RX11 188 mX11_isEither 1 := ⟨Or.inl (cm_inT 708 rfl rfl), kmX11_isEither, smX11_isEither⟩
set_option maxRecDepth 100000 in
theorem cX11_191 : cm_cv RX11 191 mX7_thingsOn 2 := ⟨Or.inl (cm_inT 711 rfl rfl), kmX7_thingsOn, imX7_thingsOn, emX7_thingsOn⟩
set_option maxRecDepth 100000 in
theorem cX7_164 : cm_cv RX7 164 mX3_waysWith 2 := ⟨Or.inl (cm_inT 715 rfl rfl), kmX3_waysWith, imX3_waysWith, emX3_waysWith⟩
set_option maxRecDepth 100000 in
theorem cL_69 : cm_cv "CellarMeterLaw" 69 mX11_alike 0 := ⟨Or.inl (cm_inT 716 rfl rfl), kmX11_alike, imX11_alike, emX11_alike⟩
set_option maxRecDepth 100000 in
theorem cX11_195 : cm_cv RX11 195 mX11_areAlike 2 := ⟨Or.inl (cm_inT 720 rfl rfl), kmX11_areAlike, imX11_areAlike, emX11_areAlike⟩
set_option maxRecDepth 100000 in
theorem cX11_280 : cm_cv RX11 280 mX1_names 1 := ⟨Or.inl (cm_inT 724 rfl rfl), kmX1_names, imX1_names, emX1_names⟩
set_option maxRecDepth 100000 in
theorem cL_73 : cm_cv "CellarMeterLaw" 73 mX11_secret 0 := ⟨Or.inl (cm_inT 728 rfl rfl), kmX11_secret, imX11_secret, emX11_secret⟩
set_option maxRecDepth 100000 in
theorem cX11_198 : cm_cv RX11 198 mX7_leastSecret 0 := ⟨Or.inl (cm_inT 732 rfl rfl), kmX7_leastSecret, imX7_leastSecret, emX7_leastSecret⟩
set_option maxRecDepth 100000 in
theorem cL_77 : cm_cv "CellarMeterLaw" 77 mX11_part 2 := ⟨Or.inl (cm_inT 736 rfl rfl), kmX11_part, imX11_part, emX11_part⟩
set_option maxRecDepth 100000 in
theorem cX11_201 : cm_cv RX11 201 mX7_partOf 2 := ⟨Or.inl (cm_inT 740 rfl rfl), kmX7_partOf, imX7_partOf, emX7_partOf⟩
set_option maxRecDepth 100000 in
theorem cL_81 : cm_cv "CellarMeterLaw" 81 mX11_wires 1 := ⟨Or.inl (cm_inT 744 rfl rfl), kmX11_wires, imX11_wires, emX11_wires⟩
set_option maxRecDepth 100000 in
theorem cX11_204 : cm_cv RX11 204 mX7_wiredSets 2 := ⟨Or.inl (cm_inT 748 rfl rfl), kmX7_wiredSets, imX7_wiredSets, emX7_wiredSets⟩
set_option maxRecDepth 100000 in
theorem cL_85 : cm_cv "CellarMeterLaw" 85 mX11_coarse 2 := ⟨Or.inl (cm_inT 752 rfl rfl), kmX11_coarse, imX11_coarse, emX11_coarse⟩
set_option maxRecDepth 100000 in
theorem cX11_208 : cm_cv RX11 208 mX7_leastCoarse 2 := ⟨Or.inl (cm_inT 756 rfl rfl), kmX7_leastCoarse, imX7_leastCoarse, emX7_leastCoarse⟩
set_option maxRecDepth 100000 in
theorem cL_89 : cm_cv "CellarMeterLaw" 89 mX11_judge 2 := ⟨Or.inl (cm_inT 760 rfl rfl), kmX11_judge, imX11_judge, emX11_judge⟩
set_option maxRecDepth 100000 in
theorem cX11_211 : cm_cv RX11 211 mX11_tapeAt 1 := ⟨Or.inl (cm_inT 764 rfl rfl), kmX11_tapeAt, imX11_tapeAt, emX11_tapeAt⟩
set_option maxRecDepth 100000 in
theorem cX11_215 : cm_cv RX11 215 mX6_isNothing 0 := ⟨Or.inl (cm_inT 768 rfl rfl), kmX6_isNothing, imX6_isNothing, emX6_isNothing⟩
set_option maxRecDepth 100000 in
theorem cX11_222 : cm_cv RX11 222 mX7_judged 2 := ⟨Or.inl (cm_inT 772 rfl rfl), kmX7_judged, imX7_judged, emX7_judged⟩
set_option maxRecDepth 100000 in
theorem cX7_168 : cm_cv RX7 168 mX6_has 1 := ⟨Or.inl (cm_inT 776 rfl rfl), kmX6_has, imX6_has, emX6_has⟩
set_option maxRecDepth 100000 in
theorem cX7_173 : cm_cv RX7 173 mX6_itemAt 1 := ⟨Or.inl (cm_inT 780 rfl rfl), kmX6_itemAt, imX6_itemAt, emX6_itemAt⟩
set_option maxRecDepth 100000 in
theorem cX6_22 : cm_cv RX6 22 mX6_has 1 := ⟨Or.inl (cm_inT 784 rfl rfl), kmX6_has, imX6_has, emX6_has⟩
set_option maxRecDepth 100000 in
theorem cL_93 : cm_cv "CellarMeterLaw" 93 mX11_image 0 := ⟨Or.inl (cm_inT 785 rfl rfl), kmX11_image, imX11_image, emX11_image⟩
set_option maxRecDepth 100000 in
theorem cX11_226 : cm_cv RX11 226 mX5_copy 1 := ⟨Or.inl (cm_inT 789 rfl rfl), kmX5_copy, imX5_copy, emX5_copy⟩
set_option maxRecDepth 100000 in
theorem cL_97 : cm_cv "CellarMeterLaw" 97 mX11_undo 0 := ⟨Or.inl (cm_inT 793 rfl rfl), kmX11_undo, imX11_undo, emX11_undo⟩
set_option maxRecDepth 100000 in
theorem cL_101 : cm_cv "CellarMeterLaw" 101 mX11_act 3 := ⟨Or.inl (cm_inT 797 rfl rfl), kmX11_act, imX11_act, emX11_act⟩
set_option maxRecDepth 100000 in
theorem cX11_235 : cm_cs RX11 235 mX0_start 4 := ⟨Or.inl (cm_inT 801 rfl rfl), kmX0_start, smX0_start⟩
set_option maxRecDepth 100000 in
theorem cX0_13 : cm_cs RX0 13 mX0_perform 6 := ⟨Or.inl (cm_inT 804 rfl rfl), kmX0_perform, smX0_perform⟩
set_option maxRecDepth 100000 in
theorem cX0_19 : cm_cs RX0 19 mX0_ownerOf 2 := ⟨Or.inl (cm_inT 807 rfl rfl), kmX0_ownerOf, smX0_ownerOf⟩
set_option maxRecDepth 100000 in
theorem cX0_29 : cm_cs RX0 29 mX0_bodyOf 2 := ⟨Or.inl (cm_inT 810 rfl rfl), kmX0_bodyOf, smX0_bodyOf⟩
set_option maxRecDepth 100000 in
theorem cX0_23 : cm_cs RX0 23 mX4_above 1 := ⟨Or.inl (cm_inT 815 rfl rfl), kmX4_above, smX4_above⟩
set_option maxRecDepth 100000 in
theorem cX0_32 : cm_cv RX0 32 mX10_add 1 := ⟨Or.inl (cm_inT 816 rfl rfl), kmX10_add, imX10_add, emX10_add⟩
set_option maxRecDepth 100000 in
theorem cL_105 : cm_cv "CellarMeterLaw" 105 mX11_trace 1 := ⟨Or.inl (cm_inT 820 rfl rfl), kmX11_trace, imX11_trace, emX11_trace⟩
set_option maxRecDepth 100000 in
theorem cX11_239 : cm_cv RX11 239 mX10_has 1 := ⟨Or.inl (cm_inT 824 rfl rfl), kmX10_has, imX10_has, emX10_has⟩
set_option maxRecDepth 100000 in
theorem cX11_240 : cm_cv RX11 240 mX10_bodyAt 1 := ⟨Or.inl (cm_inT 828 rfl rfl), kmX10_bodyAt, imX10_bodyAt, emX10_bodyAt⟩
set_option maxRecDepth 100000 in
theorem cX10_19 : cm_cv RX10 19 mX10_has 1 := ⟨Or.inl (cm_inT 832 rfl rfl), kmX10_has, imX10_has, emX10_has⟩
set_option maxRecDepth 100000 in
theorem cL_109 : cm_cv "CellarMeterLaw" 109 mX11_taken 2 := ⟨Or.inl (cm_inT 833 rfl rfl), kmX11_taken, imX11_taken, emX11_taken⟩
set_option maxRecDepth 100000 in
theorem cX11_243 : cm_cs RX11 243 mX4_isUnder 2 := ⟨Or.inl (cm_inT 837 rfl rfl), kmX4_isUnder, smX4_isUnder⟩
set_option maxRecDepth 100000 in
theorem cL_113 : cm_cv "CellarMeterLaw" 113 mX11_count 1 := ⟨Or.inl (cm_inT 838 rfl rfl), kmX11_count, imX11_count, emX11_count⟩
set_option maxRecDepth 100000 in
theorem cL_117 : cm_cv "CellarMeterLaw" 117 mX11_tape 3 := ⟨Or.inl (cm_inT 842 rfl rfl), kmX11_tape, imX11_tape, emX11_tape⟩
set_option maxRecDepth 100000 in
theorem cX11_249 : cm_cv RX11 249 mX6_become 2 := ⟨Or.inl (cm_inT 846 rfl rfl), kmX6_become, imX6_become, emX6_become⟩
set_option maxRecDepth 100000 in
theorem cL_123 : cm_cv "CellarMeterLaw" 123 mX11_item 3 := ⟨Or.inl (cm_inT 850 rfl rfl), kmX11_item, imX11_item, emX11_item⟩
set_option maxRecDepth 100000 in
theorem cX11_252 : cm_cv RX11 252 mX6_has 1 := ⟨Or.inl (cm_inT 854 rfl rfl), kmX6_has, imX6_has, emX6_has⟩
set_option maxRecDepth 100000 in
theorem cX11_253 : cm_cv RX11 253 mX6_put 2 := ⟨Or.inl (cm_inT 855 rfl rfl), kmX6_put, imX6_put, emX6_put⟩
set_option maxRecDepth 100000 in
theorem cX6_26 : cm_cv RX6 26 mX6_cut 1 := ⟨Or.inl (cm_inT 859 rfl rfl), kmX6_cut, imX6_cut, emX6_cut⟩
set_option maxRecDepth 100000 in
theorem cL_128 : cm_cv "CellarMeterLaw" 128 mX11_read 2 := ⟨Or.inl (cm_inT 863 rfl rfl), kmX11_read, imX11_read, emX11_read⟩
set_option maxRecDepth 100000 in
theorem cX11_259 : cm_cv RX11 259 mX6_itemAt 1 := ⟨Or.inl (cm_inT 868 rfl rfl), kmX6_itemAt, imX6_itemAt, emX6_itemAt⟩
set_option maxRecDepth 100000 in
theorem cL_133 : cm_cv "CellarMeterLaw" 133 mX11_shift 5 := ⟨Or.inl (cm_inT 869 rfl rfl), kmX11_shift, imX11_shift, emX11_shift⟩
set_option maxRecDepth 100000 in
theorem cX11_263 : cm_cv RX11 263 mX6_hasRun 2 := ⟨Or.inl (cm_inT 873 rfl rfl), kmX6_hasRun, imX6_hasRun, emX6_hasRun⟩
set_option maxRecDepth 100000 in
theorem aX11_270 : Cond.methodLink RX11 270 arraycopyName ∈ cm_W0 := cm_inT 877 rfl rfl
set_option maxRecDepth 100000 in
theorem cL_12 : cm_ci "CellarMeterLaw" 12 mX12_init 0 := ⟨Or.inl (cm_inT 882 rfl rfl), kmX12_init, imX12_init, rfl, rfl⟩
set_option maxRecDepth 100000 in
theorem oX12_1 : Cond.methodLink RX12 1 Lib.objectInit ∈ cm_W0 := cm_inT 885 rfl rfl
set_option maxRecDepth 100000 in
theorem cL_17 : cm_cv "CellarMeterLaw" 17 mX12_thing 2 := ⟨Or.inl (cm_inT 1023 rfl rfl), kmX12_thing, imX12_thing, emX12_thing⟩
set_option maxRecDepth 100000 in
theorem cX12_149 : cm_cv RX12 149 mX12_in 3 := ⟨Or.inl (cm_inT 1027 rfl rfl), kmX12_in, imX12_in, emX12_in⟩
set_option maxRecDepth 100000 in
theorem cL_26 : cm_cv "CellarMeterLaw" 26 mX12_follows 3 := ⟨Or.inl (cm_inT 1031 rfl rfl), kmX12_follows, imX12_follows, emX12_follows⟩
set_option maxRecDepth 100000 in
theorem cX12_153 : cm_cv RX12 153 mX12_isThing 1 := ⟨Or.inl (cm_inT 1035 rfl rfl), kmX12_isThing, imX12_isThing, emX12_isThing⟩
set_option maxRecDepth 100000 in
theorem cX12_157 : cm_cv RX12 157 mX12_isNext 3 := ⟨Or.inl (cm_inT 1039 rfl rfl), kmX12_isNext, imX12_isNext, emX12_isNext⟩
set_option maxRecDepth 100000 in
theorem cL_30 : cm_cv "CellarMeterLaw" 30 mX12_feed 2 := ⟨Or.inl (cm_inT 1043 rfl rfl), kmX12_feed, imX12_feed, emX12_feed⟩
set_option maxRecDepth 100000 in
theorem cL_35 : cm_cv "CellarMeterLaw" 35 mX12_house 0 := ⟨Or.inl (cm_inT 1047 rfl rfl), kmX12_house, imX12_house, emX12_house⟩
set_option maxRecDepth 100000 in
theorem cX12_208 : cm_cv RX12 208 mX12_goes 1 := ⟨Or.inl (cm_inT 1051 rfl rfl), kmX12_goes, imX12_goes, emX12_goes⟩
set_option maxRecDepth 100000 in
theorem cX12_205 : cm_cv RX12 205 mX12_takesClause 1 := ⟨Or.inl (cm_inT 1055 rfl rfl), kmX12_takesClause, imX12_takesClause, emX12_takesClause⟩
set_option maxRecDepth 100000 in
theorem cX12_160 : cm_cv RX12 160 mX12_next 0 := ⟨Or.inl (cm_inT 1059 rfl rfl), kmX12_next, imX12_next, emX12_next⟩
set_option maxRecDepth 100000 in
theorem cX12_190 : cm_cv RX12 190 mX12_takesWord 2 := ⟨Or.inl (cm_inT 1064 rfl rfl), kmX12_takesWord, imX12_takesWord, emX12_takesWord⟩
set_option maxRecDepth 100000 in
theorem cX12_163 : cm_cv RX12 163 mX12_takesSign 1 := ⟨Or.inl (cm_inT 1068 rfl rfl), kmX12_takesSign, imX12_takesSign, emX12_takesSign⟩
set_option maxRecDepth 100000 in
theorem cX12_194 : cm_cv RX12 194 mX12_takesState 1 := ⟨Or.inl (cm_inT 1072 rfl rfl), kmX12_takesState, imX12_takesState, emX12_takesState⟩
set_option maxRecDepth 100000 in
theorem cX12_186 : cm_cv RX12 186 mX12_takesFigure 0 := ⟨Or.inl (cm_inT 1076 rfl rfl), kmX12_takesFigure, imX12_takesFigure, emX12_takesFigure⟩
set_option maxRecDepth 100000 in
theorem cX12_174 : cm_cv RX12 174 mX12_takesNumber 1 := ⟨Or.inl (cm_inT 1080 rfl rfl), kmX12_takesNumber, imX12_takesNumber, emX12_takesNumber⟩
set_option maxRecDepth 100000 in
theorem cX12_166 : cm_cv RX12 166 mX12_isDigit 0 := ⟨Or.inl (cm_inT 1084 rfl rfl), kmX12_isDigit, imX12_isDigit, emX12_isDigit⟩
set_option maxRecDepth 100000 in
theorem cX12_197 : cm_cv RX12 197 mX12_takesE 1 := ⟨Or.inl (cm_inT 1088 rfl rfl), kmX12_takesE, imX12_takesE, emX12_takesE⟩
set_option maxRecDepth 100000 in
theorem cX12_180 : cm_cv RX12 180 mX12_takesTest 0 := ⟨Or.inl (cm_inT 1092 rfl rfl), kmX12_takesTest, imX12_takesTest, emX12_takesTest⟩
set_option maxRecDepth 100000 in
theorem cX12_170 : cm_cv RX12 170 mX12_put 1 := ⟨Or.inl (cm_inT 1096 rfl rfl), kmX12_put, imX12_put, emX12_put⟩
set_option maxRecDepth 100000 in
theorem cX12_177 : cm_cv RX12 177 mX12_whole 0 := ⟨Or.inl (cm_inT 1100 rfl rfl), kmX12_whole, imX12_whole, emX12_whole⟩
set_option maxRecDepth 100000 in
theorem cX12_183 : cm_cv RX12 183 mX12_settle 1 := ⟨Or.inl (cm_inT 1104 rfl rfl), kmX12_settle, imX12_settle, emX12_settle⟩
set_option maxRecDepth 100000 in
theorem cX12_200 : cm_cv RX12 200 mX12_second 0 := ⟨Or.inl (cm_inT 1108 rfl rfl), kmX12_second, imX12_second, emX12_second⟩
set_option maxRecDepth 100000 in
theorem cL_21 : cm_cv "CellarMeterLaw" 21 mX12_of 2 := ⟨Or.inl (cm_inT 1114 rfl rfl), kmX12_of, imX12_of, emX12_of⟩
set_option maxRecDepth 100000 in
theorem cX12_217 : cm_cv RX12 217 mX12_last 2 := ⟨Or.inl (cm_inT 1118 rfl rfl), kmX12_last, imX12_last, emX12_last⟩
set_option maxRecDepth 100000 in
theorem cX12_211 : cm_cv RX12 211 mX12_first 0 := ⟨Or.inl (cm_inT 1122 rfl rfl), kmX12_first, imX12_first, emX12_first⟩
set_option maxRecDepth 100000 in
theorem cX12_214 : cm_cv RX12 214 mX12_behind 0 := ⟨Or.inl (cm_inT 1126 rfl rfl), kmX12_behind, imX12_behind, emX12_behind⟩
set_option maxRecDepth 100000 in
theorem cL_39 : cm_cv "CellarMeterLaw" 39 mX12_reading 2 := ⟨Or.inl (cm_inT 1130 rfl rfl), kmX12_reading, imX12_reading, emX12_reading⟩
set_option maxRecDepth 100000 in
theorem cL_44 : cm_cv "CellarMeterLaw" 44 mX12_clear 1 := ⟨Or.inl (cm_inT 1134 rfl rfl), kmX12_clear, imX12_clear, emX12_clear⟩
set_option maxRecDepth 100000 in
theorem cL_48 : cm_cv "CellarMeterLaw" 48 mX12_fits 2 := ⟨Or.inl (cm_inT 1138 rfl rfl), kmX12_fits, imX12_fits, emX12_fits⟩
set_option maxRecDepth 100000 in
theorem cX12_246 : cm_cv RX12 246 mX12_isReading 1 := ⟨Or.inl (cm_inT 1142 rfl rfl), kmX12_isReading, imX12_isReading, emX12_isReading⟩
set_option maxRecDepth 100000 in
theorem cX12_236 : cm_cv RX12 236 mX12_layAll 0 := ⟨Or.inl (cm_inT 1146 rfl rfl), kmX12_layAll, imX12_layAll, emX12_layAll⟩
set_option maxRecDepth 100000 in
theorem cX12_227 : cm_cv RX12 227 mX12_layWay 1 := ⟨Or.inl (cm_inT 1150 rfl rfl), kmX12_layWay, imX12_layWay, emX12_layWay⟩
set_option maxRecDepth 100000 in
theorem cX12_230 : cm_cv RX12 230 mX12_mayBe 2 := ⟨Or.inl (cm_inT 1154 rfl rfl), kmX12_mayBe, imX12_mayBe, emX12_mayBe⟩
set_option maxRecDepth 100000 in
theorem cX12_221 : cm_cv RX12 221 mX12_isUnder 2 := ⟨Or.inl (cm_inT 1158 rfl rfl), kmX12_isUnder, imX12_isUnder, emX12_isUnder⟩
set_option maxRecDepth 100000 in
theorem cX12_224 : cm_cv RX12 224 mX12_holds 3 := ⟨Or.inl (cm_inT 1162 rfl rfl), kmX12_holds, imX12_holds, emX12_holds⟩
set_option maxRecDepth 100000 in
theorem cX12_239 : cm_cv RX12 239 mX12_layFits 2 := ⟨Or.inl (cm_inT 1166 rfl rfl), kmX12_layFits, imX12_layFits, emX12_layFits⟩
set_option maxRecDepth 100000 in
theorem cX12_233 : cm_cv RX12 233 mX12_isNear 3 := ⟨Or.inl (cm_inT 1170 rfl rfl), kmX12_isNear, imX12_isNear, emX12_isNear⟩
set_option maxRecDepth 100000 in
theorem cL_52 : cm_cv "CellarMeterLaw" 52 mX12_tales 0 := ⟨Or.inl (cm_inT 1174 rfl rfl), kmX12_tales, imX12_tales, emX12_tales⟩
set_option maxRecDepth 100000 in
theorem cX12_249 : cm_cv RX12 249 mX12_look 0 := ⟨Or.inl (cm_inT 1178 rfl rfl), kmX12_look, imX12_look, emX12_look⟩
set_option maxRecDepth 100000 in
theorem cX12_243 : cm_cv RX12 243 mX12_findLive 0 := ⟨Or.inl (cm_inT 1182 rfl rfl), kmX12_findLive, imX12_findLive, emX12_findLive⟩
set_option maxRecDepth 100000 in
theorem cL_56 : cm_cv "CellarMeterLaw" 56 mX12_may 1 := ⟨Or.inl (cm_inT 1187 rfl rfl), kmX12_may, imX12_may, emX12_may⟩
set_option maxRecDepth 100000 in
theorem cL_60 : cm_cv "CellarMeterLaw" 60 mX12_fewest 1 := ⟨Or.inl (cm_inT 1191 rfl rfl), kmX12_fewest, imX12_fewest, emX12_fewest⟩
set_option maxRecDepth 100000 in
theorem cX12_259 : cm_cv RX12 259 mX12_findTale 2 := ⟨Or.inl (cm_inT 1195 rfl rfl), kmX12_findTale, imX12_findTale, emX12_findTale⟩
set_option maxRecDepth 100000 in
theorem cX12_255 : cm_cv RX12 255 mX12_costOf 3 := ⟨Or.inl (cm_inT 1200 rfl rfl), kmX12_costOf, imX12_costOf, emX12_costOf⟩
set_option maxRecDepth 100000 in
theorem cL_64 : cm_cv "CellarMeterLaw" 64 mX12_gladdest 1 := ⟨Or.inl (cm_inT 1204 rfl rfl), kmX12_gladdest, imX12_gladdest, emX12_gladdest⟩
set_option maxRecDepth 100000 in
theorem cL_68 : cm_cv "CellarMeterLaw" 68 mX12_sure 2 := ⟨Or.inl (cm_inT 1208 rfl rfl), kmX12_sure, imX12_sure, emX12_sure⟩
set_option maxRecDepth 100000 in
theorem cX12_262 : cm_cv RX12 262 mX12_onAt 2 := ⟨Or.inl (cm_inT 1212 rfl rfl), kmX12_onAt, imX12_onAt, emX12_onAt⟩
set_option maxRecDepth 100000 in
theorem cL_72 : cm_cv "CellarMeterLaw" 72 mX12_alike 0 := ⟨Or.inl (cm_inT 1216 rfl rfl), kmX12_alike, imX12_alike, emX12_alike⟩
set_option maxRecDepth 100000 in
theorem cX12_269 : cm_cv RX12 269 mX12_areAlike 2 := ⟨Or.inl (cm_inT 1220 rfl rfl), kmX12_areAlike, imX12_areAlike, emX12_areAlike⟩
set_option maxRecDepth 100000 in
theorem cX12_266 : cm_cv RX12 266 mX12_stands 1 := ⟨Or.inl (cm_inT 1224 rfl rfl), kmX12_stands, imX12_stands, emX12_stands⟩
set_option maxRecDepth 100000 in
theorem cL_76 : cm_cv "CellarMeterLaw" 76 mX12_secret 0 := ⟨Or.inl (cm_inT 1228 rfl rfl), kmX12_secret, imX12_secret, emX12_secret⟩
set_option maxRecDepth 100000 in
theorem cL_80 : cm_cv "CellarMeterLaw" 80 mX12_part 2 := ⟨Or.inl (cm_inT 1232 rfl rfl), kmX12_part, imX12_part, emX12_part⟩
set_option maxRecDepth 100000 in
theorem cL_84 : cm_cv "CellarMeterLaw" 84 mX12_wires 1 := ⟨Or.inl (cm_inT 1236 rfl rfl), kmX12_wires, imX12_wires, emX12_wires⟩
set_option maxRecDepth 100000 in
theorem cX12_272 : cm_cv RX12 272 mX12_wireSum 2 := ⟨Or.inl (cm_inT 1240 rfl rfl), kmX12_wireSum, imX12_wireSum, emX12_wireSum⟩
set_option maxRecDepth 100000 in
theorem cL_88 : cm_cv "CellarMeterLaw" 88 mX12_coarse 2 := ⟨Or.inl (cm_inT 1244 rfl rfl), kmX12_coarse, imX12_coarse, emX12_coarse⟩
set_option maxRecDepth 100000 in
theorem cL_92 : cm_cv "CellarMeterLaw" 92 mX12_judge 2 := ⟨Or.inl (cm_inT 1248 rfl rfl), kmX12_judge, imX12_judge, emX12_judge⟩
set_option maxRecDepth 100000 in
theorem cX12_275 : cm_cv RX12 275 mX12_isTape 1 := ⟨Or.inl (cm_inT 1252 rfl rfl), kmX12_isTape, imX12_isTape, emX12_isTape⟩
set_option maxRecDepth 100000 in
theorem cL_96 : cm_cv "CellarMeterLaw" 96 mX12_image 0 := ⟨Or.inl (cm_inT 1256 rfl rfl), kmX12_image, imX12_image, emX12_image⟩
set_option maxRecDepth 100000 in
theorem cL_100 : cm_cv "CellarMeterLaw" 100 mX12_undo 0 := ⟨Or.inl (cm_inT 1260 rfl rfl), kmX12_undo, imX12_undo, emX12_undo⟩
set_option maxRecDepth 100000 in
theorem cL_104 : cm_cv "CellarMeterLaw" 104 mX12_act 3 := ⟨Or.inl (cm_inT 1264 rfl rfl), kmX12_act, imX12_act, emX12_act⟩
set_option maxRecDepth 100000 in
theorem cX12_284 : cm_cv RX12 284 mX12_takesAct 2 := ⟨Or.inl (cm_inT 1268 rfl rfl), kmX12_takesAct, imX12_takesAct, emX12_takesAct⟩
set_option maxRecDepth 100000 in
theorem cX12_278 : cm_cv RX12 278 mX12_body 1 := ⟨Or.inl (cm_inT 1272 rfl rfl), kmX12_body, imX12_body, emX12_body⟩
set_option maxRecDepth 100000 in
theorem cX12_281 : cm_cv RX12 281 mX12_plainTakes 2 := ⟨Or.inl (cm_inT 1276 rfl rfl), kmX12_plainTakes, imX12_plainTakes, emX12_plainTakes⟩
set_option maxRecDepth 100000 in
theorem cX12_293 : cm_cv RX12 293 mX12_followsAct 2 := ⟨Or.inl (cm_inT 1280 rfl rfl), kmX12_followsAct, imX12_followsAct, emX12_followsAct⟩
set_option maxRecDepth 100000 in
theorem cX12_290 : cm_cv RX12 290 mX12_switchFollows 2 := ⟨Or.inl (cm_inT 1284 rfl rfl), kmX12_switchFollows, imX12_switchFollows, emX12_switchFollows⟩
set_option maxRecDepth 100000 in
theorem cX12_287 : cm_cv RX12 287 mX12_plainFollows 2 := ⟨Or.inl (cm_inT 1288 rfl rfl), kmX12_plainFollows, imX12_plainFollows, emX12_plainFollows⟩
set_option maxRecDepth 100000 in
theorem cX12_299 : cm_cv RX12 299 mX12_tellsAct 2 := ⟨Or.inl (cm_inT 1292 rfl rfl), kmX12_tellsAct, imX12_tellsAct, emX12_tellsAct⟩
set_option maxRecDepth 100000 in
theorem cX12_296 : cm_cv RX12 296 mX12_plainTells 2 := ⟨Or.inl (cm_inT 1296 rfl rfl), kmX12_plainTells, imX12_plainTells, emX12_plainTells⟩
set_option maxRecDepth 100000 in
theorem cL_108 : cm_cv "CellarMeterLaw" 108 mX12_trace 1 := ⟨Or.inl (cm_inT 1300 rfl rfl), kmX12_trace, imX12_trace, emX12_trace⟩
set_option maxRecDepth 100000 in
theorem cL_112 : cm_cv "CellarMeterLaw" 112 mX12_taken 2 := ⟨Or.inl (cm_inT 1304 rfl rfl), kmX12_taken, imX12_taken, emX12_taken⟩
set_option maxRecDepth 100000 in
theorem cL_116 : cm_cv "CellarMeterLaw" 116 mX12_count 1 := ⟨Or.inl (cm_inT 1308 rfl rfl), kmX12_count, imX12_count, emX12_count⟩
set_option maxRecDepth 100000 in
theorem cL_120 : cm_cv "CellarMeterLaw" 120 mX12_tape 3 := ⟨Or.inl (cm_inT 1312 rfl rfl), kmX12_tape, imX12_tape, emX12_tape⟩
set_option maxRecDepth 100000 in
theorem cL_127 : cm_cv "CellarMeterLaw" 127 mX12_item 3 := ⟨Or.inl (cm_inT 1316 rfl rfl), kmX12_item, imX12_item, emX12_item⟩
set_option maxRecDepth 100000 in
theorem cX12_302 : cm_cv RX12 302 mX12_narrow 2 := ⟨Or.inl (cm_inT 1320 rfl rfl), kmX12_narrow, imX12_narrow, emX12_narrow⟩
set_option maxRecDepth 100000 in
theorem cL_132 : cm_cv "CellarMeterLaw" 132 mX12_read 2 := ⟨Or.inl (cm_inT 1324 rfl rfl), kmX12_read, imX12_read, emX12_read⟩
set_option maxRecDepth 100000 in
theorem cL_137 : cm_cv "CellarMeterLaw" 137 mX12_shift 5 := ⟨Or.inl (cm_inT 1329 rfl rfl), kmX12_shift, imX12_shift, emX12_shift⟩
set_option maxRecDepth 100000 in
theorem oi_1 : Cond.instanceMethod Lib.objectInit ∈ cm_W0 := cm_inT 28 rfl rfl
set_option maxRecDepth 100000 in
theorem oi_2 : Cond.code Lib.objectInit ⟨#[0xb1]⟩ 1 none ∈ cm_W0 := cm_inT 29 rfl rfl
set_option maxRecDepth 100000 in
theorem ac_1 : Cond.native arraycopyName ∈ cm_W0 := cm_inT 879 rfl rfl
set_option maxRecDepth 100000 in
theorem ac_2 : Cond.static arraycopyName ∈ cm_W0 := cm_inT 878 rfl rfl
set_option maxRecDepth 100000 in
theorem ac_3 : Cond.initialized "java/lang/System" ∈ cm_W0 := cm_inT 21 rfl rfl
set_option maxRecDepth 100000 in
theorem lL_7 : Cond.classLink "CellarMeterLaw" 7 RX11 ∈ cm_W0 := cm_inT 22 rfl rfl
set_option maxRecDepth 100000 in
theorem nL_7 : cm_nw "CellarMeterLaw" 7 9 16 := ⟨RX11, TX11, tyX11, rfl, wiX11, tyX11_ok, lL_7, cm_inT 23 rfl rfl, cm_inT 1 rfl rfl, by decide +kernel⟩
set_option maxRecDepth 100000 in
theorem lX11_9 : Cond.classLink RX11 9 RX3 ∈ cm_W0 := cm_inT 30 rfl rfl
set_option maxRecDepth 100000 in
theorem nX11_9 : cm_nw RX11 9 2 8 := ⟨RX3, TX3, tyX3, rfl, wiX3, tyX3_ok, lX11_9, cm_inT 31 rfl rfl, cm_inT 2 rfl rfl, by decide +kernel⟩
set_option maxRecDepth 100000 in
theorem lX3_9 : Cond.classLink RX3 9 RX9 ∈ cm_W0 := cm_inT 36 rfl rfl
set_option maxRecDepth 100000 in
theorem nX3_9 : cm_nw RX3 9 7 3 := ⟨RX9, TX9, tyX9, rfl, wiX9, tyX9_ok, lX3_9, cm_inT 321 rfl rfl, cm_inT 12 rfl rfl, by decide +kernel⟩
set_option maxRecDepth 100000 in
theorem ay_1 : Cond.arrayClass (cm_aty 1) ∈ cm_W0 := cm_inT 67 rfl rfl
set_option maxRecDepth 100000 in
theorem ay_0 : Cond.arrayClass (cm_aty 0) ∈ cm_W0 := cm_inT 68 rfl rfl
set_option maxRecDepth 100000 in
theorem lX11_18 : Cond.classLink RX11 18 RX8 ∈ cm_W0 := cm_inT 69 rfl rfl
set_option maxRecDepth 100000 in
theorem nX11_18 : cm_nw RX11 18 6 2 := ⟨RX8, TX8, tyX8, rfl, wiX8, tyX8_ok, lX11_18, cm_inT 70 rfl rfl, cm_inT 3 rfl rfl, by decide +kernel⟩
set_option maxRecDepth 100000 in
theorem lX11_25 : Cond.classLink RX11 25 RX2 ∈ cm_W0 := cm_inT 84 rfl rfl
set_option maxRecDepth 100000 in
theorem nX11_25 : cm_nw RX11 25 1 4 := ⟨RX2, TX2, tyX2, rfl, wiX2, tyX2_ok, lX11_25, cm_inT 85 rfl rfl, cm_inT 4 rfl rfl, by decide +kernel⟩
set_option maxRecDepth 100000 in
theorem lX11_34 : Cond.classLink RX11 34 RX1 ∈ cm_W0 := cm_inT 103 rfl rfl
set_option maxRecDepth 100000 in
theorem nX11_34 : cm_nw RX11 34 0 6 := ⟨RX1, TX1, tyX1, rfl, wiX1, tyX1_ok, lX11_34, cm_inT 105 rfl rfl, cm_inT 5 rfl rfl, by decide +kernel⟩
set_option maxRecDepth 100000 in
theorem lX11_45 : Cond.classLink RX11 45 RX5 ∈ cm_W0 := cm_inT 133 rfl rfl
set_option maxRecDepth 100000 in
theorem nX11_45 : cm_nw RX11 45 3 2 := ⟨RX5, TX5, tyX5, rfl, wiX5, tyX5_ok, lX11_45, cm_inT 134 rfl rfl, cm_inT 6 rfl rfl, by decide +kernel⟩
set_option maxRecDepth 100000 in
theorem lX11_61 : Cond.classLink RX11 61 RX7 ∈ cm_W0 := cm_inT 148 rfl rfl
set_option maxRecDepth 100000 in
theorem nX11_61 : cm_nw RX11 61 5 15 := ⟨RX7, TX7, tyX7, rfl, wiX7, tyX7_ok, lX11_61, cm_inT 149 rfl rfl, cm_inT 7 rfl rfl, by decide +kernel⟩
set_option maxRecDepth 100000 in
theorem lX11_70 : Cond.classLink RX11 70 RX10 ∈ cm_W0 := cm_inT 200 rfl rfl
set_option maxRecDepth 100000 in
theorem nX11_70 : cm_nw RX11 70 8 2 := ⟨RX10, TX10, tyX10, rfl, wiX10, tyX10_ok, lX11_70, cm_inT 201 rfl rfl, cm_inT 8 rfl rfl, by decide +kernel⟩
set_option maxRecDepth 100000 in
theorem lX11_77 : Cond.classLink RX11 77 RX6 ∈ cm_W0 := cm_inT 214 rfl rfl
set_option maxRecDepth 100000 in
theorem nX11_77 : cm_nw RX11 77 4 3 := ⟨RX6, TX6, tyX6, rfl, wiX6, tyX6_ok, lX11_77, cm_inT 216 rfl rfl, cm_inT 9 rfl rfl, by decide +kernel⟩
set_option maxRecDepth 100000 in
theorem gX4_13 : Cond.fieldLink RX4 13 "CellarMeter$Kinds" "ABOVE" "[I" ∈ cm_W0 := cm_inT 305 rfl rfl
set_option maxRecDepth 100000 in
theorem gJ0_38 : Cond.fieldLink RJ0 38 "java/lang/String" "COMPACT_STRINGS" "Z" ∈ cm_W0 := cm_inT 415 rfl rfl
set_option maxRecDepth 100000 in
theorem gJ0_1053 : Cond.fieldLink RJ0 1053 "jdk/internal/util/Preconditions" "SIOOBE_FORMATTER" "Ljava/util/function/BiFunction;" ∈ cm_W0 := cm_inT 431 rfl rfl
set_option maxRecDepth 100000 in
theorem gJ2_44 : Cond.fieldLink RJ2 44 "java/lang/StringUTF16" "$assertionsDisabled" "Z" ∈ cm_W0 := cm_inT 449 rfl rfl
set_option maxRecDepth 100000 in
theorem gJ2_59 : Cond.fieldLink RJ2 59 "java/lang/StringUTF16" "HI_BYTE_SHIFT" "I" ∈ cm_W0 := cm_inT 451 rfl rfl
set_option maxRecDepth 100000 in
theorem gJ2_63 : Cond.fieldLink RJ2 63 "java/lang/StringUTF16" "LO_BYTE_SHIFT" "I" ∈ cm_W0 := cm_inT 453 rfl rfl
set_option maxRecDepth 100000 in
theorem vX1_55 : Cond.constantLong RX1 55 (-1) ∈ cm_W0 := cm_inT 577 rfl rfl
set_option maxRecDepth 100000 in
theorem vX7_93 : Cond.constantLong RX7 93 (-1) ∈ cm_W0 := cm_inT 593 rfl rfl
set_option maxRecDepth 100000 in
theorem vX7_127 : Cond.constant RX7 127 (1000003) ∈ cm_W0 := cm_inT 631 rfl rfl
set_option maxRecDepth 100000 in
theorem vJ13_314 : Cond.constantLong RJ13 314 (6148914691236517205) ∈ cm_W0 := cm_inT 643 rfl rfl
set_option maxRecDepth 100000 in
theorem vJ13_316 : Cond.constantLong RJ13 316 (3689348814741910323) ∈ cm_W0 := cm_inT 644 rfl rfl
set_option maxRecDepth 100000 in
theorem vJ13_318 : Cond.constantLong RJ13 318 (1085102592571150095) ∈ cm_W0 := cm_inT 645 rfl rfl
set_option maxRecDepth 100000 in
theorem vJ6_265 : Cond.constant RJ6 265 (1431655765) ∈ cm_W0 := cm_inT 693 rfl rfl
set_option maxRecDepth 100000 in
theorem vJ6_266 : Cond.constant RJ6 266 (858993459) ∈ cm_W0 := cm_inT 694 rfl rfl
set_option maxRecDepth 100000 in
theorem vJ6_267 : Cond.constant RJ6 267 (252645135) ∈ cm_W0 := cm_inT 695 rfl rfl
set_option maxRecDepth 100000 in
theorem gX0_44 : Cond.fieldLink RX0 44 "CellarMeter$Acts" "BODIES" "[I" ∈ cm_W0 := cm_inT 813 rfl rfl
set_option maxRecDepth 100000 in
theorem vX11_257 : Cond.constantLong RX11 257 (-9223372036854775808) ∈ cm_W0 := cm_inT 867 rfl rfl
set_option maxRecDepth 100000 in
theorem lL_10 : Cond.classLink "CellarMeterLaw" 10 RX12 ∈ cm_W0 := cm_inT 880 rfl rfl
set_option maxRecDepth 100000 in
theorem nL_10 : cm_nw "CellarMeterLaw" 10 10 45 := ⟨RX12, TX12, tyX12, rfl, wiX12, tyX12_ok, lL_10, cm_inT 881 rfl rfl, cm_inT 10 rfl rfl, by decide +kernel⟩
set_option maxRecDepth 100000 in
theorem ay_2 : Cond.arrayClass (cm_aty 2) ∈ cm_W0 := cm_inT 1022 rfl rfl
set_option maxRecDepth 100000 in
theorem vX12_189 : Cond.constant RX12 189 (656741) ∈ cm_W0 := cm_inT 1063 rfl rfl
set_option maxRecDepth 100000 in
theorem vX12_203 : Cond.constant RX12 203 (241700) ∈ cm_W0 := cm_inT 1112 rfl rfl
set_option maxRecDepth 100000 in
theorem vX12_204 : Cond.constant RX12 204 (239301) ∈ cm_W0 := cm_inT 1113 rfl rfl
set_option maxRecDepth 100000 in
theorem vX12_252 : Cond.constantLong RX12 252 (1000003) ∈ cm_W0 := cm_inT 1186 rfl rfl
set_option maxRecDepth 100000 in
theorem vX12_254 : Cond.constant RX12 254 (1000000) ∈ cm_W0 := cm_inT 1199 rfl rfl
set_option maxRecDepth 100000 in
theorem vX12_306 : Cond.constantLong RX12 306 (-9223372036854775808) ∈ cm_W0 := cm_inT 1328 rfl rfl
set_option maxRecDepth 100000 in
theorem vL_121 : Cond.constantLong "CellarMeterLaw" 121 (4294967295) ∈ cm_W0 := cm_inT 1333 rfl rfl
set_option maxRecDepth 100000 in
theorem gJ0_9 : Cond.fieldLink RJ0 9 "java/lang/String" "value" "[B" ∈ cm_W0 := cm_inT 1334 rfl rfl
set_option maxRecDepth 100000 in
theorem gJ0_15 : Cond.fieldLink RJ0 15 "java/lang/String" "coder" "B" ∈ cm_W0 := cm_inT 1335 rfl rfl
set_option maxRecDepth 100000 in
theorem mi_1 : Cond.initialized "java/lang/Math" ∈ cm_W0 := cm_inT 17 rfl rfl
