/-! the methods, by number: name, bytes, locals, what it returns; by program out of the Statement's own tables. Numbers 276 to 284: the three readers of a COND once more for each "(" that is open -/
def mt_l0 : List (MethodName × ByteArray × Nat × Option FieldType) := [
  (⟨ct_R0, "<init>", "(IIILFlakeArms$Trace;)V"⟩, prog_2_method_1_code, 5, none),
  (⟨ct_R0, "freezes", "(IIII)Z"⟩, prog_2_method_2_code, 5, (some FieldType.boolean)),
  (⟨ct_R0, "grows", "(I)I"⟩, prog_2_method_3_code, 2, (some FieldType.int)),
  (⟨ct_R0, "takes", "(I)I"⟩, prog_2_method_4_code, 3, (some FieldType.int)),
  (⟨ct_R1, "<init>", "(IIILFlakeArms$Trace;)V"⟩, prog_3_method_1_code, 5, none),
  (⟨ct_R1, "freezes", "(IIII)Z"⟩, prog_3_method_2_code, 5, (some FieldType.boolean)),
  (⟨ct_R1, "tells", "(I)I"⟩, prog_3_method_3_code, 2, (some FieldType.int)),
  (⟨ct_R1, "shares", "(I)I"⟩, prog_3_method_4_code, 3, (some FieldType.int)),
  (⟨ct_R2, "<init>", "()V"⟩, prog_4_method_1_code, 2, none),
  (⟨ct_R2, "placeOf", "(II)I"⟩, prog_4_method_2_code, 3, (some FieldType.int)),
  (⟨ct_R2, "qOf", "(I)I"⟩, prog_4_method_3_code, 1, (some FieldType.int)),
  (⟨ct_R2, "rOf", "(I)I"⟩, prog_4_method_4_code, 1, (some FieldType.int)),
  (⟨ct_R2, "ringOf", "(I)I"⟩, prog_4_method_5_code, 1, (some FieldType.int)),
  (⟨ct_R2, "ring", "(II)I"⟩, prog_4_method_6_code, 2, (some FieldType.int)),
  (⟨ct_R2, "imageOf", "(IIZ)I"⟩, prog_4_method_7_code, 7, (some FieldType.int)),
  (⟨ct_R2, "start", "()V"⟩, prog_4_method_8_code, 5, none),
  (⟨ct_R2, "become", "(LFlakeArms$Flake;)V"⟩, prog_4_method_9_code, 2, none),
  (⟨ct_R2, "setSince", "(II)V"⟩, prog_4_method_10_code, 3, none),
  (⟨ct_R2, "sinceOf", "(I)I"⟩, prog_4_method_11_code, 2, (some FieldType.int)),
  (⟨ct_R2, "hasIce", "(I)Z"⟩, prog_4_method_12_code, 2, (some FieldType.boolean)),
  (⟨ct_R2, "iceAlong", "(I)I"⟩, prog_4_method_13_code, 2, (some FieldType.int)),
  (⟨ct_R2, "iceBeside", "(I)I"⟩, prog_4_method_14_code, 7, (some FieldType.int)),
  (⟨ct_R2, "iceCount", "()I"⟩, prog_4_method_15_code, 6, (some FieldType.int)),
  (⟨ct_R2, "iceSince", "(I)I"⟩, prog_4_method_16_code, 7, (some FieldType.int)),
  (⟨ct_R2, "iceOfRing", "(I)I"⟩, prog_4_method_17_code, 7, (some FieldType.int)),
  (⟨ct_R2, "span", "()I"⟩, prog_4_method_18_code, 6, (some FieldType.int)),
  (⟨ct_R2, "edge", "()I"⟩, prog_4_method_19_code, 10, (some FieldType.int)),
  (⟨ct_R2, "isBare", "(I)Z"⟩, prog_4_method_20_code, 2, (some FieldType.boolean)),
  (⟨ct_R2, "holes", "()I"⟩, prog_4_method_21_code, 8, (some FieldType.int)),
  (⟨ct_R2, "isOpen", "(I)Z"⟩, prog_4_method_22_code, 8, (some FieldType.boolean)),
  (⟨ct_R2, "armLength", "(I)I"⟩, prog_4_method_23_code, 3, (some FieldType.int)),
  (⟨ct_R2, "breakArm", "(I)I"⟩, prog_4_method_24_code, 4, (some FieldType.int)),
  (⟨ct_R2, "placeOnArm", "(II)I"⟩, prog_4_method_25_code, 2, (some FieldType.int)),
  (⟨ct_R2, "cellsUnlike", "(LFlakeArms$Flake;IZ)I"⟩, prog_4_method_26_code, 9, (some FieldType.int)),
  (⟨ct_R2, "joinTurned", "(LFlakeArms$Flake;I)I"⟩, prog_4_method_27_code, 9, (some FieldType.int)),
  (⟨ct_R2, "takeRows", "([II)I"⟩, prog_4_method_28_code, 12, (some FieldType.int)),
  (⟨ct_R2, "bits", "(I)J"⟩, prog_4_method_29_code, 5, (some FieldType.long)),
  (⟨ct_R2, "takeBits", "(JJ)V"⟩, prog_4_method_30_code, 8, none),
  (⟨ct_R3, "<init>", "(IIILFlakeArms$Trace;)V"⟩, prog_5_method_1_code, 5, none),
  (⟨ct_R3, "ofKind", "(IIILFlakeArms$Trace;)LFlakeArms$Growth;"⟩, prog_5_method_2_code, 4, (some (FieldType.object "FlakeArms$Growth"))),
  (⟨ct_R3, "isOfKind", "(I)Z"⟩, prog_5_method_3_code, 2, (some FieldType.boolean)),
  (⟨ct_R3, "wouldFreeze", "(LFlakeArms$Flake;I)Z"⟩, prog_5_method_4_code, 5, (some FieldType.boolean)),
  (⟨ct_R3, "listFreezing", "(LFlakeArms$Flake;[I)I"⟩, prog_5_method_5_code, 8, (some FieldType.int)),
  (⟨ct_R3, "freezingBits", "(LFlakeArms$Flake;I)J"⟩, prog_5_method_6_code, 6, (some FieldType.long)),
  (⟨ct_R3, "freezes", "(IIII)Z"⟩, prog_5_method_7_code, 5, (some FieldType.boolean)),
  (⟨ct_R3, "isInBits", "(II)Z"⟩, prog_5_method_8_code, 2, (some FieldType.boolean)),
  (⟨ct_R3, "isOnArm", "(II)Z"⟩, prog_5_method_9_code, 2, (some FieldType.boolean)),
  (⟨ct_R3, "grows", "(I)I"⟩, prog_5_method_10_code, 2, (some FieldType.int))]
def mt_l1 : List (MethodName × ByteArray × Nat × Option FieldType) := [
  (⟨ct_R3, "takes", "(I)I"⟩, prog_5_method_11_code, 2, (some FieldType.int)),
  (⟨ct_R3, "shares", "(I)I"⟩, prog_5_method_12_code, 3, (some FieldType.int)),
  (⟨ct_R3, "tells", "(I)I"⟩, prog_5_method_13_code, 2, (some FieldType.int)),
  (⟨ct_R4, "<init>", "()V"⟩, prog_6_method_1_code, 1, none),
  (⟨ct_R4, "clear", "()V"⟩, prog_6_method_2_code, 1, none),
  (⟨ct_R4, "become", "(LFlakeArms$Law;)V"⟩, prog_6_method_3_code, 2, none),
  (⟨ct_R4, "comparison", "(III)I"⟩, prog_6_method_4_code, 3, (some FieldType.int)),
  (⟨ct_R4, "addCode", "(I)V"⟩, prog_6_method_5_code, 2, none),
  (⟨ct_R4, "addClause", "(I)V"⟩, prog_6_method_6_code, 2, none),
  (⟨ct_R4, "lastUsed", "([I)I"⟩, prog_6_method_7_code, 4, (some FieldType.int)),
  (⟨ct_R4, "isSomePick", "([I)Z"⟩, prog_6_method_8_code, 4, (some FieldType.boolean)),
  (⟨ct_R4, "holds", "(I[I)Z"⟩, prog_6_method_9_code, 7, (some FieldType.boolean)),
  (⟨ct_R4, "isTrue", "(I[I)Z"⟩, prog_6_method_10_code, 4, (some FieldType.boolean)),
  (⟨ct_R4, "valueOf", "(I[I)I"⟩, prog_6_method_11_code, 3, (some FieldType.int)),
  (⟨ct_R5, "<init>", "()V"⟩, prog_7_method_1_code, 1, none),
  (⟨ct_R5, "readLaw", "([BILFlakeArms$Law;)I"⟩, prog_7_method_2_code, 6, (some FieldType.int)),
  (⟨ct_R5, "splitText", "()V"⟩, prog_7_method_3_code, 5, none),
  (⟨ct_R5, "runOf", "(ICC)I"⟩, prog_7_method_4_code, 5, (some FieldType.int)),
  (⟨ct_R5, "setToken", "(IIII)V"⟩, prog_7_method_5_code, 5, none),
  (⟨ct_R5, "number", "(II)I"⟩, prog_7_method_6_code, 5, (some FieldType.int)),
  (⟨ct_R5, "wordSort", "(II)I"⟩, prog_7_method_7_code, 3, (some FieldType.int)),
  (⟨ct_R5, "namedValue", "(II)I"⟩, prog_7_method_8_code, 3, (some FieldType.int)),
  (⟨ct_R5, "isSpelled", "(Ljava/lang/String;II)Z"⟩, prog_7_method_9_code, 6, (some FieldType.boolean)),
  (⟨ct_R5, "isHere", "(I)Z"⟩, prog_7_method_10_code, 2, (some FieldType.boolean)),
  (⟨ct_R5, "faultHere", "()I"⟩, prog_7_method_11_code, 1, (some FieldType.int)),
  (⟨ct_R5, "skip", "(I)Z"⟩, prog_7_method_12_code, 3, (some FieldType.boolean)),
  (⟨ct_R5, "valueHere", "()I"⟩, prog_7_method_13_code, 1, (some FieldType.int)),
  (⟨ct_R5, "readClause", "()Z"⟩, prog_7_method_14_code, 2, (some FieldType.boolean)),
  (⟨ct_R5, "readCond", "(I)Z"⟩, prog_7_method_15_code, 4, (some FieldType.boolean)),
  (⟨ct_R5, "readAll", "(I)Z"⟩, prog_7_method_16_code, 4, (some FieldType.boolean)),
  (⟨ct_R5, "readOne", "(I)Z"⟩, prog_7_method_17_code, 4, (some FieldType.boolean)),
  (⟨ct_R5, "readComparison", "()Z"⟩, prog_7_method_18_code, 4, (some FieldType.boolean)),
  (⟨ct_R6, "<init>", "(IIILFlakeArms$Trace;)V"⟩, prog_8_method_1_code, 5, none),
  (⟨ct_R6, "freezes", "(IIII)Z"⟩, prog_8_method_2_code, 5, (some FieldType.boolean)),
  (⟨ct_R6, "grows", "(I)I"⟩, prog_8_method_3_code, 2, (some FieldType.int)),
  (⟨ct_R6, "tells", "(I)I"⟩, prog_8_method_4_code, 3, (some FieldType.int)),
  (⟨ct_R7, "<init>", "(IIILFlakeArms$Trace;)V"⟩, prog_9_method_1_code, 5, none),
  (⟨ct_R7, "freezes", "(IIII)Z"⟩, prog_9_method_2_code, 5, (some FieldType.boolean)),
  (⟨ct_R7, "takes", "(I)I"⟩, prog_9_method_3_code, 2, (some FieldType.int)),
  (⟨ct_R8, "<init>", "(IIILFlakeArms$Trace;)V"⟩, prog_10_method_1_code, 5, none),
  (⟨ct_R8, "freezes", "(IIII)Z"⟩, prog_10_method_2_code, 5, (some FieldType.boolean)),
  (⟨ct_R8, "shares", "(I)I"⟩, prog_10_method_3_code, 2, (some FieldType.int)),
  (⟨ct_R8, "grows", "(I)I"⟩, prog_10_method_4_code, 2, (some FieldType.int)),
  (⟨ct_R9, "<init>", "()V"⟩, prog_11_method_1_code, 1, none),
  (⟨ct_R9, "clear", "()V"⟩, prog_11_method_2_code, 1, none),
  (⟨ct_R10, "<init>", "()V"⟩, prog_12_method_1_code, 1, none),
  (⟨ct_R10, "become", "(LFlakeArms$World;)V"⟩, prog_12_method_2_code, 3, none),
  (⟨ct_R10, "growthAt", "(I)LFlakeArms$Growth;"⟩, prog_12_method_3_code, 3, (some (FieldType.object "FlakeArms$Growth")))]
def mt_l2 : List (MethodName × ByteArray × Nat × Option FieldType) := [
  (⟨ct_R10, "growBy", "(LFlakeArms$Flake;LFlakeArms$Growth;)I"⟩, prog_12_method_4_code, 6, (some FieldType.int)),
  (⟨ct_R10, "isMissed", "()Z"⟩, prog_12_method_5_code, 1, (some FieldType.boolean)),
  (⟨ct_R10, "growthFor", "(LFlakeArms$Flake;II)I"⟩, prog_12_method_6_code, 4, (some FieldType.int)),
  (⟨ct_R10, "isPicked", "(LFlakeArms$Flake;)Z"⟩, prog_12_method_7_code, 2, (some FieldType.boolean)),
  (⟨ct_R10, "nameValues", "(LFlakeArms$Flake;II)V"⟩, prog_12_method_8_code, 4, none),
  (⟨ct_R10, "letFall", "(LFlakeArms$Flake;I)I"⟩, prog_12_method_9_code, 7, (some FieldType.int)),
  (⟨ct_R11, "<init>", "()V"⟩, prog_1_method_1_code, 1, none),
  (⟨ct_R11, "feed", "(JI)I"⟩, prog_1_method_2_code, 5, (some FieldType.int)),
  (⟨ct_R11, "law", "()I"⟩, prog_1_method_3_code, 2, (some FieldType.int)),
  (⟨ct_R11, "begin", "(I)I"⟩, prog_1_method_4_code, 4, (some FieldType.int)),
  (⟨ct_R11, "cell", "(III)I"⟩, prog_1_method_5_code, 6, (some FieldType.int)),
  (⟨ct_R11, "freeze", "(IIIZ)I"⟩, prog_1_method_6_code, 7, (some FieldType.int)),
  (⟨ct_R11, "size", "(II)I"⟩, prog_1_method_7_code, 4, (some FieldType.int)),
  (⟨ct_R11, "arm", "(II)I"⟩, prog_1_method_8_code, 4, (some FieldType.int)),
  (⟨ct_R11, "layer", "(II)I"⟩, prog_1_method_9_code, 4, (some FieldType.int)),
  (⟨ct_R11, "unlike", "(IIZ)I"⟩, prog_1_method_10_code, 5, (some FieldType.int)),
  (⟨ct_R11, "apart", "(II)I"⟩, prog_1_method_11_code, 7, (some FieldType.int)),
  (⟨ct_R11, "copy", "(II)I"⟩, prog_1_method_12_code, 5, (some FieldType.int)),
  (⟨ct_R11, "meet", "(III)I"⟩, prog_1_method_13_code, 6, (some FieldType.int)),
  (⟨ct_R11, "breaks", "(II)I"⟩, prog_1_method_14_code, 4, (some FieldType.int)),
  (⟨ct_R11, "growth", "(II)I"⟩, prog_1_method_15_code, 4, (some FieldType.int)),
  (⟨ct_R11, "growthOf", "(II)I"⟩, prog_1_method_16_code, 4, (some FieldType.int)),
  (⟨ct_R11, "wouldBe", "(II)I"⟩, prog_1_method_17_code, 5, (some FieldType.int)),
  (⟨ct_R11, "grow", "(II)I"⟩, prog_1_method_18_code, 5, (some FieldType.int)),
  (⟨ct_R11, "miss", "(I)I"⟩, prog_1_method_19_code, 3, (some FieldType.int)),
  (⟨ct_R11, "seed", "(I)I"⟩, prog_1_method_20_code, 3, (some FieldType.int)),
  (⟨ct_R11, "air", "(III)I"⟩, prog_1_method_21_code, 4, (some FieldType.int)),
  (⟨ct_R11, "airOf", "(II)I"⟩, prog_1_method_22_code, 3, (some FieldType.int)),
  (⟨ct_R11, "picks", "(III)I"⟩, prog_1_method_23_code, 5, (some FieldType.int)),
  (⟨ct_R11, "picked", "(I)I"⟩, prog_1_method_24_code, 3, (some FieldType.int)),
  (⟨ct_R11, "fall", "(II)I"⟩, prog_1_method_25_code, 4, (some FieldType.int)),
  (⟨ct_R11, "odds", "(III)J"⟩, prog_1_method_26_code, 6, (some FieldType.long)),
  (⟨ct_R11, "found", "(II)I"⟩, prog_1_method_27_code, 12, (some FieldType.int)),
  (⟨ct_R11, "forms", "(I)I"⟩, prog_1_method_28_code, 6, (some FieldType.int)),
  (⟨ct_R11, "prove", "(I)I"⟩, prog_1_method_29_code, 5, (some FieldType.int)),
  (⟨ct_R11, "row", "(II)I"⟩, prog_1_method_30_code, 3, (some FieldType.int)),
  (⟨ct_R11, "alterRow", "(III)I"⟩, prog_1_method_31_code, 5, (some FieldType.int)),
  (⟨ct_R11, "judge", "(I)I"⟩, prog_1_method_32_code, 6, (some FieldType.int)),
  (⟨ct_R11, "copies", "(II)I"⟩, prog_1_method_33_code, 4, (some FieldType.int)),
  (⟨ct_R11, "sheet", "(III)I"⟩, prog_1_method_34_code, 5, (some FieldType.int)),
  (⟨ct_R11, "put", "(III)I"⟩, prog_1_method_35_code, 4, (some FieldType.int)),
  (⟨ct_R11, "item", "(III)I"⟩, prog_1_method_36_code, 4, (some FieldType.int)),
  (⟨ct_R11, "shelf", "(III)I"⟩, prog_1_method_37_code, 4, (some FieldType.int)),
  (⟨ct_R11, "taken", "(II)I"⟩, prog_1_method_38_code, 6, (some FieldType.int)),
  (⟨ct_R11, "act", "(III)I"⟩, prog_1_method_39_code, 6, (some FieldType.int)),
  (⟨ct_R11, "trace", "(I)I"⟩, prog_1_method_40_code, 2, (some FieldType.int)),
  (⟨ct_R11, "many", "(I)I"⟩, prog_1_method_41_code, 2, (some FieldType.int)),
  (⟨ct_R11, "keep", "()I"⟩, prog_1_method_42_code, 1, (some FieldType.int))]
def mt_l3 : List (MethodName × ByteArray × Nat × Option FieldType) := [
  (⟨ct_R11, "again", "()I"⟩, prog_1_method_43_code, 1, (some FieldType.int)),
  (⟨ct_R11, "flakeAt", "(I)LFlakeArms$Flake;"⟩, prog_1_method_44_code, 2, (some (FieldType.object "FlakeArms$Flake"))),
  (⟨ct_R11, "isTurn", "(I)Z"⟩, prog_1_method_45_code, 1, (some FieldType.boolean)),
  (⟨ct_R11, "isAir", "(II)Z"⟩, prog_1_method_46_code, 2, (some FieldType.boolean)),
  (⟨ct_R11, "isSheet", "(I)Z"⟩, prog_1_method_47_code, 1, (some FieldType.boolean)),
  (⟨ct_R11, "isShelf", "(I)Z"⟩, prog_1_method_48_code, 1, (some FieldType.boolean)),
  (⟨ct_R11, "isInRows", "(II)Z"⟩, prog_1_method_49_code, 3, (some FieldType.boolean)),
  (⟨ct_R11, "narrowed", "(II)I"⟩, prog_1_method_50_code, 2, (some FieldType.int)),
  (⟨ct_R11, "growthOn", "(I)LFlakeArms$Growth;"⟩, prog_1_method_51_code, 2, (some (FieldType.object "FlakeArms$Growth"))),
  (⟨ct_R11, "oddsOfAlike", "(LFlakeArms$Flake;LFlakeArms$Growth;I)J"⟩, prog_1_method_52_code, 16, (some FieldType.long)),
  (⟨ct_R11, "alikeChances", "(II)J"⟩, prog_1_method_53_code, 5, (some FieldType.long)),
  (⟨ct_R11, "power", "(JI)J"⟩, prog_1_method_54_code, 6, (some FieldType.long)),
  (⟨ct_R11, "startWays", "()V"⟩, prog_1_method_55_code, 1, none),
  (⟨ct_R11, "goOn", "(I)V"⟩, prog_1_method_56_code, 5, none),
  (⟨ct_R11, "minutesOfWay", "(I)I"⟩, prog_1_method_57_code, 4, (some FieldType.int)),
  (⟨ct_R11, "growthsOfWay", "(I)I"⟩, prog_1_method_58_code, 5, (some FieldType.int)),
  (⟨ct_R11, "differentWays", "(II)I"⟩, prog_1_method_59_code, 7, (some FieldType.int)),
  (⟨ct_R12, "<init>", "()V"⟩, prog_14_method_1_code, 6, none),
  (⟨ct_R12, "in", "(III)Z"⟩, prog_14_method_2_code, 3, (some FieldType.boolean)),
  (⟨ct_R12, "unsigned", "(I)I"⟩, prog_14_method_3_code, 1, (some FieldType.int)),
  (⟨ct_R12, "ring", "(II)I"⟩, prog_14_method_4_code, 3, (some FieldType.int)),
  (⟨ct_R12, "isCell", "(II)Z"⟩, prog_14_method_5_code, 2, (some FieldType.boolean)),
  (⟨ct_R12, "qStep", "(I)I"⟩, prog_14_method_6_code, 1, (some FieldType.int)),
  (⟨ct_R12, "rStep", "(I)I"⟩, prog_14_method_7_code, 1, (some FieldType.int)),
  (⟨ct_R12, "numberOf", "(II)I"⟩, prog_14_method_8_code, 4, (some FieldType.int)),
  (⟨ct_R12, "beginAt", "(I)V"⟩, prog_14_method_9_code, 3, none),
  (⟨ct_R12, "isFlake", "(I)Z"⟩, prog_14_method_10_code, 1, (some FieldType.boolean)),
  (⟨ct_R12, "isSide", "(I)Z"⟩, prog_14_method_11_code, 1, (some FieldType.boolean)),
  (⟨ct_R12, "has", "(II)Z"⟩, prog_14_method_12_code, 3, (some FieldType.boolean)),
  (⟨ct_R12, "sizeAt", "(I)I"⟩, prog_14_method_13_code, 4, (some FieldType.int)),
  (⟨ct_R12, "feed", "(JI)I"⟩, prog_14_method_14_code, 5, (some FieldType.int)),
  (⟨ct_R12, "byteAt", "(I)I"⟩, prog_14_method_15_code, 2, (some FieldType.int)),
  (⟨ct_R12, "isLetter", "(I)Z"⟩, prog_14_method_16_code, 1, (some FieldType.boolean)),
  (⟨ct_R12, "isDigit", "(I)Z"⟩, prog_14_method_17_code, 1, (some FieldType.boolean)),
  (⟨ct_R12, "advance", "()V"⟩, prog_14_method_18_code, 2, none),
  (⟨ct_R12, "isWord", "(J)Z"⟩, prog_14_method_19_code, 3, (some FieldType.boolean)),
  (⟨ct_R12, "isMark", "(I)Z"⟩, prog_14_method_20_code, 2, (some FieldType.boolean)),
  (⟨ct_R12, "factHere", "()I"⟩, prog_14_method_21_code, 1, (some FieldType.int)),
  (⟨ct_R12, "emit", "(I)V"⟩, prog_14_method_22_code, 2, none),
  (⟨ct_R12, "pend", "(I)V"⟩, prog_14_method_23_code, 2, none),
  (⟨ct_R12, "isTop", "(I)Z"⟩, prog_14_method_24_code, 2, (some FieldType.boolean)),
  (⟨ct_R12, "settle", "(I)V"⟩, prog_14_method_25_code, 2, none),
  (⟨ct_R12, "wantValue", "()V"⟩, prog_14_method_26_code, 2, none),
  (⟨ct_R12, "wantCompared", "()V"⟩, prog_14_method_27_code, 2, none),
  (⟨ct_R12, "wantCond", "(JJJ)V"⟩, prog_14_method_28_code, 10, none),
  (⟨ct_R12, "isSo", "([III)Z"⟩, prog_14_method_29_code, 9, (some FieldType.boolean)),
  (⟨ct_R12, "wantClause", "(I)V"⟩, prog_14_method_30_code, 5, none),
  (⟨ct_R12, "law", "()I"⟩, prog_14_method_31_code, 3, (some FieldType.int))]
def mt_l4 : List (MethodName × ByteArray × Nat × Option FieldType) := [
  (⟨ct_R12, "begin", "(I)I"⟩, prog_14_method_32_code, 3, (some FieldType.int)),
  (⟨ct_R12, "cell", "(III)I"⟩, prog_14_method_33_code, 5, (some FieldType.int)),
  (⟨ct_R12, "freeze", "(IIIZ)I"⟩, prog_14_method_34_code, 6, (some FieldType.int)),
  (⟨ct_R12, "spanAt", "(I)I"⟩, prog_14_method_35_code, 4, (some FieldType.int)),
  (⟨ct_R12, "edgeAt", "(I)I"⟩, prog_14_method_36_code, 6, (some FieldType.int)),
  (⟨ct_R12, "holesAt", "(I)I"⟩, prog_14_method_37_code, 6, (some FieldType.int)),
  (⟨ct_R12, "size", "(II)I"⟩, prog_14_method_38_code, 4, (some FieldType.int)),
  (⟨ct_R12, "armOf", "(II)I"⟩, prog_14_method_39_code, 5, (some FieldType.int)),
  (⟨ct_R12, "arm", "(II)I"⟩, prog_14_method_40_code, 3, (some FieldType.int)),
  (⟨ct_R12, "layer", "(II)I"⟩, prog_14_method_41_code, 5, (some FieldType.int)),
  (⟨ct_R12, "comesTo", "(IIZ)I"⟩, prog_14_method_42_code, 6, (some FieldType.int)),
  (⟨ct_R12, "unlikeBy", "(IIIZ)I"⟩, prog_14_method_43_code, 7, (some FieldType.int)),
  (⟨ct_R12, "unlike", "(IIZ)I"⟩, prog_14_method_44_code, 4, (some FieldType.int)),
  (⟨ct_R12, "apart", "(II)I"⟩, prog_14_method_45_code, 7, (some FieldType.int)),
  (⟨ct_R12, "copyRow", "(II)V"⟩, prog_14_method_46_code, 4, none),
  (⟨ct_R12, "copy", "(II)I"⟩, prog_14_method_47_code, 3, (some FieldType.int)),
  (⟨ct_R12, "meet", "(III)I"⟩, prog_14_method_48_code, 7, (some FieldType.int)),
  (⟨ct_R12, "breaks", "(II)I"⟩, prog_14_method_49_code, 6, (some FieldType.int)),
  (⟨ct_R12, "isGrowth", "(I)Z"⟩, prog_14_method_50_code, 2, (some FieldType.boolean)),
  (⟨ct_R12, "growth", "(II)I"⟩, prog_14_method_51_code, 3, (some FieldType.int)),
  (⟨ct_R12, "growthOf", "(II)I"⟩, prog_14_method_52_code, 3, (some FieldType.int)),
  (⟨ct_R12, "isBit", "(II)Z"⟩, prog_14_method_53_code, 3, (some FieldType.boolean)),
  (⟨ct_R12, "freezes", "(III)Z"⟩, prog_14_method_54_code, 9, (some FieldType.boolean)),
  (⟨ct_R12, "findWould", "(II)I"⟩, prog_14_method_55_code, 5, (some FieldType.int)),
  (⟨ct_R12, "wouldBe", "(II)I"⟩, prog_14_method_56_code, 3, (some FieldType.int)),
  (⟨ct_R12, "growIt", "(II)I"⟩, prog_14_method_57_code, 6, (some FieldType.int)),
  (⟨ct_R12, "grow", "(II)I"⟩, prog_14_method_58_code, 3, (some FieldType.int)),
  (⟨ct_R12, "miss", "(I)I"⟩, prog_14_method_59_code, 3, (some FieldType.int)),
  (⟨ct_R12, "seed", "(I)I"⟩, prog_14_method_60_code, 3, (some FieldType.int)),
  (⟨ct_R12, "air", "(III)I"⟩, prog_14_method_61_code, 4, (some FieldType.int)),
  (⟨ct_R12, "airOf", "(II)I"⟩, prog_14_method_62_code, 3, (some FieldType.int)),
  (⟨ct_R12, "findFacts", "(III)V"⟩, prog_14_method_63_code, 4, none),
  (⟨ct_R12, "growthIn", "(III)I"⟩, prog_14_method_64_code, 6, (some FieldType.int)),
  (⟨ct_R12, "picks", "(III)I"⟩, prog_14_method_65_code, 4, (some FieldType.int)),
  (⟨ct_R12, "picked", "(I)I"⟩, prog_14_method_66_code, 4, (some FieldType.int)),
  (⟨ct_R12, "fall", "(II)I"⟩, prog_14_method_67_code, 8, (some FieldType.int)),
  (⟨ct_R12, "lowest", "(JJ)V"⟩, prog_14_method_68_code, 11, none),
  (⟨ct_R12, "power", "(JI)J"⟩, prog_14_method_69_code, 6, (some FieldType.long)),
  (⟨ct_R12, "alikeOf", "(II)J"⟩, prog_14_method_70_code, 8, (some FieldType.long)),
  (⟨ct_R12, "odds", "(III)J"⟩, prog_14_method_71_code, 13, (some FieldType.long)),
  (⟨ct_R12, "lent", "(I)I"⟩, prog_14_method_72_code, 1, (some FieldType.int)),
  (⟨ct_R12, "lentMinute", "(II)V"⟩, prog_14_method_73_code, 6, none),
  (⟨ct_R12, "lentAll", "(II)V"⟩, prog_14_method_74_code, 6, none),
  (⟨ct_R12, "codesOf", "(I)I"⟩, prog_14_method_75_code, 1, (some FieldType.int)),
  (⟨ct_R12, "areGrowths", "(II)Z"⟩, prog_14_method_76_code, 5, (some FieldType.boolean)),
  (⟨ct_R12, "isLike", "(II)Z"⟩, prog_14_method_77_code, 4, (some FieldType.boolean)),
  (⟨ct_R12, "told", "(II)I"⟩, prog_14_method_78_code, 5, (some FieldType.int)),
  (⟨ct_R12, "found", "(II)I"⟩, prog_14_method_79_code, 5, (some FieldType.int))]
def mt_l5 : List (MethodName × ByteArray × Nat × Option FieldType) := [
  (⟨ct_R12, "forms", "(I)I"⟩, prog_14_method_80_code, 10, (some FieldType.int)),
  (⟨ct_R12, "findRows", "(I)V"⟩, prog_14_method_81_code, 5, none),
  (⟨ct_R12, "prove", "(I)I"⟩, prog_14_method_82_code, 3, (some FieldType.int)),
  (⟨ct_R12, "isRow", "(II)Z"⟩, prog_14_method_83_code, 3, (some FieldType.boolean)),
  (⟨ct_R12, "row", "(II)I"⟩, prog_14_method_84_code, 3, (some FieldType.int)),
  (⟨ct_R12, "alterRow", "(III)I"⟩, prog_14_method_85_code, 5, (some FieldType.int)),
  (⟨ct_R12, "judge", "(I)I"⟩, prog_14_method_86_code, 3, (some FieldType.int)),
  (⟨ct_R12, "copies", "(II)I"⟩, prog_14_method_87_code, 7, (some FieldType.int)),
  (⟨ct_R12, "isShelf", "(I)Z"⟩, prog_14_method_88_code, 1, (some FieldType.boolean)),
  (⟨ct_R12, "sheet", "(III)I"⟩, prog_14_method_89_code, 5, (some FieldType.int)),
  (⟨ct_R12, "put", "(III)I"⟩, prog_14_method_90_code, 4, (some FieldType.int)),
  (⟨ct_R12, "lacksSort", "(II)I"⟩, prog_14_method_91_code, 3, (some FieldType.int)),
  (⟨ct_R12, "item", "(III)I"⟩, prog_14_method_92_code, 5, (some FieldType.int)),
  (⟨ct_R12, "isHeld", "(II)Z"⟩, prog_14_method_93_code, 3, (some FieldType.boolean)),
  (⟨ct_R12, "shelf", "(III)I"⟩, prog_14_method_94_code, 4, (some FieldType.int)),
  (⟨ct_R12, "kindOn", "(I)I"⟩, prog_14_method_95_code, 2, (some FieldType.int)),
  (⟨ct_R12, "isUnder", "(II)Z"⟩, prog_14_method_96_code, 2, (some FieldType.boolean)),
  (⟨ct_R12, "taken", "(II)I"⟩, prog_14_method_97_code, 4, (some FieldType.int)),
  (⟨ct_R12, "ran", "(I)V"⟩, prog_14_method_98_code, 2, none),
  (⟨ct_R12, "plainGrows", "(I)I"⟩, prog_14_method_99_code, 2, (some FieldType.int)),
  (⟨ct_R12, "armedGrows", "(I)I"⟩, prog_14_method_100_code, 2, (some FieldType.int)),
  (⟨ct_R12, "growsIt", "(I)I"⟩, prog_14_method_101_code, 2, (some FieldType.int)),
  (⟨ct_R12, "plainTakes", "(I)I"⟩, prog_14_method_102_code, 2, (some FieldType.int)),
  (⟨ct_R12, "platedTakes", "(I)I"⟩, prog_14_method_103_code, 2, (some FieldType.int)),
  (⟨ct_R12, "takesIt", "(I)I"⟩, prog_14_method_104_code, 3, (some FieldType.int)),
  (⟨ct_R12, "plainShares", "(I)I"⟩, prog_14_method_105_code, 2, (some FieldType.int)),
  (⟨ct_R12, "sharesIt", "(I)I"⟩, prog_14_method_106_code, 3, (some FieldType.int)),
  (⟨ct_R12, "plainTells", "(I)I"⟩, prog_14_method_107_code, 2, (some FieldType.int)),
  (⟨ct_R12, "tellsIt", "(I)I"⟩, prog_14_method_108_code, 3, (some FieldType.int)),
  (⟨ct_R12, "act", "(III)I"⟩, prog_14_method_109_code, 6, (some FieldType.int)),
  (⟨ct_R12, "trace", "(I)I"⟩, prog_14_method_110_code, 2, (some FieldType.int)),
  (⟨ct_R12, "many", "(I)I"⟩, prog_14_method_111_code, 2, (some FieldType.int)),
  (⟨ct_R12, "move", "([IIZ)V"⟩, prog_14_method_112_code, 5, none),
  (⟨ct_R12, "moveAll", "(Z)V"⟩, prog_14_method_113_code, 2, none),
  (⟨ct_R12, "keep", "()I"⟩, prog_14_method_114_code, 1, (some FieldType.int)),
  (⟨ct_R12, "again", "()I"⟩, prog_14_method_115_code, 1, (some FieldType.int)),
  (⟨ct_R5, "readCond", "(I)Z"⟩, prog_7_method_15_code, 4, (some FieldType.boolean)),
  (⟨ct_R5, "readAll", "(I)Z"⟩, prog_7_method_16_code, 4, (some FieldType.boolean)),
  (⟨ct_R5, "readOne", "(I)Z"⟩, prog_7_method_17_code, 4, (some FieldType.boolean)),
  (⟨ct_R5, "readCond", "(I)Z"⟩, prog_7_method_15_code, 4, (some FieldType.boolean)),
  (⟨ct_R5, "readAll", "(I)Z"⟩, prog_7_method_16_code, 4, (some FieldType.boolean)),
  (⟨ct_R5, "readOne", "(I)Z"⟩, prog_7_method_17_code, 4, (some FieldType.boolean)),
  (⟨ct_R5, "readCond", "(I)Z"⟩, prog_7_method_15_code, 4, (some FieldType.boolean)),
  (⟨ct_R5, "readAll", "(I)Z"⟩, prog_7_method_16_code, 4, (some FieldType.boolean)),
  (⟨ct_R5, "readOne", "(I)Z"⟩, prog_7_method_17_code, 4, (some FieldType.boolean))]
def mt_l6 : List (MethodName × ByteArray × Nat × Option FieldType) := [
  (x, code, maxLocals, ret)]
/-- the JDK's own methods on texts, 286 to 292 -/
def mt_l7 : List (MethodName × ByteArray × Nat × Option FieldType) := [
  (⟨"java/lang/String", "length", "()I"⟩, prog_16_method_54_code, 1, (some FieldType.int)),
  (⟨"java/lang/String", "coder", "()B"⟩, prog_16_method_152_code, 1, (some FieldType.byte)),
  (⟨"java/lang/String", "charAt", "(I)C"⟩, prog_16_method_56_code, 2, (some FieldType.char)),
  (⟨"java/lang/String", "isLatin1", "()Z"⟩, prog_16_method_154_code, 1, (some FieldType.boolean)),
  (⟨"java/lang/StringLatin1", "charAt", "([BI)C"⟩, prog_17_method_2_code, 2, (some FieldType.char)),
  (⟨"java/lang/String", "checkIndex", "(II)V"⟩, prog_16_method_155_code, 2, none),
  (⟨"jdk/internal/util/Preconditions", "checkIndex", "(IILjava/util/function/BiFunction;)I"⟩, prog_20_method_11_code, 3, (some FieldType.int))]
def mt_l : List (MethodName × ByteArray × Nat × Option FieldType) := mt_l0 ++ (mt_l1 ++ (mt_l2 ++ (mt_l3 ++ (mt_l4 ++ (mt_l5 ++ (mt_l6 ++ (mt_l7)))))))
def mt_0 : MethodName × ByteArray × Nat × Option FieldType := (x, code, maxLocals, ret)
def mt_y (m : Nat) : MethodName := (mt_l.getD m mt_0).1
def mt_b (m : Nat) : ByteArray := (mt_l.getD m mt_0).2.1
def mt_n (m : Nat) : Nat := (mt_l.getD m mt_0).2.2.1
def mt_r (m : Nat) : Option FieldType := (mt_l.getD m mt_0).2.2.2
/-- how deep calls may go below it -/
def mt_vl : List Nat := [6, 4, 4, 12, 4, 4, 16, 4, 4, 2, 2, 2, 4, 2, 4, 4, 2, 2, 2, 2, 4, 4, 4, 4, 6, 6, 6, 4, 8, 6, 4, 6, 2, 6, 6, 4, 4, 4, 2, 10, 2, 6, 8, 8, 4, 2, 2, 2, 8, 2, 14, 2, 2, 2, 2, 2, 2, 8, 8, 6, 4, 2, 2, 32, 18, 2, 16, 2, 14, 14, 12, 2, 2, 2, 2, 30, 28, 26, 24, 4, 4, 4, 4, 16, 4, 4, 10, 8, 4, 4, 6, 2, 2, 6, 4, 2, 10, 2, 10, 10, 8, 12, 8, 2, 34, 6, 4, 4, 10, 6, 6, 8, 8, 6, 8, 8, 12, 4, 10, 12, 2, 2, 4, 2, 12, 12, 14, 10, 12, 12, 8, 4, 4, 8, 6, 4, 4, 4, 4, 6, 18, 2, 2, 6, 6, 2, 2, 2, 2, 2, 2, 2, 4, 8, 4, 2, 6, 10, 2, 2, 2, 8, 2, 2, 4, 4, 2, 2, 6, 2, 4, 4, 2, 4, 4, 2, 4, 4, 6, 2, 2, 4, 2, 2, 2, 4, 8, 10, 12, 2, 14, 16, 6, 8, 8, 4, 4, 4, 6, 8, 10, 6, 2, 4, 6, 6, 2, 6, 6, 10, 4, 4, 6, 2, 4, 6, 8, 8, 10, 4, 2, 4, 6, 6, 8, 10, 8, 10, 2, 2, 4, 8, 2, 6, 8, 2, 2, 4, 2, 10, 10, 4, 6, 6, 8, 8, 6, 6, 4, 6, 6, 2, 6, 6, 8, 6, 2, 8, 2, 4, 6, 8, 10, 12, 14, 4, 10, 16, 18, 20, 4, 2, 2, 4, 6, 6, 22, 20, 18, 16, 14, 12, 10, 8, 6, 36, 4, 2, 8, 2, 6, 4, 2]
def mt_v (m : Nat) : Nat := mt_vl.getD m 0
/-- cells and slots that it may make -/
def mt_cl : List (Nat × Nat × Nat) := [(8, 2, 338), (39, 6, 24), (51, 3, 216), (62, 4, 803), (91, 1, 30), (93, 22, 1740), (102, 79, 5821), (116, 6, 24), (161, 34, 4493)]
def mt_c (m : Nat) : Nat × Nat := match mt_cl.find? (fun q => q.1 == m) with
  | some q => q.2
  | none => (0, 0)
def mt_p0 : List Nat := [723, 810, 1087, 1108, 745, 821, 1148, 1127, 207, 217, 211, 214, 556, 559, 617, 530, 631, 221, 540, 526, 803, 799, 521, 603, 1005, 553, 567, 573, 578, 583, 592, 648, 595, 614, 640, 1032, 959, 979, 664, 656, 1072, 792, 781, 989, 842, 818, 814, 1101]
def mt_p1 : List Nat := [1118, 1140, 1159, 149, 457, 508, 492, 496, 500, 896, 918, 900, 903, 906, 119, 356, 369, 373, 377, 453, 443, 381, 386, 461, 504, 469, 473, 465, 477, 481, 485, 489, 712, 826, 1094, 1152, 661, 831, 1111, 734, 836, 1136, 1099, 174, 1080, 239, 1176, 767]
def mt_p2 : List Nat := [851, 856, 885, 914, 889, 926, 111, 348, 352, 513, 534, 544, 549, 587, 599, 607, 621, 627, 636, 644, 653, 763, 771, 847, 862, 866, 870, 877, 881, 910, 922, 933, 955, 993, 1001, 1009, 1017, 1021, 1025, 1036, 1040, 1047, 1051, 1058, 1076, 1164, 1168, 1172]
def mt_p3 : List Nat := [1183, 517, 610, 873, 1028, 1054, 1013, 1043, 1062, 939, 947, 950, 963, 975, 967, 971, 997, 1188, 1195, 1201, 1198, 1192, 1208, 1211, 1205, 1215, 1487, 1578, 1495, 1491, 1398, 1411, 1414, 1417, 1407, 1429, 1447, 1460, 1470, 1443, 1478, 1474, 1456, 1452, 1438, 1635, 1424, 1403]
def mt_p4 : List Nat := [1484, 1499, 1503, 1511, 1515, 1519, 1507, 1527, 1523, 1531, 1543, 1539, 1535, 1547, 1555, 1551, 1559, 1563, 1575, 1567, 1571, 1594, 1590, 1586, 1582, 1602, 1598, 1607, 1611, 1615, 1619, 1631, 1627, 1623, 1639, 1643, 1660, 1656, 1653, 1647, 1678, 1682, 1675, 1667, 1671, 1686, 1689, 1664]
def mt_p5 : List Nat := [1693, 1701, 1697, 1709, 1705, 1713, 1717, 1721, 1724, 1732, 1736, 1728, 1740, 1748, 1744, 1756, 1759, 1752, 1771, 1775, 1779, 1767, 1791, 1787, 1783, 1799, 1795, 1807, 1803, 1763, 1811, 1815, 1827, 1823, 1819, 1831, 477, 481, 485, 477, 481, 485, 477, 481, 485]
def mt_pl : List Nat := mt_p0 ++ (mt_p1 ++ (mt_p2 ++ (mt_p3 ++ (mt_p4 ++ (mt_p5)))))
set_option maxRecDepth 100000 in
set_option maxHeartbeats 4000000 in
theorem mt_q0 : mt_p0.map (fun p => lw_tbl[p]?) = mt_l0.map (fun q => some (Cond.code q.1 q.2.1 q.2.2.1 q.2.2.2)) := by rfl
set_option maxRecDepth 100000 in
set_option maxHeartbeats 4000000 in
theorem mt_q1 : mt_p1.map (fun p => lw_tbl[p]?) = mt_l1.map (fun q => some (Cond.code q.1 q.2.1 q.2.2.1 q.2.2.2)) := by rfl
set_option maxRecDepth 100000 in
set_option maxHeartbeats 4000000 in
theorem mt_q2 : mt_p2.map (fun p => lw_tbl[p]?) = mt_l2.map (fun q => some (Cond.code q.1 q.2.1 q.2.2.1 q.2.2.2)) := by rfl
set_option maxRecDepth 100000 in
set_option maxHeartbeats 4000000 in
theorem mt_q3 : mt_p3.map (fun p => lw_tbl[p]?) = mt_l3.map (fun q => some (Cond.code q.1 q.2.1 q.2.2.1 q.2.2.2)) := by rfl
set_option maxRecDepth 100000 in
set_option maxHeartbeats 4000000 in
theorem mt_q4 : mt_p4.map (fun p => lw_tbl[p]?) = mt_l4.map (fun q => some (Cond.code q.1 q.2.1 q.2.2.1 q.2.2.2)) := by rfl
set_option maxRecDepth 100000 in
set_option maxHeartbeats 4000000 in
theorem mt_q5 : mt_p5.map (fun p => lw_tbl[p]?) = mt_l5.map (fun q => some (Cond.code q.1 q.2.1 q.2.2.1 q.2.2.2)) := by rfl
theorem mt_code (m : Nat) (hm : m < 285) : Cond.code (mt_y m) (mt_b m) (mt_n m) (mt_r m) ∈ lw_ok := by
  have e : mt_pl.map (fun p => lw_tbl[p]?) = (mt_l0 ++ (mt_l1 ++ (mt_l2 ++ (mt_l3 ++ (mt_l4 ++ (mt_l5)))))).map (fun q => some (Cond.code q.1 q.2.1 q.2.2.1 q.2.2.2)) := by
    simp only [mt_pl, List.map_append, mt_q0, mt_q1, mt_q2, mt_q3, mt_q4, mt_q5]
  have hl : mt_l = (mt_l0 ++ (mt_l1 ++ (mt_l2 ++ (mt_l3 ++ (mt_l4 ++ (mt_l5)))))) ++ (mt_l6 ++ mt_l7) := by simp only [mt_l, List.append_assoc]
  have hn : (mt_l0 ++ (mt_l1 ++ (mt_l2 ++ (mt_l3 ++ (mt_l4 ++ (mt_l5)))))).length = 285 := by decide +kernel
  have h2 : mt_l[m]? = (mt_l0 ++ (mt_l1 ++ (mt_l2 ++ (mt_l3 ++ (mt_l4 ++ (mt_l5))))))[m]? := by rw [hl, List.getElem?_append_left (by rw [hn]; exact hm)]
  obtain ⟨q, hq⟩ : ∃ q, (mt_l0 ++ (mt_l1 ++ (mt_l2 ++ (mt_l3 ++ (mt_l4 ++ (mt_l5))))))[m]? = some q := ⟨_, List.getElem?_eq_getElem (by rw [hn]; exact hm)⟩
  have h3 : mt_l.getD m mt_0 = q := by rw [List.getD_eq_getElem?_getD, h2, hq]; rfl
  have h4 : (mt_pl.map (fun p => lw_tbl[p]?))[m]? = some (some (Cond.code q.1 q.2.1 q.2.2.1 q.2.2.2)) := by rw [e, List.getElem?_map, hq]; rfl
  rw [List.getElem?_map] at h4
  cases h5 : mt_pl[m]? with
  | none => rw [h5] at h4; cases h4
  | some p =>
    rw [h5] at h4
    have h6 : lw_tbl[p]? = some (Cond.code q.1 q.2.1 q.2.2.1 q.2.2.2) := Option.some.inj h4
    unfold mt_y mt_b mt_n mt_r
    rw [h3]
    exact lw_in (List.mem_of_getElem? h6) rfl
theorem mt_init : ∀ m, m < 285 → Cond.initialized (mt_y m).cls ∈ lw_ok := by decide +kernel
theorem mt_plain : ∀ m, m < 293 → (mt_y m).cls ≠ "java/lang/invoke/MethodHandle" ∧ (mt_y m).cls ≠ "java/lang/invoke/VarHandle" ∧ plainName (mt_y m).cls = true ∧ mt_n m ≤ 20 := by decide +kernel
/-- a method that may be called -/
def mt_in (m : Nat) : Prop := m < 285 ∨ (285 < m ∧ m < 293)
theorem mt_lt {m : Nat} (h : mt_in m) : m < 293 := by
  rcases h with h | h <;> omega
set_option maxRecDepth 100000 in
theorem mt_qJ : [390, 394, 400, 404, 407, 410, 415].map (fun p => lw_tbl[p]?) = mt_l7.map (fun q => some (Cond.code q.1 q.2.1 q.2.2.1 q.2.2.2)) := by rfl
set_option maxRecDepth 100000 in
theorem mt_codeJ : ∀ j, j < 7 → Cond.code (mt_y (286 + j)) (mt_b (286 + j)) (mt_n (286 + j)) (mt_r (286 + j)) ∈ lw_ok
  | 0, _ => lw_in (List.mem_of_getElem? (i := 390) (Option.some.inj (congrArg (fun l => l[0]?) mt_qJ))) rfl
  | 1, _ => lw_in (List.mem_of_getElem? (i := 394) (Option.some.inj (congrArg (fun l => l[1]?) mt_qJ))) rfl
  | 2, _ => lw_in (List.mem_of_getElem? (i := 400) (Option.some.inj (congrArg (fun l => l[2]?) mt_qJ))) rfl
  | 3, _ => lw_in (List.mem_of_getElem? (i := 404) (Option.some.inj (congrArg (fun l => l[3]?) mt_qJ))) rfl
  | 4, _ => lw_in (List.mem_of_getElem? (i := 407) (Option.some.inj (congrArg (fun l => l[4]?) mt_qJ))) rfl
  | 5, _ => lw_in (List.mem_of_getElem? (i := 410) (Option.some.inj (congrArg (fun l => l[5]?) mt_qJ))) rfl
  | 6, _ => lw_in (List.mem_of_getElem? (i := 415) (Option.some.inj (congrArg (fun l => l[6]?) mt_qJ))) rfl
  | n + 7, h => absurd h (by omega)
theorem mt_initJ : ∀ j, j < 7 → Cond.initialized (mt_y (286 + j)).cls ∈ lw_ok := by decide +kernel
theorem mt_code2 {m : Nat} (h : mt_in m) : Cond.code (mt_y m) (mt_b m) (mt_n m) (mt_r m) ∈ lw_ok := by
  rcases h with h | h
  · exact mt_code m h
  · obtain ⟨j, rfl⟩ : ∃ j, m = 286 + j := ⟨m - 286, by omega⟩
    exact mt_codeJ j (by omega)
theorem mt_init2 {m : Nat} (h : mt_in m) : Cond.initialized (mt_y m).cls ∈ lw_ok := by
  rcases h with h | h
  · exact mt_init m h
  · obtain ⟨j, rfl⟩ : ∃ j, m = 286 + j := ⟨m - 286, by omega⟩
    exact mt_initJ j (by omega)
