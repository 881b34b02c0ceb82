/-! Calls of the program, each by its entry. Printed by wip/p1/gen14.py. -/
/-- each method's name, code, locals, answer -/
def em_inf : List (MethodName × ByteArray × Nat × Option FieldType) := [(⟨"WarmNight$Carriage", "<init>", "()V"⟩, prog_2_method_1_code, 1, none),
  (⟨"WarmNight$Carriage", "reset", "()V"⟩, prog_2_method_2_code, 2, none),
  (⟨"WarmNight$Carriage", "become", "(LWarmNight$Carriage;)V"⟩, prog_2_method_3_code, 3, none),
  (⟨"WarmNight$Carriage", "tellNumber", "(II)I"⟩, prog_2_method_4_code, 3, some .int),
  (⟨"WarmNight$Carriage", "tellCell", "(IIII)I"⟩, prog_2_method_5_code, 5, some .int),
  (⟨"WarmNight$Carriage", "tellPass", "(II)I"⟩, prog_2_method_6_code, 3, some .int),
  (⟨"WarmNight$Carriage", "tellHung", "(IZ)I"⟩, prog_2_method_7_code, 3, some .int),
  (⟨"WarmNight$Carriage", "tellCold", "(III)I"⟩, prog_2_method_8_code, 6, some .int),
  (⟨"WarmNight$Carriage", "tellHelp", "(II)I"⟩, prog_2_method_9_code, 3, some .int),
  (⟨"WarmNight$Carriage", "addMan", "(IIIII)I"⟩, prog_2_method_10_code, 6, some .int),
  (⟨"WarmNight$Carriage", "tellCoat", "(IZ)I"⟩, prog_2_method_11_code, 3, some .int),
  (⟨"WarmNight$Carriage", "addBreak", "(III)I"⟩, prog_2_method_12_code, 4, some .int),
  (⟨"WarmNight$Carriage", "tellOpened", "(IZ)I"⟩, prog_2_method_13_code, 3, some .int),
  (⟨"WarmNight$Carriage", "tellPlan", "(II)I"⟩, prog_2_method_14_code, 3, some .int),
  (⟨"WarmNight$Carriage", "replace", "([III)I"⟩, prog_2_method_15_code, 5, some .int),
  (⟨"WarmNight$Carriage", "bit", "(II)Z"⟩, prog_2_method_16_code, 2, some .boolean),
  (⟨"WarmNight$Carriage", "cells", "()I"⟩, prog_2_method_17_code, 1, some .int),
  (⟨"WarmNight$Carriage", "quarters", "()I"⟩, prog_2_method_18_code, 1, some .int),
  (⟨"WarmNight$Carriage", "nearestCell", "(I)I"⟩, prog_2_method_19_code, 2, some .int),
  (⟨"WarmNight$Carriage", "hasCell", "(I)Z"⟩, prog_2_method_20_code, 2, some .boolean),
  (⟨"WarmNight$Carriage", "hasQuarter", "(I)Z"⟩, prog_2_method_21_code, 2, some .boolean),
  (⟨"WarmNight$Carriage", "hasMan", "(I)Z"⟩, prog_2_method_22_code, 2, some .boolean),
  (⟨"WarmNight$Carriage", "allSeats", "()I"⟩, prog_2_method_23_code, 3, some .int),
  (⟨"WarmNight$Carriage", "helpAgainst", "(I)I"⟩, prog_2_method_24_code, 4, some .int),
  (⟨"WarmNight$Carriage", "lossAt", "(II)I"⟩, prog_2_method_25_code, 5, some .int),
  (⟨"WarmNight$Carriage", "mixCells", "(J)J"⟩, prog_2_method_26_code, 6, some .long),
  (⟨"WarmNight$Carriage", "mixQuarters", "(J)J"⟩, prog_2_method_27_code, 6, some .long),
  (⟨"WarmNight$Carriage", "mixPeople", "(J)J"⟩, prog_2_method_28_code, 6, some .long),
  (⟨"WarmNight$Early", "<init>", "()V"⟩, prog_3_method_1_code, 1, none),
  (⟨"WarmNight$Early", "pieces", "(LWarmNight$Carriage;III)I"⟩, prog_3_method_2_code, 5, some .int),
  (⟨"WarmNight$Even", "<init>", "()V"⟩, prog_4_method_1_code, 1, none),
  (⟨"WarmNight$Even", "pieces", "(LWarmNight$Carriage;III)I"⟩, prog_4_method_2_code, 5, some .int),
  (⟨"WarmNight$Even", "seat", "(LWarmNight$Carriage;II)I"⟩, prog_4_method_3_code, 4, some .int),
  (⟨"WarmNight$Even", "isHung", "(LWarmNight$Carriage;I)Z"⟩, prog_4_method_4_code, 3, some .boolean),
  (⟨"WarmNight$Half", "<init>", "()V"⟩, prog_5_method_1_code, 1, none),
  (⟨"WarmNight$Half", "seat", "(LWarmNight$Carriage;II)I"⟩, prog_5_method_2_code, 6, some .int),
  (⟨"WarmNight$Half", "isHung", "(LWarmNight$Carriage;I)Z"⟩, prog_5_method_3_code, 3, some .boolean),
  (⟨"WarmNight$Half", "isNear", "(LWarmNight$Carriage;I)Z"⟩, prog_5_method_4_code, 2, some .boolean),
  (⟨"WarmNight$Late", "<init>", "()V"⟩, prog_6_method_1_code, 1, none),
  (⟨"WarmNight$Late", "pieces", "(LWarmNight$Carriage;III)I"⟩, prog_6_method_2_code, 5, some .int),
  (⟨"WarmNight$Night", "<init>", "(LWarmNight$Carriage;)V"⟩, prog_7_method_1_code, 2, none),
  (⟨"WarmNight$Night", "play", "(LWarmNight$Even;III)V"⟩, prog_7_method_2_code, 6, none),
  (⟨"WarmNight$Night", "prepare", "(LWarmNight$Even;II)V"⟩, prog_7_method_3_code, 5, none),
  (⟨"WarmNight$Night", "prepareQuarter", "(LWarmNight$Even;I)V"⟩, prog_7_method_4_code, 5, none),
  (⟨"WarmNight$Night", "step", "(II)V"⟩, prog_7_method_5_code, 3, none),
  (⟨"WarmNight$Night", "warm", "(II)V"⟩, prog_7_method_6_code, 7, none),
  (⟨"WarmNight$Night", "judge", "(I)V"⟩, prog_7_method_7_code, 4, none),
  (⟨"WarmNight$Night", "marginOf", "(II)I"⟩, prog_7_method_8_code, 3, some .int),
  (⟨"WarmNight$Night", "worstOfAll", "()I"⟩, prog_7_method_9_code, 1, some .int),
  (⟨"WarmNight$Night", "fallsAt", "()I"⟩, prog_7_method_10_code, 1, some .int),
  (⟨"WarmNight$Night", "firstLost", "()I"⟩, prog_7_method_11_code, 2, some .int),
  (⟨"WarmNight$Night", "unfairness", "()I"⟩, prog_7_method_12_code, 5, some .int),
  (⟨"WarmNight$Planned", "<init>", "()V"⟩, prog_8_method_1_code, 1, none),
  (⟨"WarmNight$Planned", "pieces", "(LWarmNight$Carriage;III)I"⟩, prog_8_method_2_code, 5, some .int),
  (⟨"WarmNight$Search", "<init>", "(LWarmNight$Carriage;LWarmNight$Night;)V"⟩, prog_9_method_1_code, 3, none),
  (⟨"WarmNight$Search", "find", "(LWarmNight$Even;)V"⟩, prog_9_method_2_code, 2, none),
  (⟨"WarmNight$Search", "piecesIn", "(I)I"⟩, prog_9_method_3_code, 2, some .int),
  (⟨"WarmNight$Search", "goOn", "(II)V"⟩, prog_9_method_4_code, 4, none),
  (⟨"WarmNight$Search", "leads", "(III)Z"⟩, prog_9_method_5_code, 4, some .boolean),
  (⟨"WarmNight$Sharing", "<init>", "(LWarmNight$Carriage;LWarmNight$Night;)V"⟩, prog_10_method_1_code, 3, none),
  (⟨"WarmNight$Sharing", "shareSeats", "()V"⟩, prog_10_method_2_code, 3, none),
  (⟨"WarmNight$Sharing", "greatestLeast", "()I"⟩, prog_10_method_3_code, 5, some .int),
  (⟨"WarmNight$Sharing", "firstPlace", "(I)I"⟩, prog_10_method_4_code, 4, some .int),
  (⟨"WarmNight$Sharing", "allFit", "(II)Z"⟩, prog_10_method_5_code, 6, some .boolean),
  (⟨"WarmNight$Sharing", "seatsFor", "(II)I"⟩, prog_10_method_6_code, 5, some .int),
  (⟨"WarmNight$Sharing", "weighCoats", "(LWarmNight$Even;I)V"⟩, prog_10_method_7_code, 4, none),
  (⟨"WarmNight$Sharing", "everybody", "()I"⟩, prog_10_method_8_code, 1, some .int),
  (⟨"WarmNight$Sharing", "bestCoats", "(I)I"⟩, prog_10_method_9_code, 8, some .int),
  (⟨"WarmNight$Sharing", "fewestCoats", "()I"⟩, prog_10_method_10_code, 4, some .int),
  (⟨"WarmNight$Sharing", "leastOf", "([[II)I"⟩, prog_10_method_11_code, 5, some .int),
  (⟨"WarmNight$Text", "<init>", "()V"⟩, prog_11_method_1_code, 1, none),
  (⟨"WarmNight$Text", "add", "(JI)I"⟩, prog_11_method_2_code, 5, some .int),
  (⟨"WarmNight$Text", "empty", "()I"⟩, prog_11_method_3_code, 2, some .int),
  (⟨"WarmNight$Text", "findFault", "()I"⟩, prog_11_method_4_code, 1, some .int),
  (⟨"WarmNight$Text", "readItem", "(I)Z"⟩, prog_11_method_5_code, 4, some .boolean),
  (⟨"WarmNight$Text", "readWord", "()I"⟩, prog_11_method_6_code, 3, some .int),
  (⟨"WarmNight$Text", "isWord", "(II)Z"⟩, prog_11_method_7_code, 5, some .boolean),
  (⟨"WarmNight$Text", "readNumber", "(II)Z"⟩, prog_11_method_8_code, 7, some .boolean),
  (⟨"WarmNight$Text", "skipBlanks", "()V"⟩, prog_11_method_9_code, 1, none),
  (⟨"WarmNight$Text", "isFigure", "(I)Z"⟩, prog_11_method_10_code, 2, some .boolean),
  (⟨"WarmNight$Text", "byteAt", "(I)I"⟩, prog_11_method_11_code, 2, some .int),
  (⟨"WarmNight$Text", "tellItem", "(ILWarmNight$Carriage;)I"⟩, prog_11_method_12_code, 4, some .int),
  (⟨"WarmNight$Turn", "<init>", "()V"⟩, prog_12_method_1_code, 1, none),
  (⟨"WarmNight$Turn", "seat", "(LWarmNight$Carriage;II)I"⟩, prog_12_method_2_code, 4, some .int),
  (⟨"WarmNight", "<init>", "()V"⟩, prog_1_method_1_code, 2, none),
  (⟨"WarmNight", "put", "(II)I"⟩, prog_1_method_2_code, 3, some .int),
  (⟨"WarmNight", "cell", "(IIII)I"⟩, prog_1_method_3_code, 5, some .int),
  (⟨"WarmNight", "pass", "(II)I"⟩, prog_1_method_4_code, 3, some .int),
  (⟨"WarmNight", "hang", "(IZ)I"⟩, prog_1_method_5_code, 3, some .int),
  (⟨"WarmNight", "cold", "(III)I"⟩, prog_1_method_6_code, 4, some .int),
  (⟨"WarmNight", "help", "(II)I"⟩, prog_1_method_7_code, 3, some .int),
  (⟨"WarmNight", "man", "(IIIII)I"⟩, prog_1_method_8_code, 6, some .int),
  (⟨"WarmNight", "coat", "(IZ)I"⟩, prog_1_method_9_code, 3, some .int),
  (⟨"WarmNight", "broken", "(III)I"⟩, prog_1_method_10_code, 4, some .int),
  (⟨"WarmNight", "open", "(IZ)I"⟩, prog_1_method_11_code, 3, some .int),
  (⟨"WarmNight", "plan", "(II)I"⟩, prog_1_method_12_code, 3, some .int),
  (⟨"WarmNight", "type", "(JI)I"⟩, prog_1_method_13_code, 4, some .int),
  (⟨"WarmNight", "clear", "()I"⟩, prog_1_method_14_code, 1, some .int),
  (⟨"WarmNight", "carriage", "()I"⟩, prog_1_method_15_code, 3, some .int),
  (⟨"WarmNight", "warmth", "(IIII)I"⟩, prog_1_method_16_code, 5, some .int),
  (⟨"WarmNight", "feels", "(IIII)I"⟩, prog_1_method_17_code, 5, some .int),
  (⟨"WarmNight", "fuel", "(IIII)I"⟩, prog_1_method_18_code, 5, some .int),
  (⟨"WarmNight", "worst", "(II)I"⟩, prog_1_method_19_code, 3, some .int),
  (⟨"WarmNight", "falls", "(III)I"⟩, prog_1_method_20_code, 4, some .int),
  (⟨"WarmNight", "fair", "(II)I"⟩, prog_1_method_21_code, 3, some .int),
  (⟨"WarmNight", "best", "(I)I"⟩, prog_1_method_22_code, 2, some .int),
  (⟨"WarmNight", "take", "()I"⟩, prog_1_method_23_code, 2, some .int),
  (⟨"WarmNight", "sit", "(III)I"⟩, prog_1_method_24_code, 4, some .int),
  (⟨"WarmNight", "coats", "(III)I"⟩, prog_1_method_25_code, 4, some .int),
  (⟨"WarmNight", "fewest", "(II)I"⟩, prog_1_method_26_code, 3, some .int),
  (⟨"WarmNight", "saved", "(II)I"⟩, prog_1_method_27_code, 4, some .int),
  (⟨"WarmNight", "keep", "(I)I"⟩, prog_1_method_28_code, 6, some .int),
  (⟨"WarmNight", "worth", "(III)I"⟩, prog_1_method_29_code, 5, some .int),
  (⟨"WarmNight", "when", "(II)I"⟩, prog_1_method_30_code, 7, some .int),
  (⟨"WarmNight", "part", "(I)J"⟩, prog_1_method_31_code, 2, some .long),
  (⟨"WarmNight", "image", "(I)I"⟩, prog_1_method_32_code, 2, some .int),
  (⟨"WarmNight", "from", "(I)I"⟩, prog_1_method_33_code, 2, some .int),
  (⟨"WarmNight", "count", "(I)I"⟩, prog_1_method_34_code, 2, some .int),
  (⟨"WarmNight", "digest", "()J"⟩, prog_1_method_35_code, 4, some .long),
  (⟨"WarmNight", "within", "(III)Z"⟩, prog_1_method_36_code, 3, some .boolean),
  (⟨"WarmNight", "isRule", "(II)Z"⟩, prog_1_method_37_code, 2, some .boolean),
  (⟨"WarmNight", "mixed", "(JJ)J"⟩, prog_1_method_38_code, 4, some .long),
  (⟨"WarmNight", "playAsTold", "(II)V"⟩, prog_1_method_39_code, 3, none),
  (⟨"WarmNight", "worstIfTurned", "(III)I"⟩, prog_1_method_40_code, 4, some .int),
  (⟨"WarmNight", "setFraction", "(II)V"⟩, prog_1_method_41_code, 4, none),
  (⟨"WarmNight", "commonDivisor", "(II)I"⟩, prog_1_method_42_code, 6, some .int),
  (⟨"WarmNightModel", "in", "(JJJ)Z"⟩, prog_14_method_2_code, 6, some .boolean),
  (⟨"WarmNightModel", "<init>", "()V"⟩, prog_14_method_3_code, 1, none),
  (⟨"WarmNightModel", "begins", "()V"⟩, prog_14_method_4_code, 2, none),
  (⟨"WarmNightModel", "divisor", "(JJ)J"⟩, prog_14_method_5_code, 10, some .long),
  (⟨"WarmNightModel", "tells", "(JJ)I"⟩, prog_14_method_6_code, 7, some .int),
  (⟨"WarmNightModel", "sets", "(II)I"⟩, prog_14_method_7_code, 4, some .int),
  (⟨"WarmNightModel", "turns", "(IZ)I"⟩, prog_14_method_8_code, 4, some .int),
  (⟨"WarmNightModel", "mostOf", "(I)I"⟩, prog_14_method_9_code, 1, some .int),
  (⟨"WarmNightModel", "put", "(II)I"⟩, prog_14_method_10_code, 3, some .int),
  (⟨"WarmNightModel", "isCell", "(I)Z"⟩, prog_14_method_11_code, 1, some .boolean),
  (⟨"WarmNightModel", "isQuarter", "(I)Z"⟩, prog_14_method_12_code, 1, some .boolean),
  (⟨"WarmNightModel", "isWarm", "(I)Z"⟩, prog_14_method_13_code, 1, some .boolean),
  (⟨"WarmNightModel", "cell", "(IIII)I"⟩, prog_14_method_14_code, 5, some .int),
  (⟨"WarmNightModel", "pass", "(II)I"⟩, prog_14_method_15_code, 3, some .int),
  (⟨"WarmNightModel", "hang", "(IZ)I"⟩, prog_14_method_16_code, 3, some .int),
  (⟨"WarmNightModel", "cold", "(III)I"⟩, prog_14_method_17_code, 6, some .int),
  (⟨"WarmNightModel", "help", "(II)I"⟩, prog_14_method_18_code, 3, some .int),
  (⟨"WarmNightModel", "man", "(IIIII)I"⟩, prog_14_method_19_code, 7, some .int),
  (⟨"WarmNightModel", "isMan", "(I)Z"⟩, prog_14_method_20_code, 2, some .boolean),
  (⟨"WarmNightModel", "coat", "(IZ)I"⟩, prog_14_method_21_code, 3, some .int),
  (⟨"WarmNightModel", "broken", "(III)I"⟩, prog_14_method_22_code, 5, some .int),
  (⟨"WarmNightModel", "open", "(IZ)I"⟩, prog_14_method_23_code, 3, some .int),
  (⟨"WarmNightModel", "plan", "(II)I"⟩, prog_14_method_24_code, 3, some .int),
  (⟨"WarmNightModel", "type", "(JI)I"⟩, prog_14_method_25_code, 5, some .int),
  (⟨"WarmNightModel", "clear", "()I"⟩, prog_14_method_26_code, 2, some .int),
  (⟨"WarmNightModel", "isAt", "(II)Z"⟩, prog_14_method_27_code, 3, some .boolean),
  (⟨"WarmNightModel", "wordOf", "(J)I"⟩, prog_14_method_28_code, 4, some .int),
  (⟨"WarmNightModel", "scans", "()V"⟩, prog_14_method_29_code, 3, none),
  (⟨"WarmNightModel", "numbers", "(I)I"⟩, prog_14_method_30_code, 1, some .int),
  (⟨"WarmNightModel", "reads", "()Z"⟩, prog_14_method_31_code, 3, some .boolean),
  (⟨"WarmNightModel", "tellsItem", "(I)I"⟩, prog_14_method_32_code, 5, some .int),
  (⟨"WarmNightModel", "carriage", "()I"⟩, prog_14_method_33_code, 3, some .int),
  (⟨"WarmNightModel", "lastOf", "(I)I"⟩, prog_14_method_34_code, 2, some .int),
  (⟨"WarmNightModel", "lossOf", "(II)I"⟩, prog_14_method_35_code, 6, some .int),
  (⟨"WarmNightModel", "lowest", "()I"⟩, prog_14_method_36_code, 2, some .int),
  (⟨"WarmNightModel", "highest", "()I"⟩, prog_14_method_37_code, 1, some .int),
  (⟨"WarmNightModel", "seatOf", "(III)I"⟩, prog_14_method_38_code, 5, some .int),
  (⟨"WarmNightModel", "wants", "(III)I"⟩, prog_14_method_39_code, 6, some .int),
  (⟨"WarmNightModel", "isHung", "(II)Z"⟩, prog_14_method_40_code, 3, some .boolean),
  (⟨"WarmNightModel", "passesNight", "(II)V"⟩, prog_14_method_41_code, 9, none),
  (⟨"WarmNightModel", "feelsIn", "(IIIZ)I"⟩, prog_14_method_42_code, 5, some .int),
  (⟨"WarmNightModel", "told", "()I"⟩, prog_14_method_43_code, 3, some .int),
  (⟨"WarmNightModel", "judges", "(II)V"⟩, prog_14_method_44_code, 8, none),
  (⟨"WarmNightModel", "nights", "(II)V"⟩, prog_14_method_45_code, 3, none),
  (⟨"WarmNightModel", "isRule", "(II)Z"⟩, prog_14_method_46_code, 2, some .boolean),
  (⟨"WarmNightModel", "isIn", "(I)Z"⟩, prog_14_method_47_code, 2, some .boolean),
  (⟨"WarmNightModel", "warmth", "(IIII)I"⟩, prog_14_method_48_code, 5, some .int),
  (⟨"WarmNightModel", "feels", "(IIII)I"⟩, prog_14_method_49_code, 5, some .int),
  (⟨"WarmNightModel", "fuel", "(IIII)I"⟩, prog_14_method_50_code, 5, some .int),
  (⟨"WarmNightModel", "worst", "(II)I"⟩, prog_14_method_51_code, 3, some .int),
  (⟨"WarmNightModel", "falls", "(III)I"⟩, prog_14_method_52_code, 4, some .int),
  (⟨"WarmNightModel", "fair", "(II)I"⟩, prog_14_method_53_code, 9, some .int),
  (⟨"WarmNightModel", "findBest", "()Z"⟩, prog_14_method_54_code, 11, some .boolean),
  (⟨"WarmNightModel", "best", "(I)I"⟩, prog_14_method_55_code, 2, some .int),
  (⟨"WarmNightModel", "take", "()I"⟩, prog_14_method_56_code, 2, some .int),
  (⟨"WarmNightModel", "isOk", "(IIII)Z"⟩, prog_14_method_57_code, 5, some .boolean),
  (⟨"WarmNightModel", "places", "(III)Z"⟩, prog_14_method_58_code, 9, some .boolean),
  (⟨"WarmNightModel", "moves", "(II)V"⟩, prog_14_method_59_code, 7, none),
  (⟨"WarmNightModel", "seats", "(II)Z"⟩, prog_14_method_60_code, 5, some .boolean),
  (⟨"WarmNightModel", "bestMargin", "()I"⟩, prog_14_method_61_code, 5, some .int),
  (⟨"WarmNightModel", "sit", "(III)I"⟩, prog_14_method_62_code, 10, some .int),
  (⟨"WarmNightModel", "sizeOf", "(I)I"⟩, prog_14_method_63_code, 3, some .int),
  (⟨"WarmNightModel", "coats", "(III)I"⟩, prog_14_method_64_code, 8, some .int),
  (⟨"WarmNightModel", "fewest", "(II)I"⟩, prog_14_method_65_code, 5, some .int),
  (⟨"WarmNightModel", "allHelp", "()I"⟩, prog_14_method_66_code, 3, some .int),
  (⟨"WarmNightModel", "savedBy", "(II)I"⟩, prog_14_method_67_code, 5, some .int),
  (⟨"WarmNightModel", "saved", "(II)I"⟩, prog_14_method_68_code, 3, some .int),
  (⟨"WarmNightModel", "keep", "(I)I"⟩, prog_14_method_69_code, 6, some .int),
  (⟨"WarmNightModel", "worthOf", "(III)I"⟩, prog_14_method_70_code, 6, some .int),
  (⟨"WarmNightModel", "worth", "(III)I"⟩, prog_14_method_71_code, 4, some .int),
  (⟨"WarmNightModel", "when", "(II)I"⟩, prog_14_method_72_code, 7, some .int),
  (⟨"WarmNightModel", "part", "(I)J"⟩, prog_14_method_73_code, 2, some .long),
  (⟨"WarmNightModel", "image", "(I)I"⟩, prog_14_method_74_code, 3, some .int),
  (⟨"WarmNightModel", "from", "(I)I"⟩, prog_14_method_75_code, 3, some .int),
  (⟨"WarmNightModel", "countOf", "(I)I"⟩, prog_14_method_76_code, 2, some .int),
  (⟨"WarmNightModel", "count", "(I)I"⟩, prog_14_method_77_code, 2, some .int),
  (⟨"WarmNightModel", "mixed", "(JII)J"⟩, prog_14_method_78_code, 8, some .long),
  (⟨"WarmNightModel", "digest", "()J"⟩, prog_14_method_79_code, 4, some .long),
  (⟨"java/lang/Integer", "bitCount", "(I)I"⟩, prog_15_method_49_code, 1, some .int),
  (⟨"java/lang/Math", "floorMod", "(II)I"⟩, prog_16_method_50_code, 3, some .int),
  (⟨"java/lang/Math", "abs", "(I)I"⟩, prog_16_method_59_code, 1, some .int),
  (⟨"java/lang/Math", "max", "(II)I"⟩, prog_16_method_65_code, 2, some .int),
  (⟨"java/lang/Math", "min", "(II)I"⟩, prog_16_method_69_code, 2, some .int)]
theorem ef_0 : ec_callV "WarmNight$Carriage" 56 "WarmNight$Carriage" ⟨"WarmNight$Carriage", "reset", "()V"⟩ prog_2_method_2_code 2 (none) 0 := ec_V1 (y := ⟨"WarmNight$Carriage", "reset", "()V"⟩) ⟨by decide +kernel, by decide +kernel, by decide +kernel⟩ ew_0 ew_1 ew_2 ew_3 ew_4
theorem ef_1 : ec_callS "WarmNight$Carriage" 88 ⟨"WarmNight", "within", "(III)Z"⟩ prog_1_method_36_code 3 (some .boolean) 3 := ec_S2 (host := "WarmNight") ⟨by decide +kernel, by decide +kernel, by decide +kernel⟩ (by simp [ec_nest]) ew_5 ew_6 ew_7
theorem ef_2 : ec_callV "WarmNight$Carriage" 99 "WarmNight$Carriage" ⟨"WarmNight$Carriage", "replace", "([III)I"⟩ prog_2_method_15_code 5 (some .int) 3 := ec_V1 (y := ⟨"WarmNight$Carriage", "replace", "([III)I"⟩) ⟨by decide +kernel, by decide +kernel, by decide +kernel⟩ ew_8 ew_9 ew_2 ew_10 ew_11
theorem ef_3 : ec_callS "WarmNight$Carriage" 103 ⟨"WarmNight$Carriage", "bit", "(II)Z"⟩ prog_2_method_16_code 2 (some .boolean) 2 := ec_S1 ⟨by decide +kernel, by decide +kernel, by decide +kernel⟩ ew_12 ew_13 ew_2 ew_14
theorem ef_4 : ec_callS "WarmNight$Carriage" 108 ⟨"java/lang/Math", "min", "(II)I"⟩ prog_16_method_69_code 2 (some .int) 2 := ec_S1 ⟨by decide +kernel, by decide +kernel, by decide +kernel⟩ ew_15 ew_16 ew_17 ew_18
theorem ef_5 : ec_callV "WarmNight$Carriage" 115 "WarmNight$Carriage" ⟨"WarmNight$Carriage", "hasMan", "(I)Z"⟩ prog_2_method_22_code 2 (some .boolean) 1 := ec_V1 (y := ⟨"WarmNight$Carriage", "hasMan", "(I)Z"⟩) ⟨by decide +kernel, by decide +kernel, by decide +kernel⟩ ew_19 ew_20 ew_2 ew_21 ew_22
theorem ef_6 : ec_callV "WarmNight$Carriage" 119 "WarmNight$Carriage" ⟨"WarmNight$Carriage", "cells", "()I"⟩ prog_2_method_17_code 1 (some .int) 0 := ec_V1 (y := ⟨"WarmNight$Carriage", "cells", "()I"⟩) ⟨by decide +kernel, by decide +kernel, by decide +kernel⟩ ew_23 ew_24 ew_2 ew_25 ew_26
theorem ef_7 : ec_callV "WarmNight$Carriage" 123 "WarmNight$Carriage" ⟨"WarmNight$Carriage", "quarters", "()I"⟩ prog_2_method_18_code 1 (some .int) 0 := ec_V1 (y := ⟨"WarmNight$Carriage", "quarters", "()I"⟩) ⟨by decide +kernel, by decide +kernel, by decide +kernel⟩ ew_27 ew_28 ew_2 ew_29 ew_30
theorem ef_8 : ec_callS "WarmNight$Carriage" 126 ⟨"WarmNight", "mixed", "(JJ)J"⟩ prog_1_method_38_code 4 (some .long) 2 := ec_S2 (host := "WarmNight") ⟨by decide +kernel, by decide +kernel, by decide +kernel⟩ (by simp [ec_nest]) ew_31 ew_6 ew_32
theorem ef_9 : ec_callI "WarmNight$Early" 1 ⟨"WarmNight$Even", "<init>", "()V"⟩ prog_4_method_1_code 1 (none) 0 := ec_I2 (host := "WarmNight") ⟨by decide +kernel, by decide +kernel, by decide +kernel⟩ rfl (by simp [ec_nest]) ew_33 ew_34 ew_35
theorem ef_10 : ec_callV "WarmNight$Early" 7 "WarmNight$Carriage" ⟨"WarmNight$Carriage", "quarters", "()I"⟩ prog_2_method_18_code 1 (some .int) 0 := ec_V1 (y := ⟨"WarmNight$Carriage", "quarters", "()I"⟩) ⟨by decide +kernel, by decide +kernel, by decide +kernel⟩ ew_36 ew_28 ew_2 ew_29 ew_30
theorem ef_11 : ec_callI "WarmNight$Early" 13 ⟨"WarmNight$Even", "pieces", "(LWarmNight$Carriage;III)I"⟩ prog_4_method_2_code 5 (some .int) 4 := ec_I3 ⟨by decide +kernel, by decide +kernel, by decide +kernel⟩ (by decide +kernel) ew_37 ew_38 ew_39 ew_33 ew_40 ew_41
theorem ef_12 : ec_callS "WarmNight$Early" 17 ⟨"java/lang/Math", "min", "(II)I"⟩ prog_16_method_69_code 2 (some .int) 2 := ec_S1 ⟨by decide +kernel, by decide +kernel, by decide +kernel⟩ ew_42 ew_16 ew_17 ew_18
theorem ef_13 : ec_callS "WarmNight$Even" 7 ⟨"java/lang/Math", "min", "(II)I"⟩ prog_16_method_69_code 2 (some .int) 2 := ec_S1 ⟨by decide +kernel, by decide +kernel, by decide +kernel⟩ ew_43 ew_16 ew_17 ew_18
theorem ef_14 : ec_callS "WarmNight$Even" 19 ⟨"WarmNight$Carriage", "bit", "(II)Z"⟩ prog_2_method_16_code 2 (some .boolean) 2 := ec_S1 ⟨by decide +kernel, by decide +kernel, by decide +kernel⟩ ew_44 ew_13 ew_2 ew_14
theorem ef_15 : ec_callI "WarmNight$Half" 3 ⟨"WarmNight$Even", "<init>", "()V"⟩ prog_4_method_1_code 1 (none) 0 := ec_I2 (host := "WarmNight") ⟨by decide +kernel, by decide +kernel, by decide +kernel⟩ rfl (by simp [ec_nest]) ew_33 ew_34 ew_35
theorem ef_16 : ec_callV "WarmNight$Half" 15 "WarmNight$Carriage" ⟨"WarmNight$Carriage", "nearestCell", "(I)I"⟩ prog_2_method_19_code 2 (some .int) 1 := ec_V1 (y := ⟨"WarmNight$Carriage", "nearestCell", "(I)I"⟩) ⟨by decide +kernel, by decide +kernel, by decide +kernel⟩ ew_45 ew_46 ew_2 ew_47 ew_48
theorem ef_17 : ec_callS "WarmNight$Half" 19 ⟨"java/lang/Math", "min", "(II)I"⟩ prog_16_method_69_code 2 (some .int) 2 := ec_S1 ⟨by decide +kernel, by decide +kernel, by decide +kernel⟩ ew_49 ew_16 ew_17 ew_18
theorem ef_18 : ec_callS "WarmNight$Half" 25 ⟨"java/lang/Math", "max", "(II)I"⟩ prog_16_method_65_code 2 (some .int) 2 := ec_S1 ⟨by decide +kernel, by decide +kernel, by decide +kernel⟩ ew_50 ew_51 ew_17 ew_52
theorem ef_19 : ec_callI "WarmNight$Half" 28 ⟨"WarmNight$Even", "isHung", "(LWarmNight$Carriage;I)Z"⟩ prog_4_method_4_code 3 (some .boolean) 2 := ec_I3 ⟨by decide +kernel, by decide +kernel, by decide +kernel⟩ (by decide +kernel) ew_53 ew_54 ew_55 ew_33 ew_56 ew_57
theorem ef_20 : ec_callS "WarmNight$Half" 32 ⟨"WarmNight$Half", "isNear", "(LWarmNight$Carriage;I)Z"⟩ prog_5_method_4_code 2 (some .boolean) 2 := ec_S1 ⟨by decide +kernel, by decide +kernel, by decide +kernel⟩ ew_58 ew_59 ew_60 ew_61
theorem ef_21 : ec_callS "WarmNight$Half" 37 ⟨"java/lang/Math", "abs", "(I)I"⟩ prog_16_method_59_code 1 (some .int) 1 := ec_S1 ⟨by decide +kernel, by decide +kernel, by decide +kernel⟩ ew_62 ew_63 ew_17 ew_64
theorem ef_22 : ec_callI "WarmNight$Late" 1 ⟨"WarmNight$Early", "<init>", "()V"⟩ prog_3_method_1_code 1 (none) 0 := ec_I2 (host := "WarmNight") ⟨by decide +kernel, by decide +kernel, by decide +kernel⟩ rfl (by simp [ec_nest]) ew_65 ew_66 ew_67
theorem ef_23 : ec_callV "WarmNight$Late" 7 "WarmNight$Carriage" ⟨"WarmNight$Carriage", "quarters", "()I"⟩ prog_2_method_18_code 1 (some .int) 0 := ec_V1 (y := ⟨"WarmNight$Carriage", "quarters", "()I"⟩) ⟨by decide +kernel, by decide +kernel, by decide +kernel⟩ ew_68 ew_28 ew_2 ew_29 ew_30
theorem ef_24 : ec_callI "WarmNight$Late" 13 ⟨"WarmNight$Early", "pieces", "(LWarmNight$Carriage;III)I"⟩ prog_3_method_2_code 5 (some .int) 4 := ec_I3 ⟨by decide +kernel, by decide +kernel, by decide +kernel⟩ (by decide +kernel) ew_69 ew_70 ew_71 ew_65 ew_72 ew_73
theorem ef_25 : ec_callV "WarmNight$Night" 60 "WarmNight$Night" ⟨"WarmNight$Night", "prepare", "(LWarmNight$Even;II)V"⟩ prog_7_method_3_code 5 (none) 3 := ec_V1 (y := ⟨"WarmNight$Night", "prepare", "(LWarmNight$Even;II)V"⟩) ⟨by decide +kernel, by decide +kernel, by decide +kernel⟩ ew_74 ew_75 ew_76 ew_77 ew_78
theorem ef_26 : ec_callV "WarmNight$Night" 64 "WarmNight$Carriage" ⟨"WarmNight$Carriage", "quarters", "()I"⟩ prog_2_method_18_code 1 (some .int) 0 := ec_V1 (y := ⟨"WarmNight$Carriage", "quarters", "()I"⟩) ⟨by decide +kernel, by decide +kernel, by decide +kernel⟩ ew_79 ew_28 ew_2 ew_29 ew_30
theorem ef_27 : ec_callV "WarmNight$Night" 70 "WarmNight$Early" ⟨"WarmNight$Early", "pieces", "(LWarmNight$Carriage;III)I"⟩ prog_3_method_2_code 5 (some .int) 4 := ec_V3 (x := ⟨"WarmNight$Even", "pieces", "(LWarmNight$Carriage;III)I"⟩) ⟨by decide +kernel, by decide +kernel, by decide +kernel⟩ ew_80 ew_38 ew_40 ew_81 ew_65 ew_72 ew_73 ew_41
theorem ef_28 : ec_callV "WarmNight$Night" 70 "WarmNight$Even" ⟨"WarmNight$Even", "pieces", "(LWarmNight$Carriage;III)I"⟩ prog_4_method_2_code 5 (some .int) 4 := ec_V1 (y := ⟨"WarmNight$Even", "pieces", "(LWarmNight$Carriage;III)I"⟩) ⟨by decide +kernel, by decide +kernel, by decide +kernel⟩ ew_80 ew_82 ew_33 ew_40 ew_41
theorem ef_29 : ec_callV "WarmNight$Night" 70 "WarmNight$Half" ⟨"WarmNight$Even", "pieces", "(LWarmNight$Carriage;III)I"⟩ prog_4_method_2_code 5 (some .int) 4 := ec_V3 (x := ⟨"WarmNight$Even", "pieces", "(LWarmNight$Carriage;III)I"⟩) ⟨by decide +kernel, by decide +kernel, by decide +kernel⟩ ew_80 ew_38 ew_40 ew_83 ew_33 ew_40 ew_41 ew_41
theorem ef_30 : ec_callV "WarmNight$Night" 70 "WarmNight$Late" ⟨"WarmNight$Late", "pieces", "(LWarmNight$Carriage;III)I"⟩ prog_6_method_2_code 5 (some .int) 4 := ec_V3 (x := ⟨"WarmNight$Even", "pieces", "(LWarmNight$Carriage;III)I"⟩) ⟨by decide +kernel, by decide +kernel, by decide +kernel⟩ ew_80 ew_38 ew_40 ew_84 ew_85 ew_86 ew_87 ew_41
theorem ef_31 : ec_callV "WarmNight$Night" 70 "WarmNight$Planned" ⟨"WarmNight$Planned", "pieces", "(LWarmNight$Carriage;III)I"⟩ prog_8_method_2_code 5 (some .int) 4 := ec_V3 (x := ⟨"WarmNight$Even", "pieces", "(LWarmNight$Carriage;III)I"⟩) ⟨by decide +kernel, by decide +kernel, by decide +kernel⟩ ew_80 ew_38 ew_40 ew_88 ew_89 ew_90 ew_91 ew_41
theorem ef_32 : ec_callV "WarmNight$Night" 70 "WarmNight$Turn" ⟨"WarmNight$Even", "pieces", "(LWarmNight$Carriage;III)I"⟩ prog_4_method_2_code 5 (some .int) 4 := ec_V3 (x := ⟨"WarmNight$Even", "pieces", "(LWarmNight$Carriage;III)I"⟩) ⟨by decide +kernel, by decide +kernel, by decide +kernel⟩ ew_80 ew_38 ew_40 ew_92 ew_33 ew_40 ew_41 ew_41
theorem ef_33 : ec_callV "WarmNight$Night" 76 "WarmNight$Night" ⟨"WarmNight$Night", "step", "(II)V"⟩ prog_7_method_5_code 3 (none) 2 := ec_V1 (y := ⟨"WarmNight$Night", "step", "(II)V"⟩) ⟨by decide +kernel, by decide +kernel, by decide +kernel⟩ ew_93 ew_94 ew_76 ew_95 ew_96
theorem ef_34 : ec_callV "WarmNight$Night" 84 "WarmNight$Carriage" ⟨"WarmNight$Carriage", "cells", "()I"⟩ prog_2_method_17_code 1 (some .int) 0 := ec_V1 (y := ⟨"WarmNight$Carriage", "cells", "()I"⟩) ⟨by decide +kernel, by decide +kernel, by decide +kernel⟩ ew_97 ew_24 ew_2 ew_25 ew_26
theorem ef_35 : ec_callV "WarmNight$Night" 89 "WarmNight$Early" ⟨"WarmNight$Even", "isHung", "(LWarmNight$Carriage;I)Z"⟩ prog_4_method_4_code 3 (some .boolean) 2 := ec_V3 (x := ⟨"WarmNight$Even", "isHung", "(LWarmNight$Carriage;I)Z"⟩) ⟨by decide +kernel, by decide +kernel, by decide +kernel⟩ ew_98 ew_54 ew_56 ew_99 ew_33 ew_56 ew_57 ew_57
theorem ef_36 : ec_callV "WarmNight$Night" 89 "WarmNight$Even" ⟨"WarmNight$Even", "isHung", "(LWarmNight$Carriage;I)Z"⟩ prog_4_method_4_code 3 (some .boolean) 2 := ec_V1 (y := ⟨"WarmNight$Even", "isHung", "(LWarmNight$Carriage;I)Z"⟩) ⟨by decide +kernel, by decide +kernel, by decide +kernel⟩ ew_98 ew_100 ew_33 ew_56 ew_57
theorem ef_37 : ec_callV "WarmNight$Night" 89 "WarmNight$Half" ⟨"WarmNight$Half", "isHung", "(LWarmNight$Carriage;I)Z"⟩ prog_5_method_3_code 3 (some .boolean) 2 := ec_V3 (x := ⟨"WarmNight$Even", "isHung", "(LWarmNight$Carriage;I)Z"⟩) ⟨by decide +kernel, by decide +kernel, by decide +kernel⟩ ew_98 ew_54 ew_56 ew_101 ew_60 ew_102 ew_103 ew_57
theorem ef_38 : ec_callV "WarmNight$Night" 89 "WarmNight$Late" ⟨"WarmNight$Even", "isHung", "(LWarmNight$Carriage;I)Z"⟩ prog_4_method_4_code 3 (some .boolean) 2 := ec_V3 (x := ⟨"WarmNight$Even", "isHung", "(LWarmNight$Carriage;I)Z"⟩) ⟨by decide +kernel, by decide +kernel, by decide +kernel⟩ ew_98 ew_54 ew_56 ew_104 ew_33 ew_56 ew_57 ew_57
theorem ef_39 : ec_callV "WarmNight$Night" 89 "WarmNight$Planned" ⟨"WarmNight$Even", "isHung", "(LWarmNight$Carriage;I)Z"⟩ prog_4_method_4_code 3 (some .boolean) 2 := ec_V3 (x := ⟨"WarmNight$Even", "isHung", "(LWarmNight$Carriage;I)Z"⟩) ⟨by decide +kernel, by decide +kernel, by decide +kernel⟩ ew_98 ew_54 ew_56 ew_105 ew_33 ew_56 ew_57 ew_57
theorem ef_40 : ec_callV "WarmNight$Night" 89 "WarmNight$Turn" ⟨"WarmNight$Even", "isHung", "(LWarmNight$Carriage;I)Z"⟩ prog_4_method_4_code 3 (some .boolean) 2 := ec_V3 (x := ⟨"WarmNight$Even", "isHung", "(LWarmNight$Carriage;I)Z"⟩) ⟨by decide +kernel, by decide +kernel, by decide +kernel⟩ ew_98 ew_54 ew_56 ew_106 ew_33 ew_56 ew_57 ew_57
theorem ef_41 : ec_callS "WarmNight$Night" 107 ⟨"WarmNight$Carriage", "bit", "(II)Z"⟩ prog_2_method_16_code 2 (some .boolean) 2 := ec_S1 ⟨by decide +kernel, by decide +kernel, by decide +kernel⟩ ew_107 ew_13 ew_2 ew_14
theorem ef_42 : ec_callV "WarmNight$Night" 111 "WarmNight$Night" ⟨"WarmNight$Night", "prepareQuarter", "(LWarmNight$Even;I)V"⟩ prog_7_method_4_code 5 (none) 2 := ec_V1 (y := ⟨"WarmNight$Night", "prepareQuarter", "(LWarmNight$Even;I)V"⟩) ⟨by decide +kernel, by decide +kernel, by decide +kernel⟩ ew_108 ew_109 ew_76 ew_110 ew_111
theorem ef_43 : ec_callV "WarmNight$Night" 115 "WarmNight$Carriage" ⟨"WarmNight$Carriage", "lossAt", "(II)I"⟩ prog_2_method_25_code 5 (some .int) 2 := ec_V1 (y := ⟨"WarmNight$Carriage", "lossAt", "(II)I"⟩) ⟨by decide +kernel, by decide +kernel, by decide +kernel⟩ ew_112 ew_113 ew_2 ew_114 ew_115
theorem ef_44 : ec_callV "WarmNight$Night" 122 "WarmNight$Carriage" ⟨"WarmNight$Carriage", "nearestCell", "(I)I"⟩ prog_2_method_19_code 2 (some .int) 1 := ec_V1 (y := ⟨"WarmNight$Carriage", "nearestCell", "(I)I"⟩) ⟨by decide +kernel, by decide +kernel, by decide +kernel⟩ ew_116 ew_46 ew_2 ew_47 ew_48
theorem ef_45 : ec_callV "WarmNight$Night" 126 "WarmNight$Early" ⟨"WarmNight$Even", "seat", "(LWarmNight$Carriage;II)I"⟩ prog_4_method_3_code 4 (some .int) 3 := ec_V3 (x := ⟨"WarmNight$Even", "seat", "(LWarmNight$Carriage;II)I"⟩) ⟨by decide +kernel, by decide +kernel, by decide +kernel⟩ ew_117 ew_118 ew_119 ew_120 ew_33 ew_119 ew_121 ew_121
theorem ef_46 : ec_callV "WarmNight$Night" 126 "WarmNight$Even" ⟨"WarmNight$Even", "seat", "(LWarmNight$Carriage;II)I"⟩ prog_4_method_3_code 4 (some .int) 3 := ec_V1 (y := ⟨"WarmNight$Even", "seat", "(LWarmNight$Carriage;II)I"⟩) ⟨by decide +kernel, by decide +kernel, by decide +kernel⟩ ew_117 ew_122 ew_33 ew_119 ew_121
theorem ef_47 : ec_callV "WarmNight$Night" 126 "WarmNight$Half" ⟨"WarmNight$Half", "seat", "(LWarmNight$Carriage;II)I"⟩ prog_5_method_2_code 6 (some .int) 3 := ec_V3 (x := ⟨"WarmNight$Even", "seat", "(LWarmNight$Carriage;II)I"⟩) ⟨by decide +kernel, by decide +kernel, by decide +kernel⟩ ew_117 ew_118 ew_119 ew_123 ew_60 ew_124 ew_125 ew_121
theorem ef_48 : ec_callV "WarmNight$Night" 126 "WarmNight$Late" ⟨"WarmNight$Even", "seat", "(LWarmNight$Carriage;II)I"⟩ prog_4_method_3_code 4 (some .int) 3 := ec_V3 (x := ⟨"WarmNight$Even", "seat", "(LWarmNight$Carriage;II)I"⟩) ⟨by decide +kernel, by decide +kernel, by decide +kernel⟩ ew_117 ew_118 ew_119 ew_126 ew_33 ew_119 ew_121 ew_121
theorem ef_49 : ec_callV "WarmNight$Night" 126 "WarmNight$Planned" ⟨"WarmNight$Even", "seat", "(LWarmNight$Carriage;II)I"⟩ prog_4_method_3_code 4 (some .int) 3 := ec_V3 (x := ⟨"WarmNight$Even", "seat", "(LWarmNight$Carriage;II)I"⟩) ⟨by decide +kernel, by decide +kernel, by decide +kernel⟩ ew_117 ew_118 ew_119 ew_127 ew_33 ew_119 ew_121 ew_121
theorem ef_50 : ec_callV "WarmNight$Night" 126 "WarmNight$Turn" ⟨"WarmNight$Turn", "seat", "(LWarmNight$Carriage;II)I"⟩ prog_12_method_2_code 4 (some .int) 3 := ec_V3 (x := ⟨"WarmNight$Even", "seat", "(LWarmNight$Carriage;II)I"⟩) ⟨by decide +kernel, by decide +kernel, by decide +kernel⟩ ew_117 ew_118 ew_119 ew_128 ew_129 ew_130 ew_131 ew_121
theorem ef_51 : ec_callV "WarmNight$Night" 129 "WarmNight$Carriage" ⟨"WarmNight$Carriage", "hasCell", "(I)Z"⟩ prog_2_method_20_code 2 (some .boolean) 1 := ec_V1 (y := ⟨"WarmNight$Carriage", "hasCell", "(I)Z"⟩) ⟨by decide +kernel, by decide +kernel, by decide +kernel⟩ ew_132 ew_133 ew_2 ew_134 ew_135
theorem ef_52 : ec_callV "WarmNight$Night" 136 "WarmNight$Night" ⟨"WarmNight$Night", "warm", "(II)V"⟩ prog_7_method_6_code 7 (none) 2 := ec_V1 (y := ⟨"WarmNight$Night", "warm", "(II)V"⟩) ⟨by decide +kernel, by decide +kernel, by decide +kernel⟩ ew_136 ew_137 ew_76 ew_138 ew_139
theorem ef_53 : ec_callV "WarmNight$Night" 139 "WarmNight$Night" ⟨"WarmNight$Night", "judge", "(I)V"⟩ prog_7_method_7_code 4 (none) 1 := ec_V1 (y := ⟨"WarmNight$Night", "judge", "(I)V"⟩) ⟨by decide +kernel, by decide +kernel, by decide +kernel⟩ ew_140 ew_141 ew_76 ew_142 ew_143
theorem ef_54 : ec_callV "WarmNight$Night" 152 "WarmNight$Night" ⟨"WarmNight$Night", "marginOf", "(II)I"⟩ prog_7_method_8_code 3 (some .int) 2 := ec_V1 (y := ⟨"WarmNight$Night", "marginOf", "(II)I"⟩) ⟨by decide +kernel, by decide +kernel, by decide +kernel⟩ ew_144 ew_145 ew_76 ew_146 ew_147
theorem ef_55 : ec_callS "WarmNight$Night" 155 ⟨"java/lang/Math", "min", "(II)I"⟩ prog_16_method_69_code 2 (some .int) 2 := ec_S1 ⟨by decide +kernel, by decide +kernel, by decide +kernel⟩ ew_148 ew_16 ew_17 ew_18
theorem ef_56 : ec_callV "WarmNight$Night" 163 "WarmNight$Night" ⟨"WarmNight$Night", "fallsAt", "()I"⟩ prog_7_method_10_code 1 (some .int) 0 := ec_V1 (y := ⟨"WarmNight$Night", "fallsAt", "()I"⟩) ⟨by decide +kernel, by decide +kernel, by decide +kernel⟩ ew_149 ew_150 ew_76 ew_151 ew_152
theorem ef_57 : ec_callS "WarmNight$Night" 167 ⟨"java/lang/Math", "max", "(II)I"⟩ prog_16_method_65_code 2 (some .int) 2 := ec_S1 ⟨by decide +kernel, by decide +kernel, by decide +kernel⟩ ew_153 ew_51 ew_17 ew_52
theorem ef_58 : ec_callI "WarmNight$Planned" 1 ⟨"WarmNight$Even", "<init>", "()V"⟩ prog_4_method_1_code 1 (none) 0 := ec_I2 (host := "WarmNight") ⟨by decide +kernel, by decide +kernel, by decide +kernel⟩ rfl (by simp [ec_nest]) ew_33 ew_34 ew_35
theorem ef_59 : ec_callI "WarmNight$Planned" 13 ⟨"WarmNight$Even", "pieces", "(LWarmNight$Carriage;III)I"⟩ prog_4_method_2_code 5 (some .int) 4 := ec_I3 ⟨by decide +kernel, by decide +kernel, by decide +kernel⟩ (by decide +kernel) ew_154 ew_38 ew_155 ew_33 ew_40 ew_41
theorem ef_60 : ec_callV "WarmNight$Search" 48 "WarmNight$Night" ⟨"WarmNight$Night", "prepare", "(LWarmNight$Even;II)V"⟩ prog_7_method_3_code 5 (none) 3 := ec_V1 (y := ⟨"WarmNight$Night", "prepare", "(LWarmNight$Even;II)V"⟩) ⟨by decide +kernel, by decide +kernel, by decide +kernel⟩ ew_156 ew_75 ew_76 ew_77 ew_78
theorem ef_61 : ec_callV "WarmNight$Search" 54 "WarmNight$Search" ⟨"WarmNight$Search", "goOn", "(II)V"⟩ prog_9_method_4_code 4 (none) 2 := ec_V1 (y := ⟨"WarmNight$Search", "goOn", "(II)V"⟩) ⟨by decide +kernel, by decide +kernel, by decide +kernel⟩ ew_157 ew_158 ew_159 ew_160 ew_161
theorem ef_62 : ec_callS "WarmNight$Search" 58 ⟨"WarmNight", "within", "(III)Z"⟩ prog_1_method_36_code 3 (some .boolean) 3 := ec_S2 (host := "WarmNight") ⟨by decide +kernel, by decide +kernel, by decide +kernel⟩ (by simp [ec_nest]) ew_5 ew_6 ew_7
theorem ef_63 : ec_callV "WarmNight$Search" 68 "WarmNight$Search" ⟨"WarmNight$Search", "leads", "(III)Z"⟩ prog_9_method_5_code 4 (some .boolean) 3 := ec_V1 (y := ⟨"WarmNight$Search", "leads", "(III)Z"⟩) ⟨by decide +kernel, by decide +kernel, by decide +kernel⟩ ew_162 ew_163 ew_159 ew_164 ew_165
theorem ef_64 : ec_callV "WarmNight$Search" 71 "WarmNight$Carriage" ⟨"WarmNight$Carriage", "quarters", "()I"⟩ prog_2_method_18_code 1 (some .int) 0 := ec_V1 (y := ⟨"WarmNight$Carriage", "quarters", "()I"⟩) ⟨by decide +kernel, by decide +kernel, by decide +kernel⟩ ew_166 ew_28 ew_2 ew_29 ew_30
theorem ef_65 : ec_callV "WarmNight$Search" 84 "WarmNight$Night" ⟨"WarmNight$Night", "step", "(II)V"⟩ prog_7_method_5_code 3 (none) 2 := ec_V1 (y := ⟨"WarmNight$Night", "step", "(II)V"⟩) ⟨by decide +kernel, by decide +kernel, by decide +kernel⟩ ew_167 ew_94 ew_76 ew_95 ew_96
theorem ef_66 : ec_callV "WarmNight$Sharing" 37 "WarmNight$Carriage" ⟨"WarmNight$Carriage", "cells", "()I"⟩ prog_2_method_17_code 1 (some .int) 0 := ec_V1 (y := ⟨"WarmNight$Carriage", "cells", "()I"⟩) ⟨by decide +kernel, by decide +kernel, by decide +kernel⟩ ew_168 ew_24 ew_2 ew_25 ew_26
theorem ef_67 : ec_callV "WarmNight$Sharing" 47 "WarmNight$Carriage" ⟨"WarmNight$Carriage", "quarters", "()I"⟩ prog_2_method_18_code 1 (some .int) 0 := ec_V1 (y := ⟨"WarmNight$Carriage", "quarters", "()I"⟩) ⟨by decide +kernel, by decide +kernel, by decide +kernel⟩ ew_169 ew_28 ew_2 ew_29 ew_30
theorem ef_68 : ec_callS "WarmNight$Sharing" 55 ⟨"java/lang/Math", "min", "(II)I"⟩ prog_16_method_69_code 2 (some .int) 2 := ec_S1 ⟨by decide +kernel, by decide +kernel, by decide +kernel⟩ ew_170 ew_16 ew_17 ew_18
theorem ef_69 : ec_callV "WarmNight$Sharing" 61 "WarmNight$Sharing" ⟨"WarmNight$Sharing", "greatestLeast", "()I"⟩ prog_10_method_3_code 5 (some .int) 0 := ec_V1 (y := ⟨"WarmNight$Sharing", "greatestLeast", "()I"⟩) ⟨by decide +kernel, by decide +kernel, by decide +kernel⟩ ew_171 ew_172 ew_173 ew_174 ew_175
theorem ef_70 : ec_callV "WarmNight$Sharing" 71 "WarmNight$Sharing" ⟨"WarmNight$Sharing", "firstPlace", "(I)I"⟩ prog_10_method_4_code 4 (some .int) 1 := ec_V1 (y := ⟨"WarmNight$Sharing", "firstPlace", "(I)I"⟩) ⟨by decide +kernel, by decide +kernel, by decide +kernel⟩ ew_176 ew_177 ew_173 ew_178 ew_179
theorem ef_71 : ec_callV "WarmNight$Sharing" 79 "WarmNight$Sharing" ⟨"WarmNight$Sharing", "allFit", "(II)Z"⟩ prog_10_method_5_code 6 (some .boolean) 2 := ec_V1 (y := ⟨"WarmNight$Sharing", "allFit", "(II)Z"⟩) ⟨by decide +kernel, by decide +kernel, by decide +kernel⟩ ew_180 ew_181 ew_173 ew_182 ew_183
theorem ef_72 : ec_callV "WarmNight$Sharing" 83 "WarmNight$Sharing" ⟨"WarmNight$Sharing", "seatsFor", "(II)I"⟩ prog_10_method_6_code 5 (some .int) 2 := ec_V1 (y := ⟨"WarmNight$Sharing", "seatsFor", "(II)I"⟩) ⟨by decide +kernel, by decide +kernel, by decide +kernel⟩ ew_184 ew_185 ew_173 ew_186 ew_187
theorem ef_73 : ec_callV "WarmNight$Sharing" 86 "WarmNight$Sharing" ⟨"WarmNight$Sharing", "everybody", "()I"⟩ prog_10_method_8_code 1 (some .int) 0 := ec_V1 (y := ⟨"WarmNight$Sharing", "everybody", "()I"⟩) ⟨by decide +kernel, by decide +kernel, by decide +kernel⟩ ew_188 ew_189 ew_173 ew_190 ew_191
theorem ef_74 : ec_callV "WarmNight$Sharing" 92 "WarmNight$Night" ⟨"WarmNight$Night", "play", "(LWarmNight$Even;III)V"⟩ prog_7_method_2_code 6 (none) 4 := ec_V1 (y := ⟨"WarmNight$Night", "play", "(LWarmNight$Even;III)V"⟩) ⟨by decide +kernel, by decide +kernel, by decide +kernel⟩ ew_192 ew_193 ew_76 ew_194 ew_195
theorem ef_75 : ec_callS "WarmNight$Sharing" 104 ⟨"java/lang/Integer", "bitCount", "(I)I"⟩ prog_15_method_49_code 1 (some .int) 1 := ec_S1 ⟨by decide +kernel, by decide +kernel, by decide +kernel⟩ ew_196 ew_197 ew_198 ew_199
theorem ef_76 : ec_callV "WarmNight$Sharing" 109 "WarmNight$Sharing" ⟨"WarmNight$Sharing", "leastOf", "([[II)I"⟩ prog_10_method_11_code 5 (some .int) 2 := ec_V1 (y := ⟨"WarmNight$Sharing", "leastOf", "([[II)I"⟩) ⟨by decide +kernel, by decide +kernel, by decide +kernel⟩ ew_200 ew_201 ew_173 ew_202 ew_203
theorem ef_77 : ec_callS "WarmNight$Text" 23 ⟨"WarmNight", "within", "(III)Z"⟩ prog_1_method_36_code 3 (some .boolean) 3 := ec_S2 (host := "WarmNight") ⟨by decide +kernel, by decide +kernel, by decide +kernel⟩ (by simp [ec_nest]) ew_5 ew_6 ew_7
theorem ef_78 : ec_callV "WarmNight$Text" 38 "WarmNight$Text" ⟨"WarmNight$Text", "skipBlanks", "()V"⟩ prog_11_method_9_code 1 (none) 0 := ec_V1 (y := ⟨"WarmNight$Text", "skipBlanks", "()V"⟩) ⟨by decide +kernel, by decide +kernel, by decide +kernel⟩ ew_204 ew_205 ew_206 ew_207 ew_208
theorem ef_79 : ec_callV "WarmNight$Text" 44 "WarmNight$Text" ⟨"WarmNight$Text", "readItem", "(I)Z"⟩ prog_11_method_5_code 4 (some .boolean) 1 := ec_V1 (y := ⟨"WarmNight$Text", "readItem", "(I)Z"⟩) ⟨by decide +kernel, by decide +kernel, by decide +kernel⟩ ew_209 ew_210 ew_206 ew_211 ew_212
theorem ef_80 : ec_callV "WarmNight$Text" 48 "WarmNight$Text" ⟨"WarmNight$Text", "readWord", "()I"⟩ prog_11_method_6_code 3 (some .int) 0 := ec_V1 (y := ⟨"WarmNight$Text", "readWord", "()I"⟩) ⟨by decide +kernel, by decide +kernel, by decide +kernel⟩ ew_213 ew_214 ew_206 ew_215 ew_216
theorem ef_81 : ec_callV "WarmNight$Text" 55 "WarmNight$Text" ⟨"WarmNight$Text", "readNumber", "(II)Z"⟩ prog_11_method_8_code 7 (some .boolean) 2 := ec_V1 (y := ⟨"WarmNight$Text", "readNumber", "(II)Z"⟩) ⟨by decide +kernel, by decide +kernel, by decide +kernel⟩ ew_217 ew_218 ew_206 ew_219 ew_220
theorem ef_82 : ec_callV "WarmNight$Text" 59 "WarmNight$Text" ⟨"WarmNight$Text", "byteAt", "(I)I"⟩ prog_11_method_11_code 2 (some .int) 1 := ec_V1 (y := ⟨"WarmNight$Text", "byteAt", "(I)I"⟩) ⟨by decide +kernel, by decide +kernel, by decide +kernel⟩ ew_221 ew_222 ew_206 ew_223 ew_224
theorem ef_83 : ec_callV "WarmNight$Text" 63 "WarmNight$Text" ⟨"WarmNight$Text", "isWord", "(II)Z"⟩ prog_11_method_7_code 5 (some .boolean) 2 := ec_V1 (y := ⟨"WarmNight$Text", "isWord", "(II)Z"⟩) ⟨by decide +kernel, by decide +kernel, by decide +kernel⟩ ew_225 ew_226 ew_206 ew_227 ew_228
theorem ef_84 : ec_callV "WarmNight$Text" 74 "WarmNight$Text" ⟨"WarmNight$Text", "isFigure", "(I)Z"⟩ prog_11_method_10_code 2 (some .boolean) 1 := ec_V1 (y := ⟨"WarmNight$Text", "isFigure", "(I)Z"⟩) ⟨by decide +kernel, by decide +kernel, by decide +kernel⟩ ew_229 ew_230 ew_206 ew_231 ew_232
theorem ef_85 : ec_callV "WarmNight$Text" 77 "WarmNight$Carriage" ⟨"WarmNight$Carriage", "tellNumber", "(II)I"⟩ prog_2_method_4_code 3 (some .int) 2 := ec_V1 (y := ⟨"WarmNight$Carriage", "tellNumber", "(II)I"⟩) ⟨by decide +kernel, by decide +kernel, by decide +kernel⟩ ew_233 ew_234 ew_2 ew_235 ew_236
theorem ef_86 : ec_callV "WarmNight$Text" 83 "WarmNight$Carriage" ⟨"WarmNight$Carriage", "tellCell", "(IIII)I"⟩ prog_2_method_5_code 5 (some .int) 4 := ec_V1 (y := ⟨"WarmNight$Carriage", "tellCell", "(IIII)I"⟩) ⟨by decide +kernel, by decide +kernel, by decide +kernel⟩ ew_237 ew_238 ew_2 ew_239 ew_240
theorem ef_87 : ec_callV "WarmNight$Text" 87 "WarmNight$Carriage" ⟨"WarmNight$Carriage", "tellPass", "(II)I"⟩ prog_2_method_6_code 3 (some .int) 2 := ec_V1 (y := ⟨"WarmNight$Carriage", "tellPass", "(II)I"⟩) ⟨by decide +kernel, by decide +kernel, by decide +kernel⟩ ew_241 ew_242 ew_2 ew_243 ew_244
theorem ef_88 : ec_callV "WarmNight$Text" 90 "WarmNight$Carriage" ⟨"WarmNight$Carriage", "tellHung", "(IZ)I"⟩ prog_2_method_7_code 3 (some .int) 2 := ec_V1 (y := ⟨"WarmNight$Carriage", "tellHung", "(IZ)I"⟩) ⟨by decide +kernel, by decide +kernel, by decide +kernel⟩ ew_245 ew_246 ew_2 ew_247 ew_248
theorem ef_89 : ec_callV "WarmNight$Text" 94 "WarmNight$Carriage" ⟨"WarmNight$Carriage", "tellCold", "(III)I"⟩ prog_2_method_8_code 6 (some .int) 3 := ec_V1 (y := ⟨"WarmNight$Carriage", "tellCold", "(III)I"⟩) ⟨by decide +kernel, by decide +kernel, by decide +kernel⟩ ew_249 ew_250 ew_2 ew_251 ew_252
theorem ef_90 : ec_callV "WarmNight$Text" 98 "WarmNight$Carriage" ⟨"WarmNight$Carriage", "tellHelp", "(II)I"⟩ prog_2_method_9_code 3 (some .int) 2 := ec_V1 (y := ⟨"WarmNight$Carriage", "tellHelp", "(II)I"⟩) ⟨by decide +kernel, by decide +kernel, by decide +kernel⟩ ew_253 ew_254 ew_2 ew_255 ew_256
theorem ef_91 : ec_callV "WarmNight$Text" 101 "WarmNight$Carriage" ⟨"WarmNight$Carriage", "addMan", "(IIIII)I"⟩ prog_2_method_10_code 6 (some .int) 5 := ec_V1 (y := ⟨"WarmNight$Carriage", "addMan", "(IIIII)I"⟩) ⟨by decide +kernel, by decide +kernel, by decide +kernel⟩ ew_257 ew_258 ew_2 ew_259 ew_260
theorem ef_92 : ec_callV "WarmNight$Text" 105 "WarmNight$Carriage" ⟨"WarmNight$Carriage", "tellCoat", "(IZ)I"⟩ prog_2_method_11_code 3 (some .int) 2 := ec_V1 (y := ⟨"WarmNight$Carriage", "tellCoat", "(IZ)I"⟩) ⟨by decide +kernel, by decide +kernel, by decide +kernel⟩ ew_261 ew_262 ew_2 ew_263 ew_264
theorem ef_93 : ec_callV "WarmNight$Text" 108 "WarmNight$Carriage" ⟨"WarmNight$Carriage", "addBreak", "(III)I"⟩ prog_2_method_12_code 4 (some .int) 3 := ec_V1 (y := ⟨"WarmNight$Carriage", "addBreak", "(III)I"⟩) ⟨by decide +kernel, by decide +kernel, by decide +kernel⟩ ew_265 ew_266 ew_2 ew_267 ew_268
theorem ef_94 : ec_callV "WarmNight$Text" 111 "WarmNight$Carriage" ⟨"WarmNight$Carriage", "tellOpened", "(IZ)I"⟩ prog_2_method_13_code 3 (some .int) 2 := ec_V1 (y := ⟨"WarmNight$Carriage", "tellOpened", "(IZ)I"⟩) ⟨by decide +kernel, by decide +kernel, by decide +kernel⟩ ew_269 ew_270 ew_2 ew_271 ew_272
theorem ef_95 : ec_callI "WarmNight$Turn" 1 ⟨"WarmNight$Even", "<init>", "()V"⟩ prog_4_method_1_code 1 (none) 0 := ec_I2 (host := "WarmNight") ⟨by decide +kernel, by decide +kernel, by decide +kernel⟩ rfl (by simp [ec_nest]) ew_33 ew_34 ew_35
theorem ef_96 : ec_callV "WarmNight$Turn" 7 "WarmNight$Carriage" ⟨"WarmNight$Carriage", "cells", "()I"⟩ prog_2_method_17_code 1 (some .int) 0 := ec_V1 (y := ⟨"WarmNight$Carriage", "cells", "()I"⟩) ⟨by decide +kernel, by decide +kernel, by decide +kernel⟩ ew_273 ew_24 ew_2 ew_25 ew_26
theorem ef_97 : ec_callS "WarmNight$Turn" 13 ⟨"java/lang/Math", "max", "(II)I"⟩ prog_16_method_65_code 2 (some .int) 2 := ec_S1 ⟨by decide +kernel, by decide +kernel, by decide +kernel⟩ ew_274 ew_51 ew_17 ew_52
theorem ef_98 : ec_callS "WarmNight$Turn" 19 ⟨"java/lang/Math", "floorMod", "(II)I"⟩ prog_16_method_50_code 3 (some .int) 2 := ec_S1 ⟨by decide +kernel, by decide +kernel, by decide +kernel⟩ ew_275 ew_276 ew_17 ew_277
theorem ef_99 : ec_callI "WarmNight" 11 ⟨"WarmNight$Carriage", "<init>", "()V"⟩ prog_2_method_1_code 1 (none) 0 := ec_I1 ⟨by decide +kernel, by decide +kernel, by decide +kernel⟩ rfl ew_278 ew_2 ew_279 ew_280
theorem ef_100 : ec_callI "WarmNight" 29 ⟨"WarmNight$Text", "<init>", "()V"⟩ prog_11_method_1_code 1 (none) 0 := ec_I2 (host := "WarmNight") ⟨by decide +kernel, by decide +kernel, by decide +kernel⟩ rfl (by simp [ec_nest]) ew_206 ew_281 ew_282
theorem ef_101 : ec_callI "WarmNight" 42 ⟨"WarmNight$Night", "<init>", "(LWarmNight$Carriage;)V"⟩ prog_7_method_1_code 2 (none) 1 := ec_I1 ⟨by decide +kernel, by decide +kernel, by decide +kernel⟩ rfl ew_283 ew_76 ew_284 ew_285
theorem ef_102 : ec_callI "WarmNight" 51 ⟨"WarmNight$Search", "<init>", "(LWarmNight$Carriage;LWarmNight$Night;)V"⟩ prog_9_method_1_code 3 (none) 2 := ec_I1 ⟨by decide +kernel, by decide +kernel, by decide +kernel⟩ rfl ew_286 ew_159 ew_287 ew_288
theorem ef_103 : ec_callI "WarmNight" 60 ⟨"WarmNight$Sharing", "<init>", "(LWarmNight$Carriage;LWarmNight$Night;)V"⟩ prog_10_method_1_code 3 (none) 2 := ec_I1 ⟨by decide +kernel, by decide +kernel, by decide +kernel⟩ rfl ew_289 ew_173 ew_290 ew_291
theorem ef_104 : ec_callI "WarmNight" 72 ⟨"WarmNight$Even", "<init>", "()V"⟩ prog_4_method_1_code 1 (none) 0 := ec_I2 (host := "WarmNight") ⟨by decide +kernel, by decide +kernel, by decide +kernel⟩ rfl (by simp [ec_nest]) ew_33 ew_34 ew_35
theorem ef_105 : ec_callI "WarmNight" 75 ⟨"WarmNight$Early", "<init>", "()V"⟩ prog_3_method_1_code 1 (none) 0 := ec_I2 (host := "WarmNight") ⟨by decide +kernel, by decide +kernel, by decide +kernel⟩ rfl (by simp [ec_nest]) ew_65 ew_66 ew_67
theorem ef_106 : ec_callI "WarmNight" 78 ⟨"WarmNight$Late", "<init>", "()V"⟩ prog_6_method_1_code 1 (none) 0 := ec_I2 (host := "WarmNight") ⟨by decide +kernel, by decide +kernel, by decide +kernel⟩ rfl (by simp [ec_nest]) ew_85 ew_292 ew_293
theorem ef_107 : ec_callI "WarmNight" 81 ⟨"WarmNight$Half", "<init>", "()V"⟩ prog_5_method_1_code 1 (none) 0 := ec_I2 (host := "WarmNight") ⟨by decide +kernel, by decide +kernel, by decide +kernel⟩ rfl (by simp [ec_nest]) ew_60 ew_294 ew_295
theorem ef_108 : ec_callI "WarmNight" 84 ⟨"WarmNight$Turn", "<init>", "()V"⟩ prog_12_method_1_code 1 (none) 0 := ec_I2 (host := "WarmNight") ⟨by decide +kernel, by decide +kernel, by decide +kernel⟩ rfl (by simp [ec_nest]) ew_129 ew_296 ew_297
theorem ef_109 : ec_callI "WarmNight" 87 ⟨"WarmNight$Planned", "<init>", "()V"⟩ prog_8_method_1_code 1 (none) 0 := ec_I2 (host := "WarmNight") ⟨by decide +kernel, by decide +kernel, by decide +kernel⟩ rfl (by simp [ec_nest]) ew_89 ew_298 ew_299
theorem ef_110 : ec_callV "WarmNight" 88 "WarmNight$Carriage" ⟨"WarmNight$Carriage", "tellNumber", "(II)I"⟩ prog_2_method_4_code 3 (some .int) 2 := ec_V1 (y := ⟨"WarmNight$Carriage", "tellNumber", "(II)I"⟩) ⟨by decide +kernel, by decide +kernel, by decide +kernel⟩ ew_300 ew_234 ew_2 ew_235 ew_236
theorem ef_111 : ec_callV "WarmNight" 92 "WarmNight$Carriage" ⟨"WarmNight$Carriage", "tellCell", "(IIII)I"⟩ prog_2_method_5_code 5 (some .int) 4 := ec_V1 (y := ⟨"WarmNight$Carriage", "tellCell", "(IIII)I"⟩) ⟨by decide +kernel, by decide +kernel, by decide +kernel⟩ ew_301 ew_238 ew_2 ew_239 ew_240
theorem ef_112 : ec_callV "WarmNight" 96 "WarmNight$Carriage" ⟨"WarmNight$Carriage", "tellPass", "(II)I"⟩ prog_2_method_6_code 3 (some .int) 2 := ec_V1 (y := ⟨"WarmNight$Carriage", "tellPass", "(II)I"⟩) ⟨by decide +kernel, by decide +kernel, by decide +kernel⟩ ew_302 ew_242 ew_2 ew_243 ew_244
theorem ef_113 : ec_callV "WarmNight" 99 "WarmNight$Carriage" ⟨"WarmNight$Carriage", "tellHung", "(IZ)I"⟩ prog_2_method_7_code 3 (some .int) 2 := ec_V1 (y := ⟨"WarmNight$Carriage", "tellHung", "(IZ)I"⟩) ⟨by decide +kernel, by decide +kernel, by decide +kernel⟩ ew_303 ew_246 ew_2 ew_247 ew_248
theorem ef_114 : ec_callV "WarmNight" 103 "WarmNight$Carriage" ⟨"WarmNight$Carriage", "tellCold", "(III)I"⟩ prog_2_method_8_code 6 (some .int) 3 := ec_V1 (y := ⟨"WarmNight$Carriage", "tellCold", "(III)I"⟩) ⟨by decide +kernel, by decide +kernel, by decide +kernel⟩ ew_304 ew_250 ew_2 ew_251 ew_252
theorem ef_115 : ec_callV "WarmNight" 107 "WarmNight$Carriage" ⟨"WarmNight$Carriage", "tellHelp", "(II)I"⟩ prog_2_method_9_code 3 (some .int) 2 := ec_V1 (y := ⟨"WarmNight$Carriage", "tellHelp", "(II)I"⟩) ⟨by decide +kernel, by decide +kernel, by decide +kernel⟩ ew_305 ew_254 ew_2 ew_255 ew_256
theorem ef_116 : ec_callV "WarmNight" 110 "WarmNight$Carriage" ⟨"WarmNight$Carriage", "addMan", "(IIIII)I"⟩ prog_2_method_10_code 6 (some .int) 5 := ec_V1 (y := ⟨"WarmNight$Carriage", "addMan", "(IIIII)I"⟩) ⟨by decide +kernel, by decide +kernel, by decide +kernel⟩ ew_306 ew_258 ew_2 ew_259 ew_260
theorem ef_117 : ec_callV "WarmNight" 114 "WarmNight$Carriage" ⟨"WarmNight$Carriage", "tellCoat", "(IZ)I"⟩ prog_2_method_11_code 3 (some .int) 2 := ec_V1 (y := ⟨"WarmNight$Carriage", "tellCoat", "(IZ)I"⟩) ⟨by decide +kernel, by decide +kernel, by decide +kernel⟩ ew_307 ew_262 ew_2 ew_263 ew_264
theorem ef_118 : ec_callV "WarmNight" 117 "WarmNight$Carriage" ⟨"WarmNight$Carriage", "addBreak", "(III)I"⟩ prog_2_method_12_code 4 (some .int) 3 := ec_V1 (y := ⟨"WarmNight$Carriage", "addBreak", "(III)I"⟩) ⟨by decide +kernel, by decide +kernel, by decide +kernel⟩ ew_308 ew_266 ew_2 ew_267 ew_268
theorem ef_119 : ec_callV "WarmNight" 120 "WarmNight$Carriage" ⟨"WarmNight$Carriage", "tellOpened", "(IZ)I"⟩ prog_2_method_13_code 3 (some .int) 2 := ec_V1 (y := ⟨"WarmNight$Carriage", "tellOpened", "(IZ)I"⟩) ⟨by decide +kernel, by decide +kernel, by decide +kernel⟩ ew_309 ew_270 ew_2 ew_271 ew_272
theorem ef_120 : ec_callV "WarmNight" 123 "WarmNight$Carriage" ⟨"WarmNight$Carriage", "tellPlan", "(II)I"⟩ prog_2_method_14_code 3 (some .int) 2 := ec_V1 (y := ⟨"WarmNight$Carriage", "tellPlan", "(II)I"⟩) ⟨by decide +kernel, by decide +kernel, by decide +kernel⟩ ew_310 ew_311 ew_2 ew_312 ew_313
theorem ef_121 : ec_callV "WarmNight" 126 "WarmNight$Text" ⟨"WarmNight$Text", "add", "(JI)I"⟩ prog_11_method_2_code 5 (some .int) 2 := ec_V1 (y := ⟨"WarmNight$Text", "add", "(JI)I"⟩) ⟨by decide +kernel, by decide +kernel, by decide +kernel⟩ ew_314 ew_315 ew_206 ew_316 ew_317
theorem ef_122 : ec_callV "WarmNight" 130 "WarmNight$Text" ⟨"WarmNight$Text", "empty", "()I"⟩ prog_11_method_3_code 2 (some .int) 0 := ec_V1 (y := ⟨"WarmNight$Text", "empty", "()I"⟩) ⟨by decide +kernel, by decide +kernel, by decide +kernel⟩ ew_318 ew_319 ew_206 ew_320 ew_321
theorem ef_123 : ec_callV "WarmNight" 134 "WarmNight$Text" ⟨"WarmNight$Text", "findFault", "()I"⟩ prog_11_method_4_code 1 (some .int) 0 := ec_V1 (y := ⟨"WarmNight$Text", "findFault", "()I"⟩) ⟨by decide +kernel, by decide +kernel, by decide +kernel⟩ ew_322 ew_323 ew_206 ew_324 ew_325
theorem ef_124 : ec_callV "WarmNight" 137 "WarmNight$Carriage" ⟨"WarmNight$Carriage", "reset", "()V"⟩ prog_2_method_2_code 2 (none) 0 := ec_V1 (y := ⟨"WarmNight$Carriage", "reset", "()V"⟩) ⟨by decide +kernel, by decide +kernel, by decide +kernel⟩ ew_326 ew_1 ew_2 ew_3 ew_4
theorem ef_125 : ec_callV "WarmNight" 144 "WarmNight$Text" ⟨"WarmNight$Text", "tellItem", "(ILWarmNight$Carriage;)I"⟩ prog_11_method_12_code 4 (some .int) 2 := ec_V1 (y := ⟨"WarmNight$Text", "tellItem", "(ILWarmNight$Carriage;)I"⟩) ⟨by decide +kernel, by decide +kernel, by decide +kernel⟩ ew_327 ew_328 ew_206 ew_329 ew_330
theorem ef_126 : ec_callV "WarmNight" 148 "WarmNight$Carriage" ⟨"WarmNight$Carriage", "become", "(LWarmNight$Carriage;)V"⟩ prog_2_method_3_code 3 (none) 1 := ec_V1 (y := ⟨"WarmNight$Carriage", "become", "(LWarmNight$Carriage;)V"⟩) ⟨by decide +kernel, by decide +kernel, by decide +kernel⟩ ew_331 ew_332 ew_2 ew_333 ew_334
theorem ef_127 : ec_callS "WarmNight" 151 ⟨"WarmNight", "isRule", "(II)Z"⟩ prog_1_method_37_code 2 (some .boolean) 2 := ec_S1 ⟨by decide +kernel, by decide +kernel, by decide +kernel⟩ ew_335 ew_336 ew_6 ew_337
theorem ef_128 : ec_callV "WarmNight" 155 "WarmNight$Carriage" ⟨"WarmNight$Carriage", "hasQuarter", "(I)Z"⟩ prog_2_method_21_code 2 (some .boolean) 1 := ec_V1 (y := ⟨"WarmNight$Carriage", "hasQuarter", "(I)Z"⟩) ⟨by decide +kernel, by decide +kernel, by decide +kernel⟩ ew_338 ew_339 ew_2 ew_340 ew_341
theorem ef_129 : ec_callV "WarmNight" 159 "WarmNight$Carriage" ⟨"WarmNight$Carriage", "hasCell", "(I)Z"⟩ prog_2_method_20_code 2 (some .boolean) 1 := ec_V1 (y := ⟨"WarmNight$Carriage", "hasCell", "(I)Z"⟩) ⟨by decide +kernel, by decide +kernel, by decide +kernel⟩ ew_342 ew_133 ew_2 ew_134 ew_135
theorem ef_130 : ec_callV "WarmNight" 163 "WarmNight" ⟨"WarmNight", "playAsTold", "(II)V"⟩ prog_1_method_39_code 3 (none) 2 := ec_V1 (y := ⟨"WarmNight", "playAsTold", "(II)V"⟩) ⟨by decide +kernel, by decide +kernel, by decide +kernel⟩ ew_343 ew_344 ew_6 ew_345 ew_346
theorem ef_131 : ec_callV "WarmNight" 171 "WarmNight$Carriage" ⟨"WarmNight$Carriage", "hasMan", "(I)Z"⟩ prog_2_method_22_code 2 (some .boolean) 1 := ec_V1 (y := ⟨"WarmNight$Carriage", "hasMan", "(I)Z"⟩) ⟨by decide +kernel, by decide +kernel, by decide +kernel⟩ ew_347 ew_20 ew_2 ew_21 ew_22
theorem ef_132 : ec_callV "WarmNight" 174 "WarmNight$Night" ⟨"WarmNight$Night", "marginOf", "(II)I"⟩ prog_7_method_8_code 3 (some .int) 2 := ec_V1 (y := ⟨"WarmNight$Night", "marginOf", "(II)I"⟩) ⟨by decide +kernel, by decide +kernel, by decide +kernel⟩ ew_348 ew_145 ew_76 ew_146 ew_147
theorem ef_133 : ec_callS "WarmNight" 181 ⟨"WarmNight", "within", "(III)Z"⟩ prog_1_method_36_code 3 (some .boolean) 3 := ec_S1 ⟨by decide +kernel, by decide +kernel, by decide +kernel⟩ ew_349 ew_5 ew_6 ew_7
theorem ef_134 : ec_callV "WarmNight" 191 "WarmNight$Night" ⟨"WarmNight$Night", "worstOfAll", "()I"⟩ prog_7_method_9_code 1 (some .int) 0 := ec_V1 (y := ⟨"WarmNight$Night", "worstOfAll", "()I"⟩) ⟨by decide +kernel, by decide +kernel, by decide +kernel⟩ ew_350 ew_351 ew_76 ew_352 ew_353
theorem ef_135 : ec_callV "WarmNight" 194 "WarmNight$Night" ⟨"WarmNight$Night", "fallsAt", "()I"⟩ prog_7_method_10_code 1 (some .int) 0 := ec_V1 (y := ⟨"WarmNight$Night", "fallsAt", "()I"⟩) ⟨by decide +kernel, by decide +kernel, by decide +kernel⟩ ew_354 ew_150 ew_76 ew_151 ew_152
theorem ef_136 : ec_callV "WarmNight" 197 "WarmNight$Night" ⟨"WarmNight$Night", "firstLost", "()I"⟩ prog_7_method_11_code 2 (some .int) 0 := ec_V1 (y := ⟨"WarmNight$Night", "firstLost", "()I"⟩) ⟨by decide +kernel, by decide +kernel, by decide +kernel⟩ ew_355 ew_356 ew_76 ew_357 ew_358
theorem ef_137 : ec_callV "WarmNight" 200 "WarmNight$Night" ⟨"WarmNight$Night", "unfairness", "()I"⟩ prog_7_method_12_code 5 (some .int) 0 := ec_V1 (y := ⟨"WarmNight$Night", "unfairness", "()I"⟩) ⟨by decide +kernel, by decide +kernel, by decide +kernel⟩ ew_359 ew_360 ew_76 ew_361 ew_362
theorem ef_138 : ec_callV "WarmNight" 203 "WarmNight$Carriage" ⟨"WarmNight$Carriage", "quarters", "()I"⟩ prog_2_method_18_code 1 (some .int) 0 := ec_V1 (y := ⟨"WarmNight$Carriage", "quarters", "()I"⟩) ⟨by decide +kernel, by decide +kernel, by decide +kernel⟩ ew_363 ew_28 ew_2 ew_29 ew_30
theorem ef_139 : ec_callV "WarmNight" 207 "WarmNight$Search" ⟨"WarmNight$Search", "find", "(LWarmNight$Even;)V"⟩ prog_9_method_2_code 2 (none) 1 := ec_V1 (y := ⟨"WarmNight$Search", "find", "(LWarmNight$Even;)V"⟩) ⟨by decide +kernel, by decide +kernel, by decide +kernel⟩ ew_364 ew_365 ew_159 ew_366 ew_367
theorem ef_140 : ec_callV "WarmNight" 214 "WarmNight$Search" ⟨"WarmNight$Search", "piecesIn", "(I)I"⟩ prog_9_method_3_code 2 (some .int) 1 := ec_V1 (y := ⟨"WarmNight$Search", "piecesIn", "(I)I"⟩) ⟨by decide +kernel, by decide +kernel, by decide +kernel⟩ ew_368 ew_369 ew_159 ew_370 ew_371
theorem ef_141 : ec_callV "WarmNight" 218 "WarmNight$Carriage" ⟨"WarmNight$Carriage", "allSeats", "()I"⟩ prog_2_method_23_code 3 (some .int) 0 := ec_V1 (y := ⟨"WarmNight$Carriage", "allSeats", "()I"⟩) ⟨by decide +kernel, by decide +kernel, by decide +kernel⟩ ew_372 ew_373 ew_2 ew_374 ew_375
theorem ef_142 : ec_callV "WarmNight" 224 "WarmNight$Sharing" ⟨"WarmNight$Sharing", "shareSeats", "()V"⟩ prog_10_method_2_code 3 (none) 0 := ec_V1 (y := ⟨"WarmNight$Sharing", "shareSeats", "()V"⟩) ⟨by decide +kernel, by decide +kernel, by decide +kernel⟩ ew_376 ew_377 ew_173 ew_378 ew_379
theorem ef_143 : ec_callV "WarmNight" 233 "WarmNight$Sharing" ⟨"WarmNight$Sharing", "weighCoats", "(LWarmNight$Even;I)V"⟩ prog_10_method_7_code 4 (none) 2 := ec_V1 (y := ⟨"WarmNight$Sharing", "weighCoats", "(LWarmNight$Even;I)V"⟩) ⟨by decide +kernel, by decide +kernel, by decide +kernel⟩ ew_380 ew_381 ew_173 ew_382 ew_383
theorem ef_144 : ec_callV "WarmNight" 237 "WarmNight$Sharing" ⟨"WarmNight$Sharing", "bestCoats", "(I)I"⟩ prog_10_method_9_code 8 (some .int) 1 := ec_V1 (y := ⟨"WarmNight$Sharing", "bestCoats", "(I)I"⟩) ⟨by decide +kernel, by decide +kernel, by decide +kernel⟩ ew_384 ew_385 ew_173 ew_386 ew_387
theorem ef_145 : ec_callV "WarmNight" 240 "WarmNight$Sharing" ⟨"WarmNight$Sharing", "fewestCoats", "()I"⟩ prog_10_method_10_code 4 (some .int) 0 := ec_V1 (y := ⟨"WarmNight$Sharing", "fewestCoats", "()I"⟩) ⟨by decide +kernel, by decide +kernel, by decide +kernel⟩ ew_388 ew_389 ew_173 ew_390 ew_391
theorem ef_146 : ec_callV "WarmNight" 243 "WarmNight$Carriage" ⟨"WarmNight$Carriage", "helpAgainst", "(I)I"⟩ prog_2_method_24_code 4 (some .int) 1 := ec_V1 (y := ⟨"WarmNight$Carriage", "helpAgainst", "(I)I"⟩) ⟨by decide +kernel, by decide +kernel, by decide +kernel⟩ ew_392 ew_393 ew_2 ew_394 ew_395
theorem ef_147 : ec_callV "WarmNight" 246 "WarmNight" ⟨"WarmNight", "setFraction", "(II)V"⟩ prog_1_method_41_code 4 (none) 2 := ec_V1 (y := ⟨"WarmNight", "setFraction", "(II)V"⟩) ⟨by decide +kernel, by decide +kernel, by decide +kernel⟩ ew_396 ew_397 ew_6 ew_398 ew_399
theorem ef_148 : ec_callV "WarmNight" 249 "WarmNight" ⟨"WarmNight", "worstIfTurned", "(III)I"⟩ prog_1_method_40_code 4 (some .int) 3 := ec_V1 (y := ⟨"WarmNight", "worstIfTurned", "(III)I"⟩) ⟨by decide +kernel, by decide +kernel, by decide +kernel⟩ ew_400 ew_401 ew_6 ew_402 ew_403
theorem ef_149 : ec_callS "WarmNight" 257 ⟨"java/lang/Integer", "bitCount", "(I)I"⟩ prog_15_method_49_code 1 (some .int) 1 := ec_S1 ⟨by decide +kernel, by decide +kernel, by decide +kernel⟩ ew_404 ew_197 ew_198 ew_199
theorem ef_150 : ec_callV "WarmNight" 270 "WarmNight" ⟨"WarmNight", "count", "(I)I"⟩ prog_1_method_34_code 2 (some .int) 1 := ec_V1 (y := ⟨"WarmNight", "count", "(I)I"⟩) ⟨by decide +kernel, by decide +kernel, by decide +kernel⟩ ew_405 ew_406 ew_6 ew_407 ew_408
theorem ef_151 : ec_callS "WarmNight" 273 ⟨"WarmNight", "mixed", "(JJ)J"⟩ prog_1_method_38_code 4 (some .long) 2 := ec_S1 ⟨by decide +kernel, by decide +kernel, by decide +kernel⟩ ew_409 ew_31 ew_6 ew_32
theorem ef_152 : ec_callV "WarmNight" 277 "WarmNight$Carriage" ⟨"WarmNight$Carriage", "mixCells", "(J)J"⟩ prog_2_method_26_code 6 (some .long) 1 := ec_V1 (y := ⟨"WarmNight$Carriage", "mixCells", "(J)J"⟩) ⟨by decide +kernel, by decide +kernel, by decide +kernel⟩ ew_410 ew_411 ew_2 ew_412 ew_413
theorem ef_153 : ec_callV "WarmNight" 281 "WarmNight$Carriage" ⟨"WarmNight$Carriage", "mixQuarters", "(J)J"⟩ prog_2_method_27_code 6 (some .long) 1 := ec_V1 (y := ⟨"WarmNight$Carriage", "mixQuarters", "(J)J"⟩) ⟨by decide +kernel, by decide +kernel, by decide +kernel⟩ ew_414 ew_415 ew_2 ew_416 ew_417
theorem ef_154 : ec_callV "WarmNight" 284 "WarmNight$Carriage" ⟨"WarmNight$Carriage", "mixPeople", "(J)J"⟩ prog_2_method_28_code 6 (some .long) 1 := ec_V1 (y := ⟨"WarmNight$Carriage", "mixPeople", "(J)J"⟩) ⟨by decide +kernel, by decide +kernel, by decide +kernel⟩ ew_418 ew_419 ew_2 ew_420 ew_421
theorem ef_155 : ec_callV "WarmNight" 292 "WarmNight$Night" ⟨"WarmNight$Night", "play", "(LWarmNight$Even;III)V"⟩ prog_7_method_2_code 6 (none) 4 := ec_V1 (y := ⟨"WarmNight$Night", "play", "(LWarmNight$Even;III)V"⟩) ⟨by decide +kernel, by decide +kernel, by decide +kernel⟩ ew_422 ew_193 ew_76 ew_194 ew_195
theorem ef_156 : ec_callS "WarmNight" 296 ⟨"WarmNight", "commonDivisor", "(II)I"⟩ prog_1_method_42_code 6 (some .int) 2 := ec_S1 ⟨by decide +kernel, by decide +kernel, by decide +kernel⟩ ew_423 ew_424 ew_6 ew_425
theorem ef_157 : ec_callV "WarmNightModel" 74 "WarmNightModel" ⟨"WarmNightModel", "begins", "()V"⟩ prog_14_method_4_code 2 (none) 0 := ec_V1 (y := ⟨"WarmNightModel", "begins", "()V"⟩) ⟨by decide +kernel, by decide +kernel, by decide +kernel⟩ ew_426 ew_427 ew_428 ew_429 ew_430
theorem ef_158 : ec_callS "WarmNightModel" 81 ⟨"WarmNightModel", "divisor", "(JJ)J"⟩ prog_14_method_5_code 10 (some .long) 2 := ec_S1 ⟨by decide +kernel, by decide +kernel, by decide +kernel⟩ ew_431 ew_432 ew_428 ew_433
theorem ef_159 : ec_callS "WarmNightModel" 91 ⟨"WarmNightModel", "mostOf", "(I)I"⟩ prog_14_method_9_code 1 (some .int) 1 := ec_S1 ⟨by decide +kernel, by decide +kernel, by decide +kernel⟩ ew_434 ew_435 ew_428 ew_436
theorem ef_160 : ec_callS "WarmNightModel" 95 ⟨"WarmNightModel", "in", "(JJJ)Z"⟩ prog_14_method_2_code 6 (some .boolean) 3 := ec_S1 ⟨by decide +kernel, by decide +kernel, by decide +kernel⟩ ew_437 ew_438 ew_428 ew_439
theorem ef_161 : ec_callV "WarmNightModel" 99 "WarmNightModel" ⟨"WarmNightModel", "sets", "(II)I"⟩ prog_14_method_7_code 4 (some .int) 2 := ec_V1 (y := ⟨"WarmNightModel", "sets", "(II)I"⟩) ⟨by decide +kernel, by decide +kernel, by decide +kernel⟩ ew_440 ew_441 ew_428 ew_442 ew_443
theorem ef_162 : ec_callS "WarmNightModel" 112 ⟨"WarmNightModel", "isCell", "(I)Z"⟩ prog_14_method_11_code 1 (some .boolean) 1 := ec_S1 ⟨by decide +kernel, by decide +kernel, by decide +kernel⟩ ew_444 ew_445 ew_428 ew_446
theorem ef_163 : ec_callS "WarmNightModel" 116 ⟨"WarmNightModel", "isWarm", "(I)Z"⟩ prog_14_method_13_code 1 (some .boolean) 1 := ec_S1 ⟨by decide +kernel, by decide +kernel, by decide +kernel⟩ ew_447 ew_448 ew_428 ew_449
theorem ef_164 : ec_callV "WarmNightModel" 127 "WarmNightModel" ⟨"WarmNightModel", "turns", "(IZ)I"⟩ prog_14_method_8_code 4 (some .int) 2 := ec_V1 (y := ⟨"WarmNightModel", "turns", "(IZ)I"⟩) ⟨by decide +kernel, by decide +kernel, by decide +kernel⟩ ew_450 ew_451 ew_428 ew_452 ew_453
theorem ef_165 : ec_callS "WarmNightModel" 131 ⟨"WarmNightModel", "isQuarter", "(I)Z"⟩ prog_14_method_12_code 1 (some .boolean) 1 := ec_S1 ⟨by decide +kernel, by decide +kernel, by decide +kernel⟩ ew_454 ew_455 ew_428 ew_456
theorem ef_166 : ec_callV "WarmNightModel" 147 "WarmNightModel" ⟨"WarmNightModel", "isMan", "(I)Z"⟩ prog_14_method_20_code 2 (some .boolean) 1 := ec_V1 (y := ⟨"WarmNightModel", "isMan", "(I)Z"⟩) ⟨by decide +kernel, by decide +kernel, by decide +kernel⟩ ew_457 ew_458 ew_428 ew_459 ew_460
theorem ef_167 : ec_callV "WarmNightModel" 179 "WarmNightModel" ⟨"WarmNightModel", "isAt", "(II)Z"⟩ prog_14_method_27_code 3 (some .boolean) 2 := ec_V1 (y := ⟨"WarmNightModel", "isAt", "(II)Z"⟩) ⟨by decide +kernel, by decide +kernel, by decide +kernel⟩ ew_461 ew_462 ew_428 ew_463 ew_464
theorem ef_168 : ec_callS "WarmNightModel" 193 ⟨"WarmNightModel", "wordOf", "(J)I"⟩ prog_14_method_28_code 4 (some .int) 1 := ec_S1 ⟨by decide +kernel, by decide +kernel, by decide +kernel⟩ ew_465 ew_466 ew_428 ew_467
theorem ef_169 : ec_callV "WarmNightModel" 205 "WarmNightModel" ⟨"WarmNightModel", "scans", "()V"⟩ prog_14_method_29_code 3 (none) 0 := ec_V1 (y := ⟨"WarmNightModel", "scans", "()V"⟩) ⟨by decide +kernel, by decide +kernel, by decide +kernel⟩ ew_468 ew_469 ew_428 ew_470 ew_471
theorem ef_170 : ec_callS "WarmNightModel" 208 ⟨"WarmNightModel", "numbers", "(I)I"⟩ prog_14_method_30_code 1 (some .int) 1 := ec_S1 ⟨by decide +kernel, by decide +kernel, by decide +kernel⟩ ew_472 ew_473 ew_428 ew_474
theorem ef_171 : ec_callV "WarmNightModel" 211 "WarmNightModel" ⟨"WarmNightModel", "put", "(II)I"⟩ prog_14_method_10_code 3 (some .int) 2 := ec_V1 (y := ⟨"WarmNightModel", "put", "(II)I"⟩) ⟨by decide +kernel, by decide +kernel, by decide +kernel⟩ ew_475 ew_476 ew_428 ew_477 ew_478
theorem ef_172 : ec_callV "WarmNightModel" 214 "WarmNightModel" ⟨"WarmNightModel", "cell", "(IIII)I"⟩ prog_14_method_14_code 5 (some .int) 4 := ec_V1 (y := ⟨"WarmNightModel", "cell", "(IIII)I"⟩) ⟨by decide +kernel, by decide +kernel, by decide +kernel⟩ ew_479 ew_480 ew_428 ew_481 ew_482
theorem ef_173 : ec_callV "WarmNightModel" 218 "WarmNightModel" ⟨"WarmNightModel", "pass", "(II)I"⟩ prog_14_method_15_code 3 (some .int) 2 := ec_V1 (y := ⟨"WarmNightModel", "pass", "(II)I"⟩) ⟨by decide +kernel, by decide +kernel, by decide +kernel⟩ ew_483 ew_484 ew_428 ew_485 ew_486
theorem ef_174 : ec_callV "WarmNightModel" 221 "WarmNightModel" ⟨"WarmNightModel", "hang", "(IZ)I"⟩ prog_14_method_16_code 3 (some .int) 2 := ec_V1 (y := ⟨"WarmNightModel", "hang", "(IZ)I"⟩) ⟨by decide +kernel, by decide +kernel, by decide +kernel⟩ ew_487 ew_488 ew_428 ew_489 ew_490
theorem ef_175 : ec_callV "WarmNightModel" 224 "WarmNightModel" ⟨"WarmNightModel", "cold", "(III)I"⟩ prog_14_method_17_code 6 (some .int) 3 := ec_V1 (y := ⟨"WarmNightModel", "cold", "(III)I"⟩) ⟨by decide +kernel, by decide +kernel, by decide +kernel⟩ ew_491 ew_492 ew_428 ew_493 ew_494
theorem ef_176 : ec_callV "WarmNightModel" 228 "WarmNightModel" ⟨"WarmNightModel", "help", "(II)I"⟩ prog_14_method_18_code 3 (some .int) 2 := ec_V1 (y := ⟨"WarmNightModel", "help", "(II)I"⟩) ⟨by decide +kernel, by decide +kernel, by decide +kernel⟩ ew_495 ew_496 ew_428 ew_497 ew_498
theorem ef_177 : ec_callV "WarmNightModel" 231 "WarmNightModel" ⟨"WarmNightModel", "man", "(IIIII)I"⟩ prog_14_method_19_code 7 (some .int) 5 := ec_V1 (y := ⟨"WarmNightModel", "man", "(IIIII)I"⟩) ⟨by decide +kernel, by decide +kernel, by decide +kernel⟩ ew_499 ew_500 ew_428 ew_501 ew_502
theorem ef_178 : ec_callV "WarmNightModel" 235 "WarmNightModel" ⟨"WarmNightModel", "coat", "(IZ)I"⟩ prog_14_method_21_code 3 (some .int) 2 := ec_V1 (y := ⟨"WarmNightModel", "coat", "(IZ)I"⟩) ⟨by decide +kernel, by decide +kernel, by decide +kernel⟩ ew_503 ew_504 ew_428 ew_505 ew_506
theorem ef_179 : ec_callV "WarmNightModel" 238 "WarmNightModel" ⟨"WarmNightModel", "broken", "(III)I"⟩ prog_14_method_22_code 5 (some .int) 3 := ec_V1 (y := ⟨"WarmNightModel", "broken", "(III)I"⟩) ⟨by decide +kernel, by decide +kernel, by decide +kernel⟩ ew_507 ew_508 ew_428 ew_509 ew_510
theorem ef_180 : ec_callV "WarmNightModel" 241 "WarmNightModel" ⟨"WarmNightModel", "open", "(IZ)I"⟩ prog_14_method_23_code 3 (some .int) 2 := ec_V1 (y := ⟨"WarmNightModel", "open", "(IZ)I"⟩) ⟨by decide +kernel, by decide +kernel, by decide +kernel⟩ ew_511 ew_512 ew_428 ew_513 ew_514
theorem ef_181 : ec_callV "WarmNightModel" 244 "WarmNightModel" ⟨"WarmNightModel", "reads", "()Z"⟩ prog_14_method_31_code 3 (some .boolean) 0 := ec_V1 (y := ⟨"WarmNightModel", "reads", "()Z"⟩) ⟨by decide +kernel, by decide +kernel, by decide +kernel⟩ ew_515 ew_516 ew_428 ew_517 ew_518
theorem ef_182 : ec_callV "WarmNightModel" 248 "WarmNightModel" ⟨"WarmNightModel", "tellsItem", "(I)I"⟩ prog_14_method_32_code 5 (some .int) 1 := ec_V1 (y := ⟨"WarmNightModel", "tellsItem", "(I)I"⟩) ⟨by decide +kernel, by decide +kernel, by decide +kernel⟩ ew_519 ew_520 ew_428 ew_521 ew_522
theorem ef_183 : ec_callV "WarmNightModel" 251 "WarmNightModel" ⟨"WarmNightModel", "lastOf", "(I)I"⟩ prog_14_method_34_code 2 (some .int) 1 := ec_V1 (y := ⟨"WarmNightModel", "lastOf", "(I)I"⟩) ⟨by decide +kernel, by decide +kernel, by decide +kernel⟩ ew_523 ew_524 ew_428 ew_525 ew_526
theorem ef_184 : ec_callV "WarmNightModel" 254 "WarmNightModel" ⟨"WarmNightModel", "lowest", "()I"⟩ prog_14_method_36_code 2 (some .int) 0 := ec_V1 (y := ⟨"WarmNightModel", "lowest", "()I"⟩) ⟨by decide +kernel, by decide +kernel, by decide +kernel⟩ ew_527 ew_528 ew_428 ew_529 ew_530
theorem ef_185 : ec_callV "WarmNightModel" 258 "WarmNightModel" ⟨"WarmNightModel", "highest", "()I"⟩ prog_14_method_37_code 1 (some .int) 0 := ec_V1 (y := ⟨"WarmNightModel", "highest", "()I"⟩) ⟨by decide +kernel, by decide +kernel, by decide +kernel⟩ ew_531 ew_532 ew_428 ew_533 ew_534
theorem ef_186 : ec_callV "WarmNightModel" 261 "WarmNightModel" ⟨"WarmNightModel", "wants", "(III)I"⟩ prog_14_method_39_code 6 (some .int) 3 := ec_V1 (y := ⟨"WarmNightModel", "wants", "(III)I"⟩) ⟨by decide +kernel, by decide +kernel, by decide +kernel⟩ ew_535 ew_536 ew_428 ew_537 ew_538
theorem ef_187 : ec_callV "WarmNightModel" 264 "WarmNightModel" ⟨"WarmNightModel", "isHung", "(II)Z"⟩ prog_14_method_40_code 3 (some .boolean) 2 := ec_V1 (y := ⟨"WarmNightModel", "isHung", "(II)Z"⟩) ⟨by decide +kernel, by decide +kernel, by decide +kernel⟩ ew_539 ew_540 ew_428 ew_541 ew_542
theorem ef_188 : ec_callV "WarmNightModel" 267 "WarmNightModel" ⟨"WarmNightModel", "seatOf", "(III)I"⟩ prog_14_method_38_code 5 (some .int) 3 := ec_V1 (y := ⟨"WarmNightModel", "seatOf", "(III)I"⟩) ⟨by decide +kernel, by decide +kernel, by decide +kernel⟩ ew_543 ew_544 ew_428 ew_545 ew_546
theorem ef_189 : ec_callV "WarmNightModel" 270 "WarmNightModel" ⟨"WarmNightModel", "lossOf", "(II)I"⟩ prog_14_method_35_code 6 (some .int) 2 := ec_V1 (y := ⟨"WarmNightModel", "lossOf", "(II)I"⟩) ⟨by decide +kernel, by decide +kernel, by decide +kernel⟩ ew_547 ew_548 ew_428 ew_549 ew_550
theorem ef_190 : ec_callV "WarmNightModel" 283 "WarmNightModel" ⟨"WarmNightModel", "feelsIn", "(IIIZ)I"⟩ prog_14_method_42_code 5 (some .int) 4 := ec_V1 (y := ⟨"WarmNightModel", "feelsIn", "(IIIZ)I"⟩) ⟨by decide +kernel, by decide +kernel, by decide +kernel⟩ ew_551 ew_552 ew_428 ew_553 ew_554
theorem ef_191 : ec_callV "WarmNightModel" 287 "WarmNightModel" ⟨"WarmNightModel", "passesNight", "(II)V"⟩ prog_14_method_41_code 9 (none) 2 := ec_V1 (y := ⟨"WarmNightModel", "passesNight", "(II)V"⟩) ⟨by decide +kernel, by decide +kernel, by decide +kernel⟩ ew_555 ew_556 ew_428 ew_557 ew_558
theorem ef_192 : ec_callV "WarmNightModel" 291 "WarmNightModel" ⟨"WarmNightModel", "told", "()I"⟩ prog_14_method_43_code 3 (some .int) 0 := ec_V1 (y := ⟨"WarmNightModel", "told", "()I"⟩) ⟨by decide +kernel, by decide +kernel, by decide +kernel⟩ ew_559 ew_560 ew_428 ew_561 ew_562
theorem ef_193 : ec_callV "WarmNightModel" 294 "WarmNightModel" ⟨"WarmNightModel", "judges", "(II)V"⟩ prog_14_method_44_code 8 (none) 2 := ec_V1 (y := ⟨"WarmNightModel", "judges", "(II)V"⟩) ⟨by decide +kernel, by decide +kernel, by decide +kernel⟩ ew_563 ew_564 ew_428 ew_565 ew_566
theorem ef_194 : ec_callS "WarmNightModel" 299 ⟨"WarmNightModel", "isRule", "(II)Z"⟩ prog_14_method_46_code 2 (some .boolean) 2 := ec_S1 ⟨by decide +kernel, by decide +kernel, by decide +kernel⟩ ew_567 ew_568 ew_428 ew_569
theorem ef_195 : ec_callV "WarmNightModel" 302 "WarmNightModel" ⟨"WarmNightModel", "isIn", "(I)Z"⟩ prog_14_method_47_code 2 (some .boolean) 1 := ec_V1 (y := ⟨"WarmNightModel", "isIn", "(I)Z"⟩) ⟨by decide +kernel, by decide +kernel, by decide +kernel⟩ ew_570 ew_571 ew_428 ew_572 ew_573
theorem ef_196 : ec_callV "WarmNightModel" 305 "WarmNightModel" ⟨"WarmNightModel", "nights", "(II)V"⟩ prog_14_method_45_code 3 (none) 2 := ec_V1 (y := ⟨"WarmNightModel", "nights", "(II)V"⟩) ⟨by decide +kernel, by decide +kernel, by decide +kernel⟩ ew_574 ew_575 ew_428 ew_576 ew_577
theorem ef_197 : ec_callV "WarmNightModel" 312 "WarmNightModel" ⟨"WarmNightModel", "findBest", "()Z"⟩ prog_14_method_54_code 11 (some .boolean) 0 := ec_V1 (y := ⟨"WarmNightModel", "findBest", "()Z"⟩) ⟨by decide +kernel, by decide +kernel, by decide +kernel⟩ ew_578 ew_579 ew_428 ew_580 ew_581
theorem ef_198 : ec_callV "WarmNightModel" 315 "WarmNightModel" ⟨"WarmNightModel", "isOk", "(IIII)Z"⟩ prog_14_method_57_code 5 (some .boolean) 4 := ec_V1 (y := ⟨"WarmNightModel", "isOk", "(IIII)Z"⟩) ⟨by decide +kernel, by decide +kernel, by decide +kernel⟩ ew_582 ew_583 ew_428 ew_584 ew_585
theorem ef_199 : ec_callV "WarmNightModel" 319 "WarmNightModel" ⟨"WarmNightModel", "moves", "(II)V"⟩ prog_14_method_59_code 7 (none) 2 := ec_V1 (y := ⟨"WarmNightModel", "moves", "(II)V"⟩) ⟨by decide +kernel, by decide +kernel, by decide +kernel⟩ ew_586 ew_587 ew_428 ew_588 ew_589
theorem ef_200 : ec_callV "WarmNightModel" 322 "WarmNightModel" ⟨"WarmNightModel", "places", "(III)Z"⟩ prog_14_method_58_code 9 (some .boolean) 3 := ec_V1 (y := ⟨"WarmNightModel", "places", "(III)Z"⟩) ⟨by decide +kernel, by decide +kernel, by decide +kernel⟩ ew_590 ew_591 ew_428 ew_592 ew_593
theorem ef_201 : ec_callV "WarmNightModel" 326 "WarmNightModel" ⟨"WarmNightModel", "seats", "(II)Z"⟩ prog_14_method_60_code 5 (some .boolean) 2 := ec_V1 (y := ⟨"WarmNightModel", "seats", "(II)Z"⟩) ⟨by decide +kernel, by decide +kernel, by decide +kernel⟩ ew_594 ew_595 ew_428 ew_596 ew_597
theorem ef_202 : ec_callV "WarmNightModel" 329 "WarmNightModel" ⟨"WarmNightModel", "bestMargin", "()I"⟩ prog_14_method_61_code 5 (some .int) 0 := ec_V1 (y := ⟨"WarmNightModel", "bestMargin", "()I"⟩) ⟨by decide +kernel, by decide +kernel, by decide +kernel⟩ ew_598 ew_599 ew_428 ew_600 ew_601
theorem ef_203 : ec_callS "WarmNightModel" 332 ⟨"WarmNightModel", "sizeOf", "(I)I"⟩ prog_14_method_63_code 3 (some .int) 1 := ec_S1 ⟨by decide +kernel, by decide +kernel, by decide +kernel⟩ ew_602 ew_603 ew_428 ew_604
theorem ef_204 : ec_callV "WarmNightModel" 335 "WarmNightModel" ⟨"WarmNightModel", "allHelp", "()I"⟩ prog_14_method_66_code 3 (some .int) 0 := ec_V1 (y := ⟨"WarmNightModel", "allHelp", "()I"⟩) ⟨by decide +kernel, by decide +kernel, by decide +kernel⟩ ew_605 ew_606 ew_428 ew_607 ew_608
theorem ef_205 : ec_callV "WarmNightModel" 338 "WarmNightModel" ⟨"WarmNightModel", "savedBy", "(II)I"⟩ prog_14_method_67_code 5 (some .int) 2 := ec_V1 (y := ⟨"WarmNightModel", "savedBy", "(II)I"⟩) ⟨by decide +kernel, by decide +kernel, by decide +kernel⟩ ew_609 ew_610 ew_428 ew_611 ew_612
theorem ef_206 : ec_callV "WarmNightModel" 341 "WarmNightModel" ⟨"WarmNightModel", "tells", "(JJ)I"⟩ prog_14_method_6_code 7 (some .int) 2 := ec_V1 (y := ⟨"WarmNightModel", "tells", "(JJ)I"⟩) ⟨by decide +kernel, by decide +kernel, by decide +kernel⟩ ew_613 ew_614 ew_428 ew_615 ew_616
theorem ef_207 : ec_callV "WarmNightModel" 347 "WarmNightModel" ⟨"WarmNightModel", "worthOf", "(III)I"⟩ prog_14_method_70_code 6 (some .int) 3 := ec_V1 (y := ⟨"WarmNightModel", "worthOf", "(III)I"⟩) ⟨by decide +kernel, by decide +kernel, by decide +kernel⟩ ew_617 ew_618 ew_428 ew_619 ew_620
theorem ef_208 : ec_callV "WarmNightModel" 352 "WarmNightModel" ⟨"WarmNightModel", "countOf", "(I)I"⟩ prog_14_method_76_code 2 (some .int) 1 := ec_V1 (y := ⟨"WarmNightModel", "countOf", "(I)I"⟩) ⟨by decide +kernel, by decide +kernel, by decide +kernel⟩ ew_621 ew_622 ew_428 ew_623 ew_624
theorem ef_209 : ec_callV "WarmNightModel" 359 "WarmNightModel" ⟨"WarmNightModel", "mixed", "(JII)J"⟩ prog_14_method_78_code 8 (some .long) 3 := ec_V1 (y := ⟨"WarmNightModel", "mixed", "(JII)J"⟩) ⟨by decide +kernel, by decide +kernel, by decide +kernel⟩ ew_625 ew_626 ew_428 ew_627 ew_628
theorem ef_210 : ec_callI "WarmNightLaw" 9 ⟨"WarmNight", "<init>", "()V"⟩ prog_1_method_1_code 2 (none) 0 := ec_I1 ⟨by decide +kernel, by decide +kernel, by decide +kernel⟩ rfl ew_629 ew_6 ew_630 ew_631
theorem ef_211 : ec_callI "WarmNightLaw" 12 ⟨"WarmNightModel", "<init>", "()V"⟩ prog_14_method_3_code 1 (none) 0 := ec_I1 ⟨by decide +kernel, by decide +kernel, by decide +kernel⟩ rfl ew_632 ew_428 ew_633 ew_634
theorem ef_212 : ec_callV "WarmNightLaw" 13 "WarmNight" ⟨"WarmNight", "put", "(II)I"⟩ prog_1_method_2_code 3 (some .int) 2 := ec_V1 (y := ⟨"WarmNight", "put", "(II)I"⟩) ⟨by decide +kernel, by decide +kernel, by decide +kernel⟩ ew_635 ew_636 ew_6 ew_637 ew_638
theorem ef_213 : ec_callV "WarmNightLaw" 17 "WarmNightModel" ⟨"WarmNightModel", "put", "(II)I"⟩ prog_14_method_10_code 3 (some .int) 2 := ec_V1 (y := ⟨"WarmNightModel", "put", "(II)I"⟩) ⟨by decide +kernel, by decide +kernel, by decide +kernel⟩ ew_639 ew_476 ew_428 ew_477 ew_478
theorem ef_214 : ec_callV "WarmNightLaw" 18 "WarmNight" ⟨"WarmNight", "cell", "(IIII)I"⟩ prog_1_method_3_code 5 (some .int) 4 := ec_V1 (y := ⟨"WarmNight", "cell", "(IIII)I"⟩) ⟨by decide +kernel, by decide +kernel, by decide +kernel⟩ ew_640 ew_641 ew_6 ew_642 ew_643
theorem ef_215 : ec_callV "WarmNightLaw" 22 "WarmNightModel" ⟨"WarmNightModel", "cell", "(IIII)I"⟩ prog_14_method_14_code 5 (some .int) 4 := ec_V1 (y := ⟨"WarmNightModel", "cell", "(IIII)I"⟩) ⟨by decide +kernel, by decide +kernel, by decide +kernel⟩ ew_644 ew_480 ew_428 ew_481 ew_482
theorem ef_216 : ec_callV "WarmNightLaw" 23 "WarmNight" ⟨"WarmNight", "pass", "(II)I"⟩ prog_1_method_4_code 3 (some .int) 2 := ec_V1 (y := ⟨"WarmNight", "pass", "(II)I"⟩) ⟨by decide +kernel, by decide +kernel, by decide +kernel⟩ ew_645 ew_646 ew_6 ew_647 ew_648
theorem ef_217 : ec_callV "WarmNightLaw" 26 "WarmNightModel" ⟨"WarmNightModel", "pass", "(II)I"⟩ prog_14_method_15_code 3 (some .int) 2 := ec_V1 (y := ⟨"WarmNightModel", "pass", "(II)I"⟩) ⟨by decide +kernel, by decide +kernel, by decide +kernel⟩ ew_649 ew_484 ew_428 ew_485 ew_486
theorem ef_218 : ec_callV "WarmNightLaw" 27 "WarmNight" ⟨"WarmNight", "hang", "(IZ)I"⟩ prog_1_method_5_code 3 (some .int) 2 := ec_V1 (y := ⟨"WarmNight", "hang", "(IZ)I"⟩) ⟨by decide +kernel, by decide +kernel, by decide +kernel⟩ ew_650 ew_651 ew_6 ew_652 ew_653
theorem ef_219 : ec_callV "WarmNightLaw" 31 "WarmNightModel" ⟨"WarmNightModel", "hang", "(IZ)I"⟩ prog_14_method_16_code 3 (some .int) 2 := ec_V1 (y := ⟨"WarmNightModel", "hang", "(IZ)I"⟩) ⟨by decide +kernel, by decide +kernel, by decide +kernel⟩ ew_654 ew_488 ew_428 ew_489 ew_490
theorem ef_220 : ec_callV "WarmNightLaw" 32 "WarmNight" ⟨"WarmNight", "cold", "(III)I"⟩ prog_1_method_6_code 4 (some .int) 3 := ec_V1 (y := ⟨"WarmNight", "cold", "(III)I"⟩) ⟨by decide +kernel, by decide +kernel, by decide +kernel⟩ ew_655 ew_656 ew_6 ew_657 ew_658
theorem ef_221 : ec_callV "WarmNightLaw" 36 "WarmNightModel" ⟨"WarmNightModel", "cold", "(III)I"⟩ prog_14_method_17_code 6 (some .int) 3 := ec_V1 (y := ⟨"WarmNightModel", "cold", "(III)I"⟩) ⟨by decide +kernel, by decide +kernel, by decide +kernel⟩ ew_659 ew_492 ew_428 ew_493 ew_494
theorem ef_222 : ec_callV "WarmNightLaw" 37 "WarmNight" ⟨"WarmNight", "help", "(II)I"⟩ prog_1_method_7_code 3 (some .int) 2 := ec_V1 (y := ⟨"WarmNight", "help", "(II)I"⟩) ⟨by decide +kernel, by decide +kernel, by decide +kernel⟩ ew_660 ew_661 ew_6 ew_662 ew_663
theorem ef_223 : ec_callV "WarmNightLaw" 40 "WarmNightModel" ⟨"WarmNightModel", "help", "(II)I"⟩ prog_14_method_18_code 3 (some .int) 2 := ec_V1 (y := ⟨"WarmNightModel", "help", "(II)I"⟩) ⟨by decide +kernel, by decide +kernel, by decide +kernel⟩ ew_664 ew_496 ew_428 ew_497 ew_498
theorem ef_224 : ec_callV "WarmNightLaw" 41 "WarmNight" ⟨"WarmNight", "man", "(IIIII)I"⟩ prog_1_method_8_code 6 (some .int) 5 := ec_V1 (y := ⟨"WarmNight", "man", "(IIIII)I"⟩) ⟨by decide +kernel, by decide +kernel, by decide +kernel⟩ ew_665 ew_666 ew_6 ew_667 ew_668
theorem ef_225 : ec_callV "WarmNightLaw" 45 "WarmNightModel" ⟨"WarmNightModel", "man", "(IIIII)I"⟩ prog_14_method_19_code 7 (some .int) 5 := ec_V1 (y := ⟨"WarmNightModel", "man", "(IIIII)I"⟩) ⟨by decide +kernel, by decide +kernel, by decide +kernel⟩ ew_669 ew_500 ew_428 ew_501 ew_502
theorem ef_226 : ec_callV "WarmNightLaw" 46 "WarmNight" ⟨"WarmNight", "coat", "(IZ)I"⟩ prog_1_method_9_code 3 (some .int) 2 := ec_V1 (y := ⟨"WarmNight", "coat", "(IZ)I"⟩) ⟨by decide +kernel, by decide +kernel, by decide +kernel⟩ ew_670 ew_671 ew_6 ew_672 ew_673
theorem ef_227 : ec_callV "WarmNightLaw" 49 "WarmNightModel" ⟨"WarmNightModel", "coat", "(IZ)I"⟩ prog_14_method_21_code 3 (some .int) 2 := ec_V1 (y := ⟨"WarmNightModel", "coat", "(IZ)I"⟩) ⟨by decide +kernel, by decide +kernel, by decide +kernel⟩ ew_674 ew_504 ew_428 ew_505 ew_506
theorem ef_228 : ec_callV "WarmNightLaw" 50 "WarmNight" ⟨"WarmNight", "broken", "(III)I"⟩ prog_1_method_10_code 4 (some .int) 3 := ec_V1 (y := ⟨"WarmNight", "broken", "(III)I"⟩) ⟨by decide +kernel, by decide +kernel, by decide +kernel⟩ ew_675 ew_676 ew_6 ew_677 ew_678
theorem ef_229 : ec_callV "WarmNightLaw" 53 "WarmNightModel" ⟨"WarmNightModel", "broken", "(III)I"⟩ prog_14_method_22_code 5 (some .int) 3 := ec_V1 (y := ⟨"WarmNightModel", "broken", "(III)I"⟩) ⟨by decide +kernel, by decide +kernel, by decide +kernel⟩ ew_679 ew_508 ew_428 ew_509 ew_510
theorem ef_230 : ec_callV "WarmNightLaw" 54 "WarmNight" ⟨"WarmNight", "open", "(IZ)I"⟩ prog_1_method_11_code 3 (some .int) 2 := ec_V1 (y := ⟨"WarmNight", "open", "(IZ)I"⟩) ⟨by decide +kernel, by decide +kernel, by decide +kernel⟩ ew_680 ew_681 ew_6 ew_682 ew_683
theorem ef_231 : ec_callV "WarmNightLaw" 57 "WarmNightModel" ⟨"WarmNightModel", "open", "(IZ)I"⟩ prog_14_method_23_code 3 (some .int) 2 := ec_V1 (y := ⟨"WarmNightModel", "open", "(IZ)I"⟩) ⟨by decide +kernel, by decide +kernel, by decide +kernel⟩ ew_684 ew_512 ew_428 ew_513 ew_514
theorem ef_232 : ec_callV "WarmNightLaw" 58 "WarmNight" ⟨"WarmNight", "plan", "(II)I"⟩ prog_1_method_12_code 3 (some .int) 2 := ec_V1 (y := ⟨"WarmNight", "plan", "(II)I"⟩) ⟨by decide +kernel, by decide +kernel, by decide +kernel⟩ ew_685 ew_686 ew_6 ew_687 ew_688
theorem ef_233 : ec_callV "WarmNightLaw" 61 "WarmNightModel" ⟨"WarmNightModel", "plan", "(II)I"⟩ prog_14_method_24_code 3 (some .int) 2 := ec_V1 (y := ⟨"WarmNightModel", "plan", "(II)I"⟩) ⟨by decide +kernel, by decide +kernel, by decide +kernel⟩ ew_689 ew_690 ew_428 ew_691 ew_692
theorem ef_234 : ec_callV "WarmNightLaw" 64 "WarmNight" ⟨"WarmNight", "type", "(JI)I"⟩ prog_1_method_13_code 4 (some .int) 2 := ec_V1 (y := ⟨"WarmNight", "type", "(JI)I"⟩) ⟨by decide +kernel, by decide +kernel, by decide +kernel⟩ ew_693 ew_694 ew_6 ew_695 ew_696
theorem ef_235 : ec_callV "WarmNightLaw" 68 "WarmNightModel" ⟨"WarmNightModel", "type", "(JI)I"⟩ prog_14_method_25_code 5 (some .int) 2 := ec_V1 (y := ⟨"WarmNightModel", "type", "(JI)I"⟩) ⟨by decide +kernel, by decide +kernel, by decide +kernel⟩ ew_697 ew_698 ew_428 ew_699 ew_700
theorem ef_236 : ec_callV "WarmNightLaw" 69 "WarmNight" ⟨"WarmNight", "clear", "()I"⟩ prog_1_method_14_code 1 (some .int) 0 := ec_V1 (y := ⟨"WarmNight", "clear", "()I"⟩) ⟨by decide +kernel, by decide +kernel, by decide +kernel⟩ ew_701 ew_702 ew_6 ew_703 ew_704
theorem ef_237 : ec_callV "WarmNightLaw" 73 "WarmNightModel" ⟨"WarmNightModel", "clear", "()I"⟩ prog_14_method_26_code 2 (some .int) 0 := ec_V1 (y := ⟨"WarmNightModel", "clear", "()I"⟩) ⟨by decide +kernel, by decide +kernel, by decide +kernel⟩ ew_705 ew_706 ew_428 ew_707 ew_708
theorem ef_238 : ec_callV "WarmNightLaw" 74 "WarmNight" ⟨"WarmNight", "carriage", "()I"⟩ prog_1_method_15_code 3 (some .int) 0 := ec_V1 (y := ⟨"WarmNight", "carriage", "()I"⟩) ⟨by decide +kernel, by decide +kernel, by decide +kernel⟩ ew_709 ew_710 ew_6 ew_711 ew_712
theorem ef_239 : ec_callV "WarmNightLaw" 77 "WarmNightModel" ⟨"WarmNightModel", "carriage", "()I"⟩ prog_14_method_33_code 3 (some .int) 0 := ec_V1 (y := ⟨"WarmNightModel", "carriage", "()I"⟩) ⟨by decide +kernel, by decide +kernel, by decide +kernel⟩ ew_713 ew_714 ew_428 ew_715 ew_716
theorem ef_240 : ec_callV "WarmNightLaw" 78 "WarmNight" ⟨"WarmNight", "warmth", "(IIII)I"⟩ prog_1_method_16_code 5 (some .int) 4 := ec_V1 (y := ⟨"WarmNight", "warmth", "(IIII)I"⟩) ⟨by decide +kernel, by decide +kernel, by decide +kernel⟩ ew_717 ew_718 ew_6 ew_719 ew_720
theorem ef_241 : ec_callV "WarmNightLaw" 81 "WarmNightModel" ⟨"WarmNightModel", "warmth", "(IIII)I"⟩ prog_14_method_48_code 5 (some .int) 4 := ec_V1 (y := ⟨"WarmNightModel", "warmth", "(IIII)I"⟩) ⟨by decide +kernel, by decide +kernel, by decide +kernel⟩ ew_721 ew_722 ew_428 ew_723 ew_724
theorem ef_242 : ec_callV "WarmNightLaw" 82 "WarmNight" ⟨"WarmNight", "feels", "(IIII)I"⟩ prog_1_method_17_code 5 (some .int) 4 := ec_V1 (y := ⟨"WarmNight", "feels", "(IIII)I"⟩) ⟨by decide +kernel, by decide +kernel, by decide +kernel⟩ ew_725 ew_726 ew_6 ew_727 ew_728
theorem ef_243 : ec_callV "WarmNightLaw" 85 "WarmNightModel" ⟨"WarmNightModel", "feels", "(IIII)I"⟩ prog_14_method_49_code 5 (some .int) 4 := ec_V1 (y := ⟨"WarmNightModel", "feels", "(IIII)I"⟩) ⟨by decide +kernel, by decide +kernel, by decide +kernel⟩ ew_729 ew_730 ew_428 ew_731 ew_732
theorem ef_244 : ec_callV "WarmNightLaw" 86 "WarmNight" ⟨"WarmNight", "fuel", "(IIII)I"⟩ prog_1_method_18_code 5 (some .int) 4 := ec_V1 (y := ⟨"WarmNight", "fuel", "(IIII)I"⟩) ⟨by decide +kernel, by decide +kernel, by decide +kernel⟩ ew_733 ew_734 ew_6 ew_735 ew_736
theorem ef_245 : ec_callV "WarmNightLaw" 89 "WarmNightModel" ⟨"WarmNightModel", "fuel", "(IIII)I"⟩ prog_14_method_50_code 5 (some .int) 4 := ec_V1 (y := ⟨"WarmNightModel", "fuel", "(IIII)I"⟩) ⟨by decide +kernel, by decide +kernel, by decide +kernel⟩ ew_737 ew_738 ew_428 ew_739 ew_740
theorem ef_246 : ec_callV "WarmNightLaw" 90 "WarmNight" ⟨"WarmNight", "worst", "(II)I"⟩ prog_1_method_19_code 3 (some .int) 2 := ec_V1 (y := ⟨"WarmNight", "worst", "(II)I"⟩) ⟨by decide +kernel, by decide +kernel, by decide +kernel⟩ ew_741 ew_742 ew_6 ew_743 ew_744
theorem ef_247 : ec_callV "WarmNightLaw" 93 "WarmNightModel" ⟨"WarmNightModel", "worst", "(II)I"⟩ prog_14_method_51_code 3 (some .int) 2 := ec_V1 (y := ⟨"WarmNightModel", "worst", "(II)I"⟩) ⟨by decide +kernel, by decide +kernel, by decide +kernel⟩ ew_745 ew_746 ew_428 ew_747 ew_748
theorem ef_248 : ec_callV "WarmNightLaw" 94 "WarmNight" ⟨"WarmNight", "falls", "(III)I"⟩ prog_1_method_20_code 4 (some .int) 3 := ec_V1 (y := ⟨"WarmNight", "falls", "(III)I"⟩) ⟨by decide +kernel, by decide +kernel, by decide +kernel⟩ ew_749 ew_750 ew_6 ew_751 ew_752
theorem ef_249 : ec_callV "WarmNightLaw" 97 "WarmNightModel" ⟨"WarmNightModel", "falls", "(III)I"⟩ prog_14_method_52_code 4 (some .int) 3 := ec_V1 (y := ⟨"WarmNightModel", "falls", "(III)I"⟩) ⟨by decide +kernel, by decide +kernel, by decide +kernel⟩ ew_753 ew_754 ew_428 ew_755 ew_756
theorem ef_250 : ec_callV "WarmNightLaw" 98 "WarmNight" ⟨"WarmNight", "fair", "(II)I"⟩ prog_1_method_21_code 3 (some .int) 2 := ec_V1 (y := ⟨"WarmNight", "fair", "(II)I"⟩) ⟨by decide +kernel, by decide +kernel, by decide +kernel⟩ ew_757 ew_758 ew_6 ew_759 ew_760
theorem ef_251 : ec_callV "WarmNightLaw" 101 "WarmNightModel" ⟨"WarmNightModel", "fair", "(II)I"⟩ prog_14_method_53_code 9 (some .int) 2 := ec_V1 (y := ⟨"WarmNightModel", "fair", "(II)I"⟩) ⟨by decide +kernel, by decide +kernel, by decide +kernel⟩ ew_761 ew_762 ew_428 ew_763 ew_764
theorem ef_252 : ec_callV "WarmNightLaw" 102 "WarmNight" ⟨"WarmNight", "best", "(I)I"⟩ prog_1_method_22_code 2 (some .int) 1 := ec_V1 (y := ⟨"WarmNight", "best", "(I)I"⟩) ⟨by decide +kernel, by decide +kernel, by decide +kernel⟩ ew_765 ew_766 ew_6 ew_767 ew_768
theorem ef_253 : ec_callV "WarmNightLaw" 106 "WarmNightModel" ⟨"WarmNightModel", "best", "(I)I"⟩ prog_14_method_55_code 2 (some .int) 1 := ec_V1 (y := ⟨"WarmNightModel", "best", "(I)I"⟩) ⟨by decide +kernel, by decide +kernel, by decide +kernel⟩ ew_769 ew_770 ew_428 ew_771 ew_772
theorem ef_254 : ec_callV "WarmNightLaw" 107 "WarmNight" ⟨"WarmNight", "take", "()I"⟩ prog_1_method_23_code 2 (some .int) 0 := ec_V1 (y := ⟨"WarmNight", "take", "()I"⟩) ⟨by decide +kernel, by decide +kernel, by decide +kernel⟩ ew_773 ew_774 ew_6 ew_775 ew_776
theorem ef_255 : ec_callV "WarmNightLaw" 110 "WarmNightModel" ⟨"WarmNightModel", "take", "()I"⟩ prog_14_method_56_code 2 (some .int) 0 := ec_V1 (y := ⟨"WarmNightModel", "take", "()I"⟩) ⟨by decide +kernel, by decide +kernel, by decide +kernel⟩ ew_777 ew_778 ew_428 ew_779 ew_780
theorem ef_256 : ec_callV "WarmNightLaw" 111 "WarmNight" ⟨"WarmNight", "sit", "(III)I"⟩ prog_1_method_24_code 4 (some .int) 3 := ec_V1 (y := ⟨"WarmNight", "sit", "(III)I"⟩) ⟨by decide +kernel, by decide +kernel, by decide +kernel⟩ ew_781 ew_782 ew_6 ew_783 ew_784
theorem ef_257 : ec_callV "WarmNightLaw" 114 "WarmNightModel" ⟨"WarmNightModel", "sit", "(III)I"⟩ prog_14_method_62_code 10 (some .int) 3 := ec_V1 (y := ⟨"WarmNightModel", "sit", "(III)I"⟩) ⟨by decide +kernel, by decide +kernel, by decide +kernel⟩ ew_785 ew_786 ew_428 ew_787 ew_788
theorem ef_258 : ec_callV "WarmNightLaw" 115 "WarmNight" ⟨"WarmNight", "coats", "(III)I"⟩ prog_1_method_25_code 4 (some .int) 3 := ec_V1 (y := ⟨"WarmNight", "coats", "(III)I"⟩) ⟨by decide +kernel, by decide +kernel, by decide +kernel⟩ ew_789 ew_790 ew_6 ew_791 ew_792
theorem ef_259 : ec_callV "WarmNightLaw" 118 "WarmNightModel" ⟨"WarmNightModel", "coats", "(III)I"⟩ prog_14_method_64_code 8 (some .int) 3 := ec_V1 (y := ⟨"WarmNightModel", "coats", "(III)I"⟩) ⟨by decide +kernel, by decide +kernel, by decide +kernel⟩ ew_793 ew_794 ew_428 ew_795 ew_796
theorem ef_260 : ec_callV "WarmNightLaw" 119 "WarmNight" ⟨"WarmNight", "fewest", "(II)I"⟩ prog_1_method_26_code 3 (some .int) 2 := ec_V1 (y := ⟨"WarmNight", "fewest", "(II)I"⟩) ⟨by decide +kernel, by decide +kernel, by decide +kernel⟩ ew_797 ew_798 ew_6 ew_799 ew_800
theorem ef_261 : ec_callV "WarmNightLaw" 122 "WarmNightModel" ⟨"WarmNightModel", "fewest", "(II)I"⟩ prog_14_method_65_code 5 (some .int) 2 := ec_V1 (y := ⟨"WarmNightModel", "fewest", "(II)I"⟩) ⟨by decide +kernel, by decide +kernel, by decide +kernel⟩ ew_801 ew_802 ew_428 ew_803 ew_804
theorem ef_262 : ec_callV "WarmNightLaw" 123 "WarmNight" ⟨"WarmNight", "saved", "(II)I"⟩ prog_1_method_27_code 4 (some .int) 2 := ec_V1 (y := ⟨"WarmNight", "saved", "(II)I"⟩) ⟨by decide +kernel, by decide +kernel, by decide +kernel⟩ ew_805 ew_806 ew_6 ew_807 ew_808
theorem ef_263 : ec_callV "WarmNightLaw" 126 "WarmNightModel" ⟨"WarmNightModel", "saved", "(II)I"⟩ prog_14_method_68_code 3 (some .int) 2 := ec_V1 (y := ⟨"WarmNightModel", "saved", "(II)I"⟩) ⟨by decide +kernel, by decide +kernel, by decide +kernel⟩ ew_809 ew_810 ew_428 ew_811 ew_812
theorem ef_264 : ec_callV "WarmNightLaw" 127 "WarmNight" ⟨"WarmNight", "keep", "(I)I"⟩ prog_1_method_28_code 6 (some .int) 1 := ec_V1 (y := ⟨"WarmNight", "keep", "(I)I"⟩) ⟨by decide +kernel, by decide +kernel, by decide +kernel⟩ ew_813 ew_814 ew_6 ew_815 ew_816
theorem ef_265 : ec_callV "WarmNightLaw" 130 "WarmNightModel" ⟨"WarmNightModel", "keep", "(I)I"⟩ prog_14_method_69_code 6 (some .int) 1 := ec_V1 (y := ⟨"WarmNightModel", "keep", "(I)I"⟩) ⟨by decide +kernel, by decide +kernel, by decide +kernel⟩ ew_817 ew_818 ew_428 ew_819 ew_820
theorem ef_266 : ec_callV "WarmNightLaw" 131 "WarmNight" ⟨"WarmNight", "worth", "(III)I"⟩ prog_1_method_29_code 5 (some .int) 3 := ec_V1 (y := ⟨"WarmNight", "worth", "(III)I"⟩) ⟨by decide +kernel, by decide +kernel, by decide +kernel⟩ ew_821 ew_822 ew_6 ew_823 ew_824
theorem ef_267 : ec_callV "WarmNightLaw" 134 "WarmNightModel" ⟨"WarmNightModel", "worth", "(III)I"⟩ prog_14_method_71_code 4 (some .int) 3 := ec_V1 (y := ⟨"WarmNightModel", "worth", "(III)I"⟩) ⟨by decide +kernel, by decide +kernel, by decide +kernel⟩ ew_825 ew_826 ew_428 ew_827 ew_828
theorem ef_268 : ec_callV "WarmNightLaw" 135 "WarmNight" ⟨"WarmNight", "when", "(II)I"⟩ prog_1_method_30_code 7 (some .int) 2 := ec_V1 (y := ⟨"WarmNight", "when", "(II)I"⟩) ⟨by decide +kernel, by decide +kernel, by decide +kernel⟩ ew_829 ew_830 ew_6 ew_831 ew_832
theorem ef_269 : ec_callV "WarmNightLaw" 138 "WarmNightModel" ⟨"WarmNightModel", "when", "(II)I"⟩ prog_14_method_72_code 7 (some .int) 2 := ec_V1 (y := ⟨"WarmNightModel", "when", "(II)I"⟩) ⟨by decide +kernel, by decide +kernel, by decide +kernel⟩ ew_833 ew_834 ew_428 ew_835 ew_836
theorem ef_270 : ec_callV "WarmNightLaw" 139 "WarmNight" ⟨"WarmNight", "part", "(I)J"⟩ prog_1_method_31_code 2 (some .long) 1 := ec_V1 (y := ⟨"WarmNight", "part", "(I)J"⟩) ⟨by decide +kernel, by decide +kernel, by decide +kernel⟩ ew_837 ew_838 ew_6 ew_839 ew_840
theorem ef_271 : ec_callV "WarmNightLaw" 143 "WarmNightModel" ⟨"WarmNightModel", "part", "(I)J"⟩ prog_14_method_73_code 2 (some .long) 1 := ec_V1 (y := ⟨"WarmNightModel", "part", "(I)J"⟩) ⟨by decide +kernel, by decide +kernel, by decide +kernel⟩ ew_841 ew_842 ew_428 ew_843 ew_844
theorem ef_272 : ec_callV "WarmNightLaw" 144 "WarmNight" ⟨"WarmNight", "image", "(I)I"⟩ prog_1_method_32_code 2 (some .int) 1 := ec_V1 (y := ⟨"WarmNight", "image", "(I)I"⟩) ⟨by decide +kernel, by decide +kernel, by decide +kernel⟩ ew_845 ew_846 ew_6 ew_847 ew_848
theorem ef_273 : ec_callV "WarmNightLaw" 147 "WarmNightModel" ⟨"WarmNightModel", "image", "(I)I"⟩ prog_14_method_74_code 3 (some .int) 1 := ec_V1 (y := ⟨"WarmNightModel", "image", "(I)I"⟩) ⟨by decide +kernel, by decide +kernel, by decide +kernel⟩ ew_849 ew_850 ew_428 ew_851 ew_852
theorem ef_274 : ec_callV "WarmNightLaw" 148 "WarmNight" ⟨"WarmNight", "from", "(I)I"⟩ prog_1_method_33_code 2 (some .int) 1 := ec_V1 (y := ⟨"WarmNight", "from", "(I)I"⟩) ⟨by decide +kernel, by decide +kernel, by decide +kernel⟩ ew_853 ew_854 ew_6 ew_855 ew_856
theorem ef_275 : ec_callV "WarmNightLaw" 151 "WarmNightModel" ⟨"WarmNightModel", "from", "(I)I"⟩ prog_14_method_75_code 3 (some .int) 1 := ec_V1 (y := ⟨"WarmNightModel", "from", "(I)I"⟩) ⟨by decide +kernel, by decide +kernel, by decide +kernel⟩ ew_857 ew_858 ew_428 ew_859 ew_860
theorem ef_276 : ec_callV "WarmNightLaw" 152 "WarmNight" ⟨"WarmNight", "count", "(I)I"⟩ prog_1_method_34_code 2 (some .int) 1 := ec_V1 (y := ⟨"WarmNight", "count", "(I)I"⟩) ⟨by decide +kernel, by decide +kernel, by decide +kernel⟩ ew_861 ew_406 ew_6 ew_407 ew_408
theorem ef_277 : ec_callV "WarmNightLaw" 155 "WarmNightModel" ⟨"WarmNightModel", "count", "(I)I"⟩ prog_14_method_77_code 2 (some .int) 1 := ec_V1 (y := ⟨"WarmNightModel", "count", "(I)I"⟩) ⟨by decide +kernel, by decide +kernel, by decide +kernel⟩ ew_862 ew_863 ew_428 ew_864 ew_865
theorem ef_278 : ec_callV "WarmNightLaw" 156 "WarmNight" ⟨"WarmNight", "digest", "()J"⟩ prog_1_method_35_code 4 (some .long) 0 := ec_V1 (y := ⟨"WarmNight", "digest", "()J"⟩) ⟨by decide +kernel, by decide +kernel, by decide +kernel⟩ ew_866 ew_867 ew_6 ew_868 ew_869
theorem ef_279 : ec_callV "WarmNightLaw" 160 "WarmNightModel" ⟨"WarmNightModel", "digest", "()J"⟩ prog_14_method_79_code 4 (some .long) 0 := ec_V1 (y := ⟨"WarmNightModel", "digest", "()J"⟩) ⟨by decide +kernel, by decide +kernel, by decide +kernel⟩ ew_870 ew_871 ew_428 ew_872 ew_873
