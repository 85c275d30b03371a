/-! The methods of this program. -/
def tb_no : pm_Me := ((⟨"", "", ""⟩, ⟨#[]⟩, 0, none), (0, 0), (0, 999))
def tb_ms : List pm_Me := [
  ((x, code, 4, some .boolean), (214, 18015), (1, 999)),
  ((⟨"ChoirShip", "<init>", "()V"⟩, prog_1_method_1_code, 2, none), (192, 11274), (0, 0)),
  ((⟨"ChoirShip", "feed", "(IIIII)I"⟩, prog_1_method_2_code, 6, some .int), (0, 0), (5, 0)),
  ((⟨"ChoirShip", "end", "(I)I"⟩, prog_1_method_3_code, 2, some .int), (0, 0), (1, 0)),
  ((⟨"ChoirShip", "ship", "()I"⟩, prog_1_method_4_code, 3, some .int), (0, 0), (0, 0)),
  ((⟨"ChoirShip", "rule", "()I"⟩, prog_1_method_5_code, 2, some .int), (0, 0), (0, 0)),
  ((⟨"ChoirShip", "man", "(II)I"⟩, prog_1_method_6_code, 4, some .int), (0, 0), (2, 0)),
  ((⟨"ChoirShip", "order", "(II)I"⟩, prog_1_method_7_code, 4, some .int), (0, 0), (2, 0)),
  ((⟨"ChoirShip", "means", "(II)I"⟩, prog_1_method_8_code, 3, some .int), (0, 0), (2, 0)),
  ((⟨"ChoirShip", "meaning", "(II)I"⟩, prog_1_method_9_code, 6, some .int), (0, 0), (2, 0)),
  ((⟨"ChoirShip", "say", "(II)I"⟩, prog_1_method_10_code, 4, some .int), (0, 0), (2, 0)),
  ((⟨"ChoirShip", "hour", "()I"⟩, prog_1_method_11_code, 1, some .int), (0, 0), (0, 0)),
  ((⟨"ChoirShip", "wake", "(IZ)Z"⟩, prog_1_method_12_code, 3, some .boolean), (0, 0), (2, 0)),
  ((⟨"ChoirShip", "sicken", "(II)I"⟩, prog_1_method_13_code, 4, some .int), (0, 0), (2, 0)),
  ((⟨"ChoirShip", "die", "(I)I"⟩, prog_1_method_14_code, 2, some .int), (0, 0), (1, 0)),
  ((⟨"ChoirShip", "teach", "(I)I"⟩, prog_1_method_15_code, 3, some .int), (0, 0), (1, 0)),
  ((⟨"ChoirShip", "turn", "(I)I"⟩, prog_1_method_16_code, 3, some .int), (0, 0), (1, 0)),
  ((⟨"ChoirShip", "undo", "()I"⟩, prog_1_method_17_code, 1, some .int), (0, 0), (0, 0)),
  ((⟨"ChoirShip", "run", "(II)I"⟩, prog_1_method_18_code, 4, some .int), (0, 0), (2, 0)),
  ((⟨"ChoirShip", "sayable", "()I"⟩, prog_1_method_19_code, 1, some .int), (0, 0), (0, 0)),
  ((⟨"ChoirShip", "shortest", "(II)I"⟩, prog_1_method_20_code, 3, some .int), (0, 0), (2, 0)),
  ((⟨"ChoirShip", "fewest", "(II)I"⟩, prog_1_method_21_code, 4, some .int), (0, 0), (2, 0)),
  ((⟨"ChoirShip", "watches", "(II)I"⟩, prog_1_method_22_code, 4, some .int), (0, 0), (2, 0)),
  ((⟨"ChoirShip", "boy", "(I)I"⟩, prog_1_method_23_code, 3, some .int), (0, 0), (1, 0)),
  ((⟨"ChoirShip", "lacks", "(II)I"⟩, prog_1_method_24_code, 3, some .int), (0, 0), (2, 0)),
  ((⟨"ChoirShip", "nearest", "(III)I"⟩, prog_1_method_25_code, 6, some .int), (0, 0), (3, 0)),
  ((⟨"ChoirShip", "done", "(IZ)I"⟩, prog_1_method_26_code, 3, some .int), (0, 0), (2, 0)),
  ((⟨"ChoirShip", "awake", "(I)I"⟩, prog_1_method_27_code, 2, some .int), (0, 0), (1, 0)),
  ((⟨"ChoirShip", "ask", "(I)I"⟩, prog_1_method_28_code, 3, some .int), (0, 0), (1, 0)),
  ((⟨"ChoirShip", "seed", "(I)I"⟩, prog_1_method_29_code, 3, some .int), (0, 0), (1, 0)),
  ((⟨"ChoirShip", "voyages", "(IIII)I"⟩, prog_1_method_30_code, 5, some .int), (0, 0), (4, 0)),
  ((⟨"ChoirShip", "count", "(I)I"⟩, prog_1_method_31_code, 3, some .int), (0, 0), (1, 0)),
  ((⟨"ChoirShip", "image", "(I)I"⟩, prog_1_method_32_code, 2, some .int), (0, 0), (1, 0)),
  ((⟨"ChoirShip", "back", "(I)I"⟩, prog_1_method_33_code, 2, some .int), (0, 0), (1, 0)),
  ((⟨"ChoirShip", "bit", "(II)I"⟩, prog_1_method_34_code, 2, some .int), (0, 0), (2, 999)),
  ((⟨"ChoirShip", "lives", "(I)Z"⟩, prog_1_method_35_code, 2, some .boolean), (0, 0), (1, 0)),
  ((⟨"ChoirShip", "freeHull", "()LChoirShip$Ship;"⟩, prog_1_method_36_code, 3, some (.object "ChoirShip$Ship")), (0, 0), (0, 0)),
  ((⟨"ChoirShip", "inUse", "(LChoirShip$Ship;)Z"⟩, prog_1_method_37_code, 4, some .boolean), (0, 0), (1, 0)),
  ((⟨"ChoirShip", "split", "(II)Z"⟩, prog_1_method_38_code, 5, some .boolean), (0, 0), (2, 0)),
  ((⟨"ChoirShip", "menOf", "(II)I"⟩, prog_1_method_39_code, 6, some .int), (0, 0), (2, 0)),
  ((⟨"ChoirShip", "wordsOf", "(II)I"⟩, prog_1_method_40_code, 6, some .int), (0, 0), (2, 0)),
  ((⟨"ChoirShip", "rouseAll", "(LChoirShip$Rule;)V"⟩, prog_1_method_41_code, 3, none), (0, 0), (1, 0)),
  ((⟨"ChoirShip$Asker", "<init>", "()V"⟩, prog_2_method_1_code, 1, none), (20, 6014), (0, 1)),
  ((⟨"ChoirShip$Asker", "learn", "(LChoirShip$Ship;)V"⟩, prog_2_method_2_code, 2, none), (0, 0), (1, 1)),
  ((⟨"ChoirShip$Asker", "canSay", "(LChoirShip$Ship;LChoirShip$Hands;)I"⟩, prog_2_method_3_code, 3, some .int), (0, 0), (2, 1)),
  ((⟨"ChoirShip$Asker", "findShortest", "(LChoirShip$Ship;LChoirShip$Hands;I)V"⟩, prog_2_method_4_code, 7, none), (0, 0), (3, 1)),
  ((⟨"ChoirShip$Asker", "seat", "(LChoirShip$Ship;II)Z"⟩, prog_2_method_5_code, 7, some .boolean), (0, 0), (3, 1)),
  ((⟨"ChoirShip$Asker", "leastWith", "(LChoirShip$Ship;III)I"⟩, prog_2_method_6_code, 5, some .int), (0, 0), (4, 999)),
  ((⟨"ChoirShip$Asker", "isBetter", "()Z"⟩, prog_2_method_7_code, 2, some .boolean), (0, 0), (0, 1)),
  ((⟨"ChoirShip$Asker", "fewestMen", "(LChoirShip$Ship;LChoirShip$Hands;I)I"⟩, prog_2_method_8_code, 9, some .int), (0, 0), (3, 1)),
  ((⟨"ChoirShip$Asker", "firstWatch", "(LChoirShip$Ship;LChoirShip$Hands;I)I"⟩, prog_2_method_9_code, 9, some .int), (0, 0), (3, 1)),
  ((⟨"ChoirShip$Asker", "needWith", "(LChoirShip$Ship;LChoirShip$Hands;I)I"⟩, prog_2_method_10_code, 4, some .int), (0, 0), (3, 1)),
  ((⟨"ChoirShip$Asker", "needOf", "(LChoirShip$Ship;I)I"⟩, prog_2_method_11_code, 4, some .int), (0, 0), (2, 999)),
  ((⟨"ChoirShip$Asker", "bestLesson", "(LChoirShip$Ship;LChoirShip$Hands;)I"⟩, prog_2_method_12_code, 7, some .int), (0, 0), (2, 1)),
  ((⟨"ChoirShip$Asker", "findLacks", "(LChoirShip$Ship;LChoirShip$Hands;I)V"⟩, prog_2_method_13_code, 7, none), (0, 0), (3, 1)),
  ((⟨"ChoirShip$Asker", "addSpare", "(II)V"⟩, prog_2_method_14_code, 3, none), (0, 0), (2, 1)),
  ((⟨"ChoirShip$Asker", "tryLack", "()V"⟩, prog_2_method_15_code, 6, none), (0, 0), (0, 1)),
  ((⟨"ChoirShip$Asker", "lackWord", "(I)I"⟩, prog_2_method_16_code, 2, some .int), (0, 0), (1, 1)),
  ((⟨"ChoirShip$Asker", "findNearest", "(LChoirShip$Ship;[II)V"⟩, prog_2_method_17_code, 6, none), (0, 0), (3, 1)),
  ((⟨"ChoirShip$Asker", "changesTo", "(LChoirShip$Ship;I[II)I"⟩, prog_2_method_18_code, 13, some .int), (0, 0), (4, 1)),
  ((⟨"ChoirShip$Asker", "gather", "(LChoirShip$World;)V"⟩, prog_2_method_19_code, 7, none), (0, 0), (1, 1)),
  ((⟨"ChoirShip$Asker", "noteSaid", "(I)V"⟩, prog_2_method_20_code, 3, none), (0, 0), (1, 1)),
  ((⟨"ChoirShip$Asker", "greaterPart", "(I)I"⟩, prog_2_method_21_code, 3, some .int), (0, 0), (1, 1)),
  ((⟨"ChoirShip$Asker", "bestQuestion", "(I)I"⟩, prog_2_method_22_code, 4, some .int), (0, 0), (1, 1)),
  ((⟨"ChoirShip$Asker", "sail", "(LChoirShip$World;III)V"⟩, prog_2_method_23_code, 7, none), (0, 0), (4, 1)),
  ((⟨"ChoirShip$Asker", "sailHour", "(LChoirShip$Ship;I)V"⟩, prog_2_method_24_code, 5, none), (0, 0), (2, 1)),
  ((⟨"ChoirShip$Asker", "draw", "()I"⟩, prog_2_method_25_code, 1, some .int), (0, 0), (0, 1)),
  ((⟨"ChoirShip$Choir", "<init>", "()V"⟩, prog_3_method_1_code, 1, none), (7, 5878), (0, 2)),
  ((⟨"ChoirShip$Choir", "learn", "(LChoirShip$Ship;)V"⟩, prog_3_method_2_code, 5, none), (0, 0), (1, 2)),
  ((⟨"ChoirShip$Choir", "orders", "(II)I"⟩, prog_3_method_3_code, 3, some .int), (0, 0), (2, 2)),
  ((⟨"ChoirShip$Choir", "fill", "(I)V"⟩, prog_3_method_4_code, 8, none), (0, 0), (1, 2)),
  ((⟨"ChoirShip$Choir", "ordersOfAll", "(II)I"⟩, prog_3_method_5_code, 5, some .int), (0, 0), (2, 2)),
  ((⟨"ChoirShip$Choir", "put", "(I)V"⟩, prog_3_method_6_code, 2, none), (0, 0), (1, 2)),
  ((⟨"ChoirShip$Choir", "bagNumber", "(I)I"⟩, prog_3_method_7_code, 6, some .int), (0, 0), (1, 2)),
  ((⟨"ChoirShip$Hands", "<init>", "()V"⟩, prog_4_method_1_code, 1, none), (2, 16), (0, 3)),
  ((⟨"ChoirShip$Hands", "begin", "(I)V"⟩, prog_4_method_2_code, 2, none), (0, 0), (1, 3)),
  ((⟨"ChoirShip$Hands", "copy", "(LChoirShip$Hands;)V"⟩, prog_4_method_3_code, 2, none), (0, 0), (1, 3)),
  ((⟨"ChoirShip$Hands", "rouse", "(IZ)V"⟩, prog_4_method_4_code, 3, none), (0, 0), (2, 3)),
  ((⟨"ChoirShip$Hands", "pass", "()V"⟩, prog_4_method_5_code, 2, none), (0, 0), (0, 3)),
  ((⟨"ChoirShip$Hands", "living", "(LChoirShip$Ship;)I"⟩, prog_4_method_6_code, 2, some .int), (0, 0), (1, 3)),
  ((⟨"ChoirShip$Hands", "fit", "(LChoirShip$Ship;)I"⟩, prog_4_method_7_code, 5, some .int), (0, 0), (1, 3)),
  ((⟨"ChoirShip$Hands", "heard", "(LChoirShip$Ship;)I"⟩, prog_4_method_8_code, 3, some .int), (0, 0), (1, 3)),
  ((⟨"ChoirShip$Past", "<init>", "()V"⟩, prog_5_method_1_code, 2, none), (61, 480), (0, 4)),
  ((⟨"ChoirShip$Past", "forget", "()V"⟩, prog_5_method_2_code, 1, none), (0, 0), (0, 4)),
  ((⟨"ChoirShip$Past", "keep", "(LChoirShip$Hands;)V"⟩, prog_5_method_3_code, 2, none), (0, 0), (1, 4)),
  ((⟨"ChoirShip$Past", "restore", "(LChoirShip$Hands;)Z"⟩, prog_5_method_4_code, 2, some .boolean), (0, 0), (1, 4)),
  ((⟨"ChoirShip$Rows", "<init>", "()V"⟩, prog_6_method_1_code, 1, none), (3, 42), (0, 5)),
  ((⟨"ChoirShip$Rows", "begin", "(LChoirShip$Ship;I)V"⟩, prog_6_method_2_code, 4, none), (0, 0), (2, 5)),
  ((⟨"ChoirShip$Rows", "wordAt", "(I)I"⟩, prog_6_method_3_code, 2, some .int), (0, 0), (1, 5)),
  ((⟨"ChoirShip$Rows", "at", "(II)I"⟩, prog_6_method_4_code, 4, some .int), (0, 0), (2, 5)),
  ((⟨"ChoirShip$Rows", "advance", "()Z"⟩, prog_6_method_5_code, 2, some .boolean), (0, 0), (0, 5)),
  ((⟨"ChoirShip$Rows", "part", "()Z"⟩, prog_6_method_6_code, 3, some .boolean), (0, 0), (0, 5)),
  ((⟨"ChoirShip$Rows", "grow", "(III)V"⟩, prog_6_method_7_code, 6, none), (0, 0), (3, 5)),
  ((⟨"ChoirShip$Rule", "<init>", "()V"⟩, prog_7_method_1_code, 1, none), (2, 476), (0, 6)),
  ((⟨"ChoirShip$Rule", "read", "(LChoirShip$Tape;)Z"⟩, prog_7_method_2_code, 4, some .boolean), (0, 0), (1, 6)),
  ((⟨"ChoirShip$Rule", "readTest", "(LChoirShip$Tape;I)Z"⟩, prog_7_method_3_code, 7, some .boolean), (0, 0), (2, 6)),
  ((⟨"ChoirShip$Rule", "readFact", "(LChoirShip$Tape;I)Z"⟩, prog_7_method_4_code, 7, some .boolean), (0, 0), (2, 6)),
  ((⟨"ChoirShip$Rule", "readClosing", "(LChoirShip$Tape;)Z"⟩, prog_7_method_5_code, 1, some .boolean), (0, 0), (1, 999)),
  ((⟨"ChoirShip$Rule", "readSum", "(LChoirShip$Tape;)Z"⟩, prog_7_method_6_code, 7, some .boolean), (0, 0), (1, 6)),
  ((⟨"ChoirShip$Rule", "readValue", "(LChoirShip$Tape;)Z"⟩, prog_7_method_7_code, 4, some .boolean), (0, 0), (1, 6)),
  ((⟨"ChoirShip$Rule", "compares", "(I)Z"⟩, prog_7_method_8_code, 1, some .boolean), (0, 0), (1, 999)),
  ((⟨"ChoirShip$Rule", "step", "(I)V"⟩, prog_7_method_9_code, 2, none), (0, 0), (1, 6)),
  ((⟨"ChoirShip$Rule", "wakes", "(LChoirShip$Ship;LChoirShip$Hands;I)Z"⟩, prog_7_method_10_code, 10, some .boolean), (0, 0), (3, 6)),
  ((⟨"ChoirShip$Rule", "push", "(J)V"⟩, prog_7_method_11_code, 3, none), (0, 0), (1, 6)),
  ((⟨"ChoirShip$Rule", "pop", "()J"⟩, prog_7_method_12_code, 1, some .long), (0, 0), (0, 6)),
  ((⟨"ChoirShip$Rule", "combined", "(IJJ)J"⟩, prog_7_method_13_code, 5, some .long), (0, 0), (3, 999)),
  ((⟨"ChoirShip$Rule", "letters", "(ILChoirShip$Ship;LChoirShip$Hands;I)J"⟩, prog_7_method_14_code, 4, some .long), (0, 0), (4, 999)),
  ((⟨"ChoirShip$Rule", "others", "(LChoirShip$Ship;LChoirShip$Hands;I)I"⟩, prog_7_method_15_code, 6, some .int), (0, 0), (3, 999)),
  ((⟨"ChoirShip$Rule", "greatestNeed", "(LChoirShip$Ship;I)I"⟩, prog_7_method_16_code, 5, some .int), (0, 0), (2, 999)),
  ((⟨"ChoirShip$Ship", "<init>", "()V"⟩, prog_8_method_1_code, 1, none), (9, 194), (0, 7)),
  ((⟨"ChoirShip$Ship", "sails", "()Z"⟩, prog_8_method_2_code, 1, some .boolean), (0, 0), (0, 7)),
  ((⟨"ChoirShip$Ship", "hasWord", "(I)Z"⟩, prog_8_method_3_code, 2, some .boolean), (0, 0), (1, 7)),
  ((⟨"ChoirShip$Ship", "hasMan", "(I)Z"⟩, prog_8_method_4_code, 2, some .boolean), (0, 0), (1, 7)),
  ((⟨"ChoirShip$Ship", "hasOrder", "(I)Z"⟩, prog_8_method_5_code, 2, some .boolean), (0, 0), (1, 7)),
  ((⟨"ChoirShip$Ship", "hasOrders", "(I)Z"⟩, prog_8_method_6_code, 2, some .boolean), (0, 0), (1, 7)),
  ((⟨"ChoirShip$Ship", "wordOf", "(I)I"⟩, prog_8_method_7_code, 2, some .int), (0, 0), (1, 7)),
  ((⟨"ChoirShip$Ship", "rowWord", "(II)I"⟩, prog_8_method_8_code, 4, some .int), (0, 0), (2, 7)),
  ((⟨"ChoirShip$Ship", "pair", "(II)I"⟩, prog_8_method_9_code, 4, some .int), (0, 0), (2, 7)),
  ((⟨"ChoirShip$Ship", "settle", "([II)I"⟩, prog_8_method_10_code, 6, some .int), (0, 0), (2, 7)),
  ((⟨"ChoirShip$Ship", "firstPair", "([II)I"⟩, prog_8_method_11_code, 4, some .int), (0, 0), (2, 7)),
  ((⟨"ChoirShip$Ship", "orderOf", "([II)I"⟩, prog_8_method_12_code, 4, some .int), (0, 0), (2, 7)),
  ((⟨"ChoirShip$Ship", "canBeMeant", "(I)Z"⟩, prog_8_method_13_code, 3, some .boolean), (0, 0), (1, 7)),
  ((⟨"ChoirShip$Ship", "sameRows", "(II)Z"⟩, prog_8_method_14_code, 5, some .boolean), (0, 0), (2, 7)),
  ((⟨"ChoirShip$Ship", "parts", "(III)Z"⟩, prog_8_method_15_code, 5, some .boolean), (0, 0), (3, 7)),
  ((⟨"ChoirShip$Ship", "isRow", "(I[II)Z"⟩, prog_8_method_16_code, 5, some .boolean), (0, 0), (3, 7)),
  ((⟨"ChoirShip$Ship", "read", "(LChoirShip$Tape;)Z"⟩, prog_8_method_17_code, 3, some .boolean), (0, 0), (1, 7)),
  ((⟨"ChoirShip$Ship", "readClause", "(LChoirShip$Tape;I)Z"⟩, prog_8_method_18_code, 5, some .boolean), (0, 0), (2, 7)),
  ((⟨"ChoirShip$Ship", "isFull", "(I)Z"⟩, prog_8_method_19_code, 2, some .boolean), (0, 0), (1, 7)),
  ((⟨"ChoirShip$Ship", "readWords", "(LChoirShip$Tape;)Z"⟩, prog_8_method_20_code, 3, some .boolean), (0, 0), (1, 7)),
  ((⟨"ChoirShip$Ship", "readMan", "(LChoirShip$Tape;)Z"⟩, prog_8_method_21_code, 4, some .boolean), (0, 0), (1, 7)),
  ((⟨"ChoirShip$Ship", "readOrder", "(LChoirShip$Tape;)Z"⟩, prog_8_method_22_code, 6, some .boolean), (0, 0), (1, 7)),
  ((⟨"ChoirShip$Ship", "readMeans", "(LChoirShip$Tape;)Z"⟩, prog_8_method_23_code, 6, some .boolean), (0, 0), (1, 7)),
  ((⟨"ChoirShip$Ship", "readNumber", "(LChoirShip$Tape;II)I"⟩, prog_8_method_24_code, 4, some .int), (0, 0), (3, 999)),
  ((⟨"ChoirShip$Tape", "<init>", "()V"⟩, prog_9_method_1_code, 1, none), (1, 400), (0, 8)),
  ((⟨"ChoirShip$Tape", "put", "(I)V"⟩, prog_9_method_2_code, 3, none), (0, 0), (1, 8)),
  ((⟨"ChoirShip$Tape", "start", "()V"⟩, prog_9_method_3_code, 1, none), (0, 0), (0, 8)),
  ((⟨"ChoirShip$Tape", "advance", "()V"⟩, prog_9_method_4_code, 2, none), (0, 0), (0, 8)),
  ((⟨"ChoirShip$Tape", "byteAt", "(I)I"⟩, prog_9_method_5_code, 2, some .int), (0, 0), (1, 8)),
  ((⟨"ChoirShip$Tape", "isWord", "(Ljava/lang/String;)Z"⟩, prog_9_method_6_code, 3, some .boolean), (0, 0), (1, 8)),
  ((⟨"ChoirShip$Tape", "wordOf", "(Ljava/lang/String;)I"⟩, prog_9_method_7_code, 7, some .int), (0, 0), (1, 8)),
  ((⟨"ChoirShip$Tape", "isSign", "(I)Z"⟩, prog_9_method_8_code, 2, some .boolean), (0, 0), (1, 8)),
  ((⟨"ChoirShip$Tape", "blame", "(II)Z"⟩, prog_9_method_9_code, 3, some .boolean), (0, 0), (2, 8)),
  ((⟨"ChoirShip$Tape", "kindOf", "(I)I"⟩, prog_9_method_10_code, 1, some .int), (0, 0), (1, 999)),
  ((⟨"ChoirShip$World", "<init>", "(LChoirShip$Ship;)V"⟩, prog_10_method_1_code, 2, none), (4, 33), (1, 9)),
  ((⟨"ChoirShip$World", "copy", "(LChoirShip$World;)V"⟩, prog_10_method_2_code, 2, none), (0, 0), (1, 9)),
  ((⟨"ChoirShip$World", "tell", "(IZ)V"⟩, prog_10_method_3_code, 4, none), (0, 0), (2, 9)),
  ((⟨"ChoirShip$World", "agrees", "(I)Z"⟩, prog_10_method_4_code, 3, some .boolean), (0, 0), (1, 9)),
  ((⟨"ChoirShipModel", "<init>", "()V"⟩, prog_12_method_1_code, 2, none), (20, 6697), (0, 10)),
  ((⟨"ChoirShipModel", "in", "(JJJ)Z"⟩, prog_12_method_2_code, 6, some .boolean), (0, 0), (3, 999)),
  ((⟨"ChoirShipModel", "isOf", "(II)Z"⟩, prog_12_method_3_code, 2, some .boolean), (0, 0), (2, 999)),
  ((⟨"ChoirShipModel", "bits", "(I)I"⟩, prog_12_method_4_code, 3, some .int), (0, 0), (1, 999)),
  ((⟨"ChoirShipModel", "four", "(I)V"⟩, prog_12_method_5_code, 3, none), (0, 0), (1, 10)),
  ((⟨"ChoirShipModel", "feed", "(IIIII)I"⟩, prog_12_method_6_code, 6, some .int), (0, 0), (5, 10)),
  ((⟨"ChoirShipModel", "end", "(I)I"⟩, prog_12_method_7_code, 2, some .int), (0, 0), (1, 10)),
  ((⟨"ChoirShipModel", "fails", "(II)Z"⟩, prog_12_method_8_code, 3, some .boolean), (0, 0), (2, 10)),
  ((⟨"ChoirShipModel", "see", "()I"⟩, prog_12_method_9_code, 1, some .int), (0, 0), (0, 10)),
  ((⟨"ChoirShipModel", "isDigit", "(I)Z"⟩, prog_12_method_10_code, 2, some .boolean), (0, 0), (1, 10)),
  ((⟨"ChoirShipModel", "isLetter", "(I)Z"⟩, prog_12_method_11_code, 2, some .boolean), (0, 0), (1, 10)),
  ((⟨"ChoirShipModel", "isWord", "(J)Z"⟩, prog_12_method_12_code, 6, some .boolean), (0, 0), (1, 10)),
  ((⟨"ChoirShipModel", "passWord", "()V"⟩, prog_12_method_13_code, 1, none), (0, 0), (0, 10)),
  ((⟨"ChoirShipModel", "takesWord", "(J)Z"⟩, prog_12_method_14_code, 3, some .boolean), (0, 0), (1, 10)),
  ((⟨"ChoirShipModel", "numberHere", "(II)Z"⟩, prog_12_method_15_code, 5, some .boolean), (0, 0), (2, 10)),
  ((⟨"ChoirShipModel", "wordHere", "()I"⟩, prog_12_method_16_code, 1, some .int), (0, 0), (0, 10)),
  ((⟨"ChoirShipModel", "puts", "(II)V"⟩, prog_12_method_17_code, 3, none), (0, 0), (2, 10)),
  ((⟨"ChoirShipModel", "makes", "(I)Z"⟩, prog_12_method_18_code, 2, some .boolean), (0, 0), (1, 10)),
  ((⟨"ChoirShipModel", "opens", "(I)Z"⟩, prog_12_method_19_code, 2, some .boolean), (0, 0), (1, 10)),
  ((⟨"ChoirShipModel", "strength", "(I)I"⟩, prog_12_method_20_code, 1, some .int), (0, 0), (1, 999)),
  ((⟨"ChoirShipModel", "settles", "(I)V"⟩, prog_12_method_21_code, 2, none), (0, 0), (1, 10)),
  ((⟨"ChoirShipModel", "value", "()Z"⟩, prog_12_method_22_code, 3, some .boolean), (0, 0), (0, 10)),
  ((⟨"ChoirShipModel", "term", "()Z"⟩, prog_12_method_23_code, 2, some .boolean), (0, 0), (0, 10)),
  ((⟨"ChoirShipModel", "sum", "()Z"⟩, prog_12_method_24_code, 2, some .boolean), (0, 0), (0, 10)),
  ((⟨"ChoirShipModel", "compare", "()Z"⟩, prog_12_method_25_code, 5, some .boolean), (0, 0), (0, 10)),
  ((⟨"ChoirShipModel", "fact", "()Z"⟩, prog_12_method_26_code, 3, some .boolean), (0, 0), (0, 10)),
  ((⟨"ChoirShipModel", "isInside", "()Z"⟩, prog_12_method_27_code, 2, some .boolean), (0, 0), (0, 10)),
  ((⟨"ChoirShipModel", "closes", "()V"⟩, prog_12_method_28_code, 1, none), (0, 0), (0, 10)),
  ((⟨"ChoirShipModel", "tested", "()Z"⟩, prog_12_method_29_code, 3, some .boolean), (0, 0), (0, 10)),
  ((⟨"ChoirShipModel", "isWakeHere", "()Z"⟩, prog_12_method_30_code, 2, some .boolean), (0, 0), (0, 10)),
  ((⟨"ChoirShipModel", "cellHere", "(III)Z"⟩, prog_12_method_31_code, 4, some .boolean), (0, 0), (3, 10)),
  ((⟨"ChoirShipModel", "isShipHere", "(I)Z"⟩, prog_12_method_32_code, 2, some .boolean), (0, 0), (1, 10)),
  ((⟨"ChoirShipModel", "isManHere", "(I)Z"⟩, prog_12_method_33_code, 4, some .boolean), (0, 0), (1, 10)),
  ((⟨"ChoirShipModel", "isOrderHere", "(I)Z"⟩, prog_12_method_34_code, 6, some .boolean), (0, 0), (1, 10)),
  ((⟨"ChoirShipModel", "isMeaningHere", "(I)Z"⟩, prog_12_method_35_code, 5, some .boolean), (0, 0), (1, 10)),
  ((⟨"ChoirShipModel", "shipLineHere", "(I)Z"⟩, prog_12_method_36_code, 2, some .boolean), (0, 0), (1, 10)),
  ((⟨"ChoirShipModel", "clauseHere", "()Z"⟩, prog_12_method_37_code, 4, some .boolean), (0, 0), (0, 10)),
  ((⟨"ChoirShipModel", "readsAll", "()Z"⟩, prog_12_method_38_code, 2, some .boolean), (0, 0), (0, 10)),
  ((⟨"ChoirShipModel", "rule", "()I"⟩, prog_12_method_39_code, 1, some .int), (0, 0), (0, 10)),
  ((⟨"ChoirShipModel", "ship", "()I"⟩, prog_12_method_40_code, 2, some .int), (0, 0), (0, 10)),
  ((⟨"ChoirShipModel", "isRule", "(I)Z"⟩, prog_12_method_41_code, 2, some .boolean), (0, 0), (1, 10)),
  ((⟨"ChoirShipModel", "push", "(J)V"⟩, prog_12_method_42_code, 3, none), (0, 0), (1, 10)),
  ((⟨"ChoirShipModel", "pop", "()J"⟩, prog_12_method_43_code, 1, some .long), (0, 0), (0, 10)),
  ((⟨"ChoirShipModel", "one", "(IJJ)J"⟩, prog_12_method_44_code, 5, some .long), (0, 0), (3, 999)),
  ((⟨"ChoirShipModel", "reckons", "(III)J"⟩, prog_12_method_45_code, 11, some .long), (0, 0), (3, 10)),
  ((⟨"ChoirShipModel", "isShip", "()Z"⟩, prog_12_method_46_code, 1, some .boolean), (0, 0), (0, 10)),
  ((⟨"ChoirShipModel", "isMan", "(I)Z"⟩, prog_12_method_47_code, 2, some .boolean), (0, 0), (1, 10)),
  ((⟨"ChoirShipModel", "isOrder", "(I)Z"⟩, prog_12_method_48_code, 2, some .boolean), (0, 0), (1, 10)),
  ((⟨"ChoirShipModel", "isWordOf", "(I)Z"⟩, prog_12_method_49_code, 2, some .boolean), (0, 0), (1, 10)),
  ((⟨"ChoirShipModel", "manOf", "(II)I"⟩, prog_12_method_50_code, 3, some .int), (0, 0), (2, 10)),
  ((⟨"ChoirShipModel", "isAlive", "(I)Z"⟩, prog_12_method_51_code, 2, some .boolean), (0, 0), (1, 10)),
  ((⟨"ChoirShipModel", "isLee", "(I)Z"⟩, prog_12_method_52_code, 2, some .boolean), (0, 0), (1, 10)),
  ((⟨"ChoirShipModel", "isHeard", "(I)Z"⟩, prog_12_method_53_code, 2, some .boolean), (0, 0), (1, 10)),
  ((⟨"ChoirShipModel", "heardSet", "()I"⟩, prog_12_method_54_code, 3, some .int), (0, 0), (0, 10)),
  ((⟨"ChoirShipModel", "aliveSet", "()I"⟩, prog_12_method_55_code, 3, some .int), (0, 0), (0, 10)),
  ((⟨"ChoirShipModel", "awakeSet", "()I"⟩, prog_12_method_56_code, 3, some .int), (0, 0), (0, 10)),
  ((⟨"ChoirShipModel", "orderOf", "(II)I"⟩, prog_12_method_57_code, 3, some .int), (0, 0), (2, 10)),
  ((⟨"ChoirShipModel", "man", "(II)I"⟩, prog_12_method_58_code, 3, some .int), (0, 0), (2, 10)),
  ((⟨"ChoirShipModel", "order", "(II)I"⟩, prog_12_method_59_code, 3, some .int), (0, 0), (2, 10)),
  ((⟨"ChoirShipModel", "means", "(II)I"⟩, prog_12_method_60_code, 4, some .int), (0, 0), (2, 10)),
  ((⟨"ChoirShipModel", "becomesMeaning", "()V"⟩, prog_12_method_61_code, 4, none), (0, 0), (0, 10)),
  ((⟨"ChoirShipModel", "orderHeard", "()I"⟩, prog_12_method_62_code, 4, some .int), (0, 0), (0, 10)),
  ((⟨"ChoirShipModel", "ten", "(I)I"⟩, prog_12_method_63_code, 3, some .int), (0, 0), (1, 999)),
  ((⟨"ChoirShipModel", "isRowOf", "(II)Z"⟩, prog_12_method_64_code, 2, some .boolean), (0, 0), (2, 999)),
  ((⟨"ChoirShipModel", "digit", "(III)I"⟩, prog_12_method_65_code, 3, some .int), (0, 0), (3, 999)),
  ((⟨"ChoirShipModel", "meaning", "(II)I"⟩, prog_12_method_66_code, 5, some .int), (0, 0), (2, 10)),
  ((⟨"ChoirShipModel", "wordOfMan", "(I)I"⟩, prog_12_method_67_code, 2, some .int), (0, 0), (1, 10)),
  ((⟨"ChoirShipModel", "areMen", "(II)Z"⟩, prog_12_method_68_code, 6, some .boolean), (0, 0), (2, 10)),
  ((⟨"ChoirShipModel", "wordIn", "(I)I"⟩, prog_12_method_69_code, 2, some .int), (0, 0), (1, 10)),
  ((⟨"ChoirShipModel", "saysRow", "(I)I"⟩, prog_12_method_70_code, 3, some .int), (0, 0), (1, 10)),
  ((⟨"ChoirShipModel", "nextOf", "(III)I"⟩, prog_12_method_71_code, 4, some .int), (0, 0), (3, 999)),
  ((⟨"ChoirShipModel", "findsRow", "(IIII)Z"⟩, prog_12_method_72_code, 8, some .boolean), (0, 0), (4, 10)),
  ((⟨"ChoirShipModel", "marksRows", "(II)V"⟩, prog_12_method_73_code, 7, none), (0, 0), (2, 10)),
  ((⟨"ChoirShipModel", "gathersSays", "(I)V"⟩, prog_12_method_74_code, 4, none), (0, 0), (1, 10)),
  ((⟨"ChoirShipModel", "sayableBy", "(I)I"⟩, prog_12_method_75_code, 2, some .int), (0, 0), (1, 10)),
  ((⟨"ChoirShipModel", "needOf", "(I)I"⟩, prog_12_method_76_code, 4, some .int), (0, 0), (1, 10)),
  ((⟨"ChoirShipModel", "allOrders", "()I"⟩, prog_12_method_77_code, 1, some .int), (0, 0), (0, 10)),
  ((⟨"ChoirShipModel", "keepsAct", "()V"⟩, prog_12_method_78_code, 2, none), (0, 0), (0, 10)),
  ((⟨"ChoirShipModel", "undo", "()I"⟩, prog_12_method_79_code, 2, some .int), (0, 0), (0, 10)),
  ((⟨"ChoirShipModel", "say", "(II)I"⟩, prog_12_method_80_code, 4, some .int), (0, 0), (2, 10)),
  ((⟨"ChoirShipModel", "passes", "()V"⟩, prog_12_method_81_code, 3, none), (0, 0), (0, 10)),
  ((⟨"ChoirShipModel", "hour", "()I"⟩, prog_12_method_82_code, 1, some .int), (0, 0), (0, 10)),
  ((⟨"ChoirShipModel", "wake", "(IZ)Z"⟩, prog_12_method_83_code, 3, some .boolean), (0, 0), (2, 10)),
  ((⟨"ChoirShipModel", "sicken", "(II)I"⟩, prog_12_method_84_code, 4, some .int), (0, 0), (2, 10)),
  ((⟨"ChoirShipModel", "die", "(I)I"⟩, prog_12_method_85_code, 2, some .int), (0, 0), (1, 10)),
  ((⟨"ChoirShipModel", "teach", "(I)I"⟩, prog_12_method_86_code, 3, some .int), (0, 0), (1, 10)),
  ((⟨"ChoirShipModel", "turn", "(I)I"⟩, prog_12_method_87_code, 3, some .int), (0, 0), (1, 10)),
  ((⟨"ChoirShipModel", "needOfWord", "(I)I"⟩, prog_12_method_88_code, 6, some .int), (0, 0), (1, 10)),
  ((⟨"ChoirShipModel", "words", "(I)V"⟩, prog_12_method_89_code, 4, none), (0, 0), (1, 10)),
  ((⟨"ChoirShipModel", "summedBy", "(I)J"⟩, prog_12_method_90_code, 4, some .long), (0, 0), (1, 10)),
  ((⟨"ChoirShipModel", "run", "(II)I"⟩, prog_12_method_91_code, 5, some .int), (0, 0), (2, 10)),
  ((⟨"ChoirShipModel", "sayable", "()I"⟩, prog_12_method_92_code, 1, some .int), (0, 0), (0, 10)),
  ((⟨"ChoirShipModel", "shortest", "(II)I"⟩, prog_12_method_93_code, 4, some .int), (0, 0), (2, 10)),
  ((⟨"ChoirShipModel", "fewest", "(II)I"⟩, prog_12_method_94_code, 7, some .int), (0, 0), (2, 10)),
  ((⟨"ChoirShipModel", "watches", "(II)I"⟩, prog_12_method_95_code, 7, some .int), (0, 0), (2, 10)),
  ((⟨"ChoirShipModel", "boy", "(I)I"⟩, prog_12_method_96_code, 7, some .int), (0, 0), (1, 10)),
  ((⟨"ChoirShipModel", "canBySome", "(II)Z"⟩, prog_12_method_97_code, 5, some .boolean), (0, 0), (2, 10)),
  ((⟨"ChoirShipModel", "lacksOf", "(I)I"⟩, prog_12_method_98_code, 4, some .int), (0, 0), (1, 10)),
  ((⟨"ChoirShipModel", "lacks", "(II)I"⟩, prog_12_method_99_code, 4, some .int), (0, 0), (2, 10)),
  ((⟨"ChoirShipModel", "lesser", "(II)I"⟩, prog_12_method_100_code, 2, some .int), (0, 0), (2, 999)),
  ((⟨"ChoirShipModel", "changesTo", "(I)I"⟩, prog_12_method_101_code, 7, some .int), (0, 0), (1, 10)),
  ((⟨"ChoirShipModel", "nearest", "(III)I"⟩, prog_12_method_102_code, 8, some .int), (0, 0), (3, 10)),
  ((⟨"ChoirShipModel", "done", "(IZ)I"⟩, prog_12_method_103_code, 3, some .int), (0, 0), (2, 10)),
  ((⟨"ChoirShipModel", "isDoneSo", "(I)Z"⟩, prog_12_method_104_code, 3, some .boolean), (0, 0), (1, 10)),
  ((⟨"ChoirShipModel", "awake", "(I)I"⟩, prog_12_method_105_code, 7, some .int), (0, 0), (1, 10)),
  ((⟨"ChoirShipModel", "ask", "(I)I"⟩, prog_12_method_106_code, 9, some .int), (0, 0), (1, 10)),
  ((⟨"ChoirShipModel", "seed", "(I)I"⟩, prog_12_method_107_code, 3, some .int), (0, 0), (1, 10)),
  ((⟨"ChoirShipModel", "draw", "(I)I"⟩, prog_12_method_108_code, 2, some .int), (0, 0), (1, 10)),
  ((⟨"ChoirShipModel", "voyages", "(IIII)I"⟩, prog_12_method_109_code, 11, some .int), (0, 0), (4, 10)),
  ((⟨"ChoirShipModel", "count", "(I)I"⟩, prog_12_method_110_code, 2, some .int), (0, 0), (1, 10)),
  ((⟨"ChoirShipModel", "image", "(I)I"⟩, prog_12_method_111_code, 3, some .int), (0, 0), (1, 10)),
  ((⟨"ChoirShipModel", "back", "(I)I"⟩, prog_12_method_112_code, 3, some .int), (0, 0), (1, 10)),
  ((⟨"java/lang/Integer", "bitCount", "(I)I"⟩, prog_13_method_49_code, 1, some .int), (0, 0), (1, 999)),
  ((⟨"java/lang/String", "length", "()I"⟩, prog_15_method_54_code, 1, some .int), (0, 0), (0, 1000)),
  ((⟨"java/lang/String", "charAt", "(I)C"⟩, prog_15_method_56_code, 2, some .char), (0, 0), (1, 1000)),
  ((⟨"java/lang/String", "coder", "()B"⟩, prog_15_method_152_code, 1, some .byte), (0, 0), (0, 1000)),
  ((⟨"java/lang/String", "isLatin1", "()Z"⟩, prog_15_method_154_code, 1, some .boolean), (0, 0), (0, 1000)),
  ((⟨"java/lang/String", "checkIndex", "(II)V"⟩, prog_15_method_155_code, 2, none), (0, 0), (2, 999)),
  ((⟨"java/lang/StringLatin1", "charAt", "([BI)C"⟩, prog_16_method_2_code, 2, some .char), (0, 0), (2, 999)),
  ((⟨"java/lang/StringUTF16", "getChar", "([BI)C"⟩, prog_17_method_5_code, 2, some .char), (0, 0), (2, 999)),
  ((⟨"java/lang/StringUTF16", "length", "([B)I"⟩, prog_17_method_6_code, 1, some .int), (0, 0), (1, 999)),
  ((⟨"java/lang/StringUTF16", "charAt", "([BI)C"⟩, prog_17_method_83_code, 2, some .char), (0, 0), (2, 999)),
  ((⟨"java/lang/StringUTF16", "checkIndex", "(I[B)V"⟩, prog_17_method_91_code, 2, none), (0, 0), (2, 999)),
  ((⟨"java/util/Arrays", "fill", "([II)V"⟩, prog_19_method_103_code, 4, none), (0, 0), (2, 999)),
  ((⟨"jdk/internal/util/Preconditions", "checkIndex", "(IILjava/util/function/BiFunction;)I"⟩, prog_20_method_11_code, 3, some .int), (0, 0), (3, 999))]
def tb_me (i : Nat) : pm_Me := tb_ms.getD i tb_no
theorem tb_m1 : pm_okM tb_Tg (tb_me 1) := ⟨tb_in 131 (by decide +kernel) (by decide +kernel), tb_in 108 (by decide +kernel) (by decide +kernel), by decide +kernel, ⟨by decide +kernel, by decide +kernel, by decide +kernel⟩, by decide +kernel⟩
theorem tb_m2 : pm_okM tb_Tg (tb_me 2) := ⟨tb_in 543 (by decide +kernel) (by decide +kernel), tb_in 108 (by decide +kernel) (by decide +kernel), by decide +kernel, ⟨by decide +kernel, by decide +kernel, by decide +kernel⟩, by decide +kernel⟩
theorem tb_m3 : pm_okM tb_Tg (tb_me 3) := ⟨tb_in 551 (by decide +kernel) (by decide +kernel), tb_in 108 (by decide +kernel) (by decide +kernel), by decide +kernel, ⟨by decide +kernel, by decide +kernel, by decide +kernel⟩, by decide +kernel⟩
theorem tb_m4 : pm_okM tb_Tg (tb_me 4) := ⟨tb_in 555 (by decide +kernel) (by decide +kernel), tb_in 108 (by decide +kernel) (by decide +kernel), by decide +kernel, ⟨by decide +kernel, by decide +kernel, by decide +kernel⟩, by decide +kernel⟩
theorem tb_m5 : pm_okM tb_Tg (tb_me 5) := ⟨tb_in 767 (by decide +kernel) (by decide +kernel), tb_in 108 (by decide +kernel) (by decide +kernel), by decide +kernel, ⟨by decide +kernel, by decide +kernel, by decide +kernel⟩, by decide +kernel⟩
theorem tb_m6 : pm_okM tb_Tg (tb_me 6) := ⟨tb_in 816 (by decide +kernel) (by decide +kernel), tb_in 108 (by decide +kernel) (by decide +kernel), by decide +kernel, ⟨by decide +kernel, by decide +kernel, by decide +kernel⟩, by decide +kernel⟩
theorem tb_m7 : pm_okM tb_Tg (tb_me 7) := ⟨tb_in 839 (by decide +kernel) (by decide +kernel), tb_in 108 (by decide +kernel) (by decide +kernel), by decide +kernel, ⟨by decide +kernel, by decide +kernel, by decide +kernel⟩, by decide +kernel⟩
theorem tb_m8 : pm_okM tb_Tg (tb_me 8) := ⟨tb_in 845 (by decide +kernel) (by decide +kernel), tb_in 108 (by decide +kernel) (by decide +kernel), by decide +kernel, ⟨by decide +kernel, by decide +kernel, by decide +kernel⟩, by decide +kernel⟩
theorem tb_m9 : pm_okM tb_Tg (tb_me 9) := ⟨tb_in 851 (by decide +kernel) (by decide +kernel), tb_in 108 (by decide +kernel) (by decide +kernel), by decide +kernel, ⟨by decide +kernel, by decide +kernel, by decide +kernel⟩, by decide +kernel⟩
theorem tb_m10 : pm_okM tb_Tg (tb_me 10) := ⟨tb_in 870 (by decide +kernel) (by decide +kernel), tb_in 108 (by decide +kernel) (by decide +kernel), by decide +kernel, ⟨by decide +kernel, by decide +kernel, by decide +kernel⟩, by decide +kernel⟩
theorem tb_m11 : pm_okM tb_Tg (tb_me 11) := ⟨tb_in 904 (by decide +kernel) (by decide +kernel), tb_in 108 (by decide +kernel) (by decide +kernel), by decide +kernel, ⟨by decide +kernel, by decide +kernel, by decide +kernel⟩, by decide +kernel⟩
theorem tb_m12 : pm_okM tb_Tg (tb_me 12) := ⟨tb_in 920 (by decide +kernel) (by decide +kernel), tb_in 108 (by decide +kernel) (by decide +kernel), by decide +kernel, ⟨by decide +kernel, by decide +kernel, by decide +kernel⟩, by decide +kernel⟩
theorem tb_m13 : pm_okM tb_Tg (tb_me 13) := ⟨tb_in 932 (by decide +kernel) (by decide +kernel), tb_in 108 (by decide +kernel) (by decide +kernel), by decide +kernel, ⟨by decide +kernel, by decide +kernel, by decide +kernel⟩, by decide +kernel⟩
theorem tb_m14 : pm_okM tb_Tg (tb_me 14) := ⟨tb_in 936 (by decide +kernel) (by decide +kernel), tb_in 108 (by decide +kernel) (by decide +kernel), by decide +kernel, ⟨by decide +kernel, by decide +kernel, by decide +kernel⟩, by decide +kernel⟩
theorem tb_m15 : pm_okM tb_Tg (tb_me 15) := ⟨tb_in 947 (by decide +kernel) (by decide +kernel), tb_in 108 (by decide +kernel) (by decide +kernel), by decide +kernel, ⟨by decide +kernel, by decide +kernel, by decide +kernel⟩, by decide +kernel⟩
theorem tb_m16 : pm_okM tb_Tg (tb_me 16) := ⟨tb_in 951 (by decide +kernel) (by decide +kernel), tb_in 108 (by decide +kernel) (by decide +kernel), by decide +kernel, ⟨by decide +kernel, by decide +kernel, by decide +kernel⟩, by decide +kernel⟩
theorem tb_m17 : pm_okM tb_Tg (tb_me 17) := ⟨tb_in 955 (by decide +kernel) (by decide +kernel), tb_in 108 (by decide +kernel) (by decide +kernel), by decide +kernel, ⟨by decide +kernel, by decide +kernel, by decide +kernel⟩, by decide +kernel⟩
theorem tb_m18 : pm_okM tb_Tg (tb_me 18) := ⟨tb_in 963 (by decide +kernel) (by decide +kernel), tb_in 108 (by decide +kernel) (by decide +kernel), by decide +kernel, ⟨by decide +kernel, by decide +kernel, by decide +kernel⟩, by decide +kernel⟩
theorem tb_m19 : pm_okM tb_Tg (tb_me 19) := ⟨tb_in 1002 (by decide +kernel) (by decide +kernel), tb_in 108 (by decide +kernel) (by decide +kernel), by decide +kernel, ⟨by decide +kernel, by decide +kernel, by decide +kernel⟩, by decide +kernel⟩
theorem tb_m20 : pm_okM tb_Tg (tb_me 20) := ⟨tb_in 1027 (by decide +kernel) (by decide +kernel), tb_in 108 (by decide +kernel) (by decide +kernel), by decide +kernel, ⟨by decide +kernel, by decide +kernel, by decide +kernel⟩, by decide +kernel⟩
theorem tb_m21 : pm_okM tb_Tg (tb_me 21) := ⟨tb_in 1054 (by decide +kernel) (by decide +kernel), tb_in 108 (by decide +kernel) (by decide +kernel), by decide +kernel, ⟨by decide +kernel, by decide +kernel, by decide +kernel⟩, by decide +kernel⟩
theorem tb_m22 : pm_okM tb_Tg (tb_me 22) := ⟨tb_in 1069 (by decide +kernel) (by decide +kernel), tb_in 108 (by decide +kernel) (by decide +kernel), by decide +kernel, ⟨by decide +kernel, by decide +kernel, by decide +kernel⟩, by decide +kernel⟩
theorem tb_m23 : pm_okM tb_Tg (tb_me 23) := ⟨tb_in 1078 (by decide +kernel) (by decide +kernel), tb_in 108 (by decide +kernel) (by decide +kernel), by decide +kernel, ⟨by decide +kernel, by decide +kernel, by decide +kernel⟩, by decide +kernel⟩
theorem tb_m24 : pm_okM tb_Tg (tb_me 24) := ⟨tb_in 1094 (by decide +kernel) (by decide +kernel), tb_in 108 (by decide +kernel) (by decide +kernel), by decide +kernel, ⟨by decide +kernel, by decide +kernel, by decide +kernel⟩, by decide +kernel⟩
theorem tb_m25 : pm_okM tb_Tg (tb_me 25) := ⟨tb_in 1117 (by decide +kernel) (by decide +kernel), tb_in 108 (by decide +kernel) (by decide +kernel), by decide +kernel, ⟨by decide +kernel, by decide +kernel, by decide +kernel⟩, by decide +kernel⟩
theorem tb_m26 : pm_okM tb_Tg (tb_me 26) := ⟨tb_in 1131 (by decide +kernel) (by decide +kernel), tb_in 108 (by decide +kernel) (by decide +kernel), by decide +kernel, ⟨by decide +kernel, by decide +kernel, by decide +kernel⟩, by decide +kernel⟩
theorem tb_m27 : pm_okM tb_Tg (tb_me 27) := ⟨tb_in 1139 (by decide +kernel) (by decide +kernel), tb_in 108 (by decide +kernel) (by decide +kernel), by decide +kernel, ⟨by decide +kernel, by decide +kernel, by decide +kernel⟩, by decide +kernel⟩
theorem tb_m28 : pm_okM tb_Tg (tb_me 28) := ⟨tb_in 1156 (by decide +kernel) (by decide +kernel), tb_in 108 (by decide +kernel) (by decide +kernel), by decide +kernel, ⟨by decide +kernel, by decide +kernel, by decide +kernel⟩, by decide +kernel⟩
theorem tb_m29 : pm_okM tb_Tg (tb_me 29) := ⟨tb_in 1169 (by decide +kernel) (by decide +kernel), tb_in 108 (by decide +kernel) (by decide +kernel), by decide +kernel, ⟨by decide +kernel, by decide +kernel, by decide +kernel⟩, by decide +kernel⟩
theorem tb_m30 : pm_okM tb_Tg (tb_me 30) := ⟨tb_in 1173 (by decide +kernel) (by decide +kernel), tb_in 108 (by decide +kernel) (by decide +kernel), by decide +kernel, ⟨by decide +kernel, by decide +kernel, by decide +kernel⟩, by decide +kernel⟩
theorem tb_m31 : pm_okM tb_Tg (tb_me 31) := ⟨tb_in 1196 (by decide +kernel) (by decide +kernel), tb_in 108 (by decide +kernel) (by decide +kernel), by decide +kernel, ⟨by decide +kernel, by decide +kernel, by decide +kernel⟩, by decide +kernel⟩
theorem tb_m32 : pm_okM tb_Tg (tb_me 32) := ⟨tb_in 1200 (by decide +kernel) (by decide +kernel), tb_in 108 (by decide +kernel) (by decide +kernel), by decide +kernel, ⟨by decide +kernel, by decide +kernel, by decide +kernel⟩, by decide +kernel⟩
theorem tb_m33 : pm_okM tb_Tg (tb_me 33) := ⟨tb_in 1210 (by decide +kernel) (by decide +kernel), tb_in 108 (by decide +kernel) (by decide +kernel), by decide +kernel, ⟨by decide +kernel, by decide +kernel, by decide +kernel⟩, by decide +kernel⟩
theorem tb_m34 : pm_okM tb_Tg (tb_me 34) := ⟨tb_in 823 (by decide +kernel) (by decide +kernel), tb_in 108 (by decide +kernel) (by decide +kernel), by decide +kernel, ⟨by decide +kernel, by decide +kernel, by decide +kernel⟩, by decide +kernel⟩
theorem tb_m35 : pm_okM tb_Tg (tb_me 35) := ⟨tb_in 924 (by decide +kernel) (by decide +kernel), tb_in 108 (by decide +kernel) (by decide +kernel), by decide +kernel, ⟨by decide +kernel, by decide +kernel, by decide +kernel⟩, by decide +kernel⟩
theorem tb_m36 : pm_okM tb_Tg (tb_me 36) := ⟨tb_in 559 (by decide +kernel) (by decide +kernel), tb_in 108 (by decide +kernel) (by decide +kernel), by decide +kernel, ⟨by decide +kernel, by decide +kernel, by decide +kernel⟩, by decide +kernel⟩
theorem tb_m37 : pm_okM tb_Tg (tb_me 37) := ⟨tb_in 563 (by decide +kernel) (by decide +kernel), tb_in 108 (by decide +kernel) (by decide +kernel), by decide +kernel, ⟨by decide +kernel, by decide +kernel, by decide +kernel⟩, by decide +kernel⟩
theorem tb_m38 : pm_okM tb_Tg (tb_me 38) := ⟨tb_in 855 (by decide +kernel) (by decide +kernel), tb_in 108 (by decide +kernel) (by decide +kernel), by decide +kernel, ⟨by decide +kernel, by decide +kernel, by decide +kernel⟩, by decide +kernel⟩
theorem tb_m39 : pm_okM tb_Tg (tb_me 39) := ⟨tb_in 874 (by decide +kernel) (by decide +kernel), tb_in 108 (by decide +kernel) (by decide +kernel), by decide +kernel, ⟨by decide +kernel, by decide +kernel, by decide +kernel⟩, by decide +kernel⟩
theorem tb_m40 : pm_okM tb_Tg (tb_me 40) := ⟨tb_in 888 (by decide +kernel) (by decide +kernel), tb_in 108 (by decide +kernel) (by decide +kernel), by decide +kernel, ⟨by decide +kernel, by decide +kernel, by decide +kernel⟩, by decide +kernel⟩
theorem tb_m41 : pm_okM tb_Tg (tb_me 41) := ⟨tb_in 967 (by decide +kernel) (by decide +kernel), tb_in 108 (by decide +kernel) (by decide +kernel), by decide +kernel, ⟨by decide +kernel, by decide +kernel, by decide +kernel⟩, by decide +kernel⟩
theorem tb_m42 : pm_okM tb_Tg (tb_me 42) := ⟨tb_in 249 (by decide +kernel) (by decide +kernel), tb_in 112 (by decide +kernel) (by decide +kernel), by decide +kernel, ⟨by decide +kernel, by decide +kernel, by decide +kernel⟩, by decide +kernel⟩
theorem tb_m43 : pm_okM tb_Tg (tb_me 43) := ⟨tb_in 696 (by decide +kernel) (by decide +kernel), tb_in 112 (by decide +kernel) (by decide +kernel), by decide +kernel, ⟨by decide +kernel, by decide +kernel, by decide +kernel⟩, by decide +kernel⟩
theorem tb_m44 : pm_okM tb_Tg (tb_me 44) := ⟨tb_in 1006 (by decide +kernel) (by decide +kernel), tb_in 112 (by decide +kernel) (by decide +kernel), by decide +kernel, ⟨by decide +kernel, by decide +kernel, by decide +kernel⟩, by decide +kernel⟩
theorem tb_m45 : pm_okM tb_Tg (tb_me 45) := ⟨tb_in 1031 (by decide +kernel) (by decide +kernel), tb_in 112 (by decide +kernel) (by decide +kernel), by decide +kernel, ⟨by decide +kernel, by decide +kernel, by decide +kernel⟩, by decide +kernel⟩
theorem tb_m46 : pm_okM tb_Tg (tb_me 46) := ⟨tb_in 1040 (by decide +kernel) (by decide +kernel), tb_in 112 (by decide +kernel) (by decide +kernel), by decide +kernel, ⟨by decide +kernel, by decide +kernel, by decide +kernel⟩, by decide +kernel⟩
theorem tb_m47 : pm_okM tb_Tg (tb_me 47) := ⟨tb_in 1044 (by decide +kernel) (by decide +kernel), tb_in 112 (by decide +kernel) (by decide +kernel), by decide +kernel, ⟨by decide +kernel, by decide +kernel, by decide +kernel⟩, by decide +kernel⟩
theorem tb_m48 : pm_okM tb_Tg (tb_me 48) := ⟨tb_in 1049 (by decide +kernel) (by decide +kernel), tb_in 112 (by decide +kernel) (by decide +kernel), by decide +kernel, ⟨by decide +kernel, by decide +kernel, by decide +kernel⟩, by decide +kernel⟩
theorem tb_m49 : pm_okM tb_Tg (tb_me 49) := ⟨tb_in 1063 (by decide +kernel) (by decide +kernel), tb_in 112 (by decide +kernel) (by decide +kernel), by decide +kernel, ⟨by decide +kernel, by decide +kernel, by decide +kernel⟩, by decide +kernel⟩
theorem tb_m50 : pm_okM tb_Tg (tb_me 50) := ⟨tb_in 1073 (by decide +kernel) (by decide +kernel), tb_in 112 (by decide +kernel) (by decide +kernel), by decide +kernel, ⟨by decide +kernel, by decide +kernel, by decide +kernel⟩, by decide +kernel⟩
theorem tb_m51 : pm_okM tb_Tg (tb_me 51) := ⟨tb_in 1086 (by decide +kernel) (by decide +kernel), tb_in 112 (by decide +kernel) (by decide +kernel), by decide +kernel, ⟨by decide +kernel, by decide +kernel, by decide +kernel⟩, by decide +kernel⟩
theorem tb_m52 : pm_okM tb_Tg (tb_me 52) := ⟨tb_in 1089 (by decide +kernel) (by decide +kernel), tb_in 112 (by decide +kernel) (by decide +kernel), by decide +kernel, ⟨by decide +kernel, by decide +kernel, by decide +kernel⟩, by decide +kernel⟩
theorem tb_m53 : pm_okM tb_Tg (tb_me 53) := ⟨tb_in 1082 (by decide +kernel) (by decide +kernel), tb_in 112 (by decide +kernel) (by decide +kernel), by decide +kernel, ⟨by decide +kernel, by decide +kernel, by decide +kernel⟩, by decide +kernel⟩
theorem tb_m54 : pm_okM tb_Tg (tb_me 54) := ⟨tb_in 1098 (by decide +kernel) (by decide +kernel), tb_in 112 (by decide +kernel) (by decide +kernel), by decide +kernel, ⟨by decide +kernel, by decide +kernel, by decide +kernel⟩, by decide +kernel⟩
theorem tb_m55 : pm_okM tb_Tg (tb_me 55) := ⟨tb_in 1103 (by decide +kernel) (by decide +kernel), tb_in 112 (by decide +kernel) (by decide +kernel), by decide +kernel, ⟨by decide +kernel, by decide +kernel, by decide +kernel⟩, by decide +kernel⟩
theorem tb_m56 : pm_okM tb_Tg (tb_me 56) := ⟨tb_in 1107 (by decide +kernel) (by decide +kernel), tb_in 112 (by decide +kernel) (by decide +kernel), by decide +kernel, ⟨by decide +kernel, by decide +kernel, by decide +kernel⟩, by decide +kernel⟩
theorem tb_m57 : pm_okM tb_Tg (tb_me 57) := ⟨tb_in 1113 (by decide +kernel) (by decide +kernel), tb_in 112 (by decide +kernel) (by decide +kernel), by decide +kernel, ⟨by decide +kernel, by decide +kernel, by decide +kernel⟩, by decide +kernel⟩
theorem tb_m58 : pm_okM tb_Tg (tb_me 58) := ⟨tb_in 1121 (by decide +kernel) (by decide +kernel), tb_in 112 (by decide +kernel) (by decide +kernel), by decide +kernel, ⟨by decide +kernel, by decide +kernel, by decide +kernel⟩, by decide +kernel⟩
theorem tb_m59 : pm_okM tb_Tg (tb_me 59) := ⟨tb_in 1125 (by decide +kernel) (by decide +kernel), tb_in 112 (by decide +kernel) (by decide +kernel), by decide +kernel, ⟨by decide +kernel, by decide +kernel, by decide +kernel⟩, by decide +kernel⟩
theorem tb_m60 : pm_okM tb_Tg (tb_me 60) := ⟨tb_in 1143 (by decide +kernel) (by decide +kernel), tb_in 112 (by decide +kernel) (by decide +kernel), by decide +kernel, ⟨by decide +kernel, by decide +kernel, by decide +kernel⟩, by decide +kernel⟩
theorem tb_m61 : pm_okM tb_Tg (tb_me 61) := ⟨tb_in 1152 (by decide +kernel) (by decide +kernel), tb_in 112 (by decide +kernel) (by decide +kernel), by decide +kernel, ⟨by decide +kernel, by decide +kernel, by decide +kernel⟩, by decide +kernel⟩
theorem tb_m62 : pm_okM tb_Tg (tb_me 62) := ⟨tb_in 1164 (by decide +kernel) (by decide +kernel), tb_in 112 (by decide +kernel) (by decide +kernel), by decide +kernel, ⟨by decide +kernel, by decide +kernel, by decide +kernel⟩, by decide +kernel⟩
theorem tb_m63 : pm_okM tb_Tg (tb_me 63) := ⟨tb_in 1160 (by decide +kernel) (by decide +kernel), tb_in 112 (by decide +kernel) (by decide +kernel), by decide +kernel, ⟨by decide +kernel, by decide +kernel, by decide +kernel⟩, by decide +kernel⟩
theorem tb_m64 : pm_okM tb_Tg (tb_me 64) := ⟨tb_in 1177 (by decide +kernel) (by decide +kernel), tb_in 112 (by decide +kernel) (by decide +kernel), by decide +kernel, ⟨by decide +kernel, by decide +kernel, by decide +kernel⟩, by decide +kernel⟩
theorem tb_m65 : pm_okM tb_Tg (tb_me 65) := ⟨tb_in 1182 (by decide +kernel) (by decide +kernel), tb_in 112 (by decide +kernel) (by decide +kernel), by decide +kernel, ⟨by decide +kernel, by decide +kernel, by decide +kernel⟩, by decide +kernel⟩
theorem tb_m66 : pm_okM tb_Tg (tb_me 66) := ⟨tb_in 1186 (by decide +kernel) (by decide +kernel), tb_in 112 (by decide +kernel) (by decide +kernel), by decide +kernel, ⟨by decide +kernel, by decide +kernel, by decide +kernel⟩, by decide +kernel⟩
theorem tb_m67 : pm_okM tb_Tg (tb_me 67) := ⟨tb_in 255 (by decide +kernel) (by decide +kernel), tb_in 113 (by decide +kernel) (by decide +kernel), by decide +kernel, ⟨by decide +kernel, by decide +kernel, by decide +kernel⟩, by decide +kernel⟩
theorem tb_m68 : pm_okM tb_Tg (tb_me 68) := ⟨tb_in 700 (by decide +kernel) (by decide +kernel), tb_in 113 (by decide +kernel) (by decide +kernel), by decide +kernel, ⟨by decide +kernel, by decide +kernel, by decide +kernel⟩, by decide +kernel⟩
theorem tb_m69 : pm_okM tb_Tg (tb_me 69) := ⟨tb_in 1011 (by decide +kernel) (by decide +kernel), tb_in 113 (by decide +kernel) (by decide +kernel), by decide +kernel, ⟨by decide +kernel, by decide +kernel, by decide +kernel⟩, by decide +kernel⟩
theorem tb_m70 : pm_okM tb_Tg (tb_me 70) := ⟨tb_in 1016 (by decide +kernel) (by decide +kernel), tb_in 113 (by decide +kernel) (by decide +kernel), by decide +kernel, ⟨by decide +kernel, by decide +kernel, by decide +kernel⟩, by decide +kernel⟩
theorem tb_m71 : pm_okM tb_Tg (tb_me 71) := ⟨tb_in 1021 (by decide +kernel) (by decide +kernel), tb_in 113 (by decide +kernel) (by decide +kernel), by decide +kernel, ⟨by decide +kernel, by decide +kernel, by decide +kernel⟩, by decide +kernel⟩
theorem tb_m72 : pm_okM tb_Tg (tb_me 72) := ⟨tb_in 756 (by decide +kernel) (by decide +kernel), tb_in 113 (by decide +kernel) (by decide +kernel), by decide +kernel, ⟨by decide +kernel, by decide +kernel, by decide +kernel⟩, by decide +kernel⟩
theorem tb_m73 : pm_okM tb_Tg (tb_me 73) := ⟨tb_in 760 (by decide +kernel) (by decide +kernel), tb_in 113 (by decide +kernel) (by decide +kernel), by decide +kernel, ⟨by decide +kernel, by decide +kernel, by decide +kernel⟩, by decide +kernel⟩
theorem tb_m74 : pm_okM tb_Tg (tb_me 74) := ⟨tb_in 194 (by decide +kernel) (by decide +kernel), tb_in 111 (by decide +kernel) (by decide +kernel), by decide +kernel, ⟨by decide +kernel, by decide +kernel, by decide +kernel⟩, by decide +kernel⟩
theorem tb_m75 : pm_okM tb_Tg (tb_me 75) := ⟨tb_in 687 (by decide +kernel) (by decide +kernel), tb_in 111 (by decide +kernel) (by decide +kernel), by decide +kernel, ⟨by decide +kernel, by decide +kernel, by decide +kernel⟩, by decide +kernel⟩
theorem tb_m76 : pm_okM tb_Tg (tb_me 76) := ⟨tb_in 882 (by decide +kernel) (by decide +kernel), tb_in 111 (by decide +kernel) (by decide +kernel), by decide +kernel, ⟨by decide +kernel, by decide +kernel, by decide +kernel⟩, by decide +kernel⟩
theorem tb_m77 : pm_okM tb_Tg (tb_me 77) := ⟨tb_in 928 (by decide +kernel) (by decide +kernel), tb_in 111 (by decide +kernel) (by decide +kernel), by decide +kernel, ⟨by decide +kernel, by decide +kernel, by decide +kernel⟩, by decide +kernel⟩
theorem tb_m78 : pm_okM tb_Tg (tb_me 78) := ⟨tb_in 912 (by decide +kernel) (by decide +kernel), tb_in 111 (by decide +kernel) (by decide +kernel), by decide +kernel, ⟨by decide +kernel, by decide +kernel, by decide +kernel⟩, by decide +kernel⟩
theorem tb_m79 : pm_okM tb_Tg (tb_me 79) := ⟨tb_in 835 (by decide +kernel) (by decide +kernel), tb_in 111 (by decide +kernel) (by decide +kernel), by decide +kernel, ⟨by decide +kernel, by decide +kernel, by decide +kernel⟩, by decide +kernel⟩
theorem tb_m80 : pm_okM tb_Tg (tb_me 80) := ⟨tb_in 831 (by decide +kernel) (by decide +kernel), tb_in 111 (by decide +kernel) (by decide +kernel), by decide +kernel, ⟨by decide +kernel, by decide +kernel, by decide +kernel⟩, by decide +kernel⟩
theorem tb_m81 : pm_okM tb_Tg (tb_me 81) := ⟨tb_in 827 (by decide +kernel) (by decide +kernel), tb_in 111 (by decide +kernel) (by decide +kernel), by decide +kernel, ⟨by decide +kernel, by decide +kernel, by decide +kernel⟩, by decide +kernel⟩
theorem tb_m82 : pm_okM tb_Tg (tb_me 82) := ⟨tb_in 187 (by decide +kernel) (by decide +kernel), tb_in 110 (by decide +kernel) (by decide +kernel), by decide +kernel, ⟨by decide +kernel, by decide +kernel, by decide +kernel⟩, by decide +kernel⟩
theorem tb_m83 : pm_okM tb_Tg (tb_me 83) := ⟨tb_in 692 (by decide +kernel) (by decide +kernel), tb_in 110 (by decide +kernel) (by decide +kernel), by decide +kernel, ⟨by decide +kernel, by decide +kernel, by decide +kernel⟩, by decide +kernel⟩
theorem tb_m84 : pm_okM tb_Tg (tb_me 84) := ⟨tb_in 878 (by decide +kernel) (by decide +kernel), tb_in 110 (by decide +kernel) (by decide +kernel), by decide +kernel, ⟨by decide +kernel, by decide +kernel, by decide +kernel⟩, by decide +kernel⟩
theorem tb_m85 : pm_okM tb_Tg (tb_me 85) := ⟨tb_in 959 (by decide +kernel) (by decide +kernel), tb_in 110 (by decide +kernel) (by decide +kernel), by decide +kernel, ⟨by decide +kernel, by decide +kernel, by decide +kernel⟩, by decide +kernel⟩
theorem tb_m86 : pm_okM tb_Tg (tb_me 86) := ⟨tb_in 261 (by decide +kernel) (by decide +kernel), tb_in 114 (by decide +kernel) (by decide +kernel), by decide +kernel, ⟨by decide +kernel, by decide +kernel, by decide +kernel⟩, by decide +kernel⟩
theorem tb_m87 : pm_okM tb_Tg (tb_me 87) := ⟨tb_in 705 (by decide +kernel) (by decide +kernel), tb_in 114 (by decide +kernel) (by decide +kernel), by decide +kernel, ⟨by decide +kernel, by decide +kernel, by decide +kernel⟩, by decide +kernel⟩
theorem tb_m88 : pm_okM tb_Tg (tb_me 88) := ⟨tb_in 752 (by decide +kernel) (by decide +kernel), tb_in 114 (by decide +kernel) (by decide +kernel), by decide +kernel, ⟨by decide +kernel, by decide +kernel, by decide +kernel⟩, by decide +kernel⟩
theorem tb_m89 : pm_okM tb_Tg (tb_me 89) := ⟨tb_in 736 (by decide +kernel) (by decide +kernel), tb_in 114 (by decide +kernel) (by decide +kernel), by decide +kernel, ⟨by decide +kernel, by decide +kernel, by decide +kernel⟩, by decide +kernel⟩
theorem tb_m90 : pm_okM tb_Tg (tb_me 90) := ⟨tb_in 727 (by decide +kernel) (by decide +kernel), tb_in 114 (by decide +kernel) (by decide +kernel), by decide +kernel, ⟨by decide +kernel, by decide +kernel, by decide +kernel⟩, by decide +kernel⟩
theorem tb_m91 : pm_okM tb_Tg (tb_me 91) := ⟨tb_in 732 (by decide +kernel) (by decide +kernel), tb_in 114 (by decide +kernel) (by decide +kernel), by decide +kernel, ⟨by decide +kernel, by decide +kernel, by decide +kernel⟩, by decide +kernel⟩
theorem tb_m92 : pm_okM tb_Tg (tb_me 92) := ⟨tb_in 745 (by decide +kernel) (by decide +kernel), tb_in 114 (by decide +kernel) (by decide +kernel), by decide +kernel, ⟨by decide +kernel, by decide +kernel, by decide +kernel⟩, by decide +kernel⟩
theorem tb_m93 : pm_okM tb_Tg (tb_me 93) := ⟨tb_in 384 (by decide +kernel) (by decide +kernel), tb_in 115 (by decide +kernel) (by decide +kernel), by decide +kernel, ⟨by decide +kernel, by decide +kernel, by decide +kernel⟩, by decide +kernel⟩
theorem tb_m94 : pm_okM tb_Tg (tb_me 94) := ⟨tb_in 771 (by decide +kernel) (by decide +kernel), tb_in 115 (by decide +kernel) (by decide +kernel), by decide +kernel, ⟨by decide +kernel, by decide +kernel, by decide +kernel⟩, by decide +kernel⟩
theorem tb_m95 : pm_okM tb_Tg (tb_me 95) := ⟨tb_in 798 (by decide +kernel) (by decide +kernel), tb_in 115 (by decide +kernel) (by decide +kernel), by decide +kernel, ⟨by decide +kernel, by decide +kernel, by decide +kernel⟩, by decide +kernel⟩
theorem tb_m96 : pm_okM tb_Tg (tb_me 96) := ⟨tb_in 802 (by decide +kernel) (by decide +kernel), tb_in 115 (by decide +kernel) (by decide +kernel), by decide +kernel, ⟨by decide +kernel, by decide +kernel, by decide +kernel⟩, by decide +kernel⟩
theorem tb_m97 : pm_okM tb_Tg (tb_me 97) := ⟨tb_in 807 (by decide +kernel) (by decide +kernel), tb_in 115 (by decide +kernel) (by decide +kernel), by decide +kernel, ⟨by decide +kernel, by decide +kernel, by decide +kernel⟩, by decide +kernel⟩
theorem tb_m98 : pm_okM tb_Tg (tb_me 98) := ⟨tb_in 783 (by decide +kernel) (by decide +kernel), tb_in 115 (by decide +kernel) (by decide +kernel), by decide +kernel, ⟨by decide +kernel, by decide +kernel, by decide +kernel⟩, by decide +kernel⟩
theorem tb_m99 : pm_okM tb_Tg (tb_me 99) := ⟨tb_in 787 (by decide +kernel) (by decide +kernel), tb_in 115 (by decide +kernel) (by decide +kernel), by decide +kernel, ⟨by decide +kernel, by decide +kernel, by decide +kernel⟩, by decide +kernel⟩
theorem tb_m100 : pm_okM tb_Tg (tb_me 100) := ⟨tb_in 810 (by decide +kernel) (by decide +kernel), tb_in 115 (by decide +kernel) (by decide +kernel), by decide +kernel, ⟨by decide +kernel, by decide +kernel, by decide +kernel⟩, by decide +kernel⟩
theorem tb_m101 : pm_okM tb_Tg (tb_me 101) := ⟨tb_in 793 (by decide +kernel) (by decide +kernel), tb_in 115 (by decide +kernel) (by decide +kernel), by decide +kernel, ⟨by decide +kernel, by decide +kernel, by decide +kernel⟩, by decide +kernel⟩
theorem tb_m102 : pm_okM tb_Tg (tb_me 102) := ⟨tb_in 971 (by decide +kernel) (by decide +kernel), tb_in 115 (by decide +kernel) (by decide +kernel), by decide +kernel, ⟨by decide +kernel, by decide +kernel, by decide +kernel⟩, by decide +kernel⟩
theorem tb_m103 : pm_okM tb_Tg (tb_me 103) := ⟨tb_in 979 (by decide +kernel) (by decide +kernel), tb_in 115 (by decide +kernel) (by decide +kernel), by decide +kernel, ⟨by decide +kernel, by decide +kernel, by decide +kernel⟩, by decide +kernel⟩
theorem tb_m104 : pm_okM tb_Tg (tb_me 104) := ⟨tb_in 975 (by decide +kernel) (by decide +kernel), tb_in 115 (by decide +kernel) (by decide +kernel), by decide +kernel, ⟨by decide +kernel, by decide +kernel, by decide +kernel⟩, by decide +kernel⟩
theorem tb_m105 : pm_okM tb_Tg (tb_me 105) := ⟨tb_in 998 (by decide +kernel) (by decide +kernel), tb_in 115 (by decide +kernel) (by decide +kernel), by decide +kernel, ⟨by decide +kernel, by decide +kernel, by decide +kernel⟩, by decide +kernel⟩
theorem tb_m106 : pm_okM tb_Tg (tb_me 106) := ⟨tb_in 982 (by decide +kernel) (by decide +kernel), tb_in 115 (by decide +kernel) (by decide +kernel), by decide +kernel, ⟨by decide +kernel, by decide +kernel, by decide +kernel⟩, by decide +kernel⟩
theorem tb_m107 : pm_okM tb_Tg (tb_me 107) := ⟨tb_in 987 (by decide +kernel) (by decide +kernel), tb_in 115 (by decide +kernel) (by decide +kernel), by decide +kernel, ⟨by decide +kernel, by decide +kernel, by decide +kernel⟩, by decide +kernel⟩
theorem tb_m108 : pm_okM tb_Tg (tb_me 108) := ⟨tb_in 992 (by decide +kernel) (by decide +kernel), tb_in 115 (by decide +kernel) (by decide +kernel), by decide +kernel, ⟨by decide +kernel, by decide +kernel, by decide +kernel⟩, by decide +kernel⟩
theorem tb_m109 : pm_okM tb_Tg (tb_me 109) := ⟨tb_in 406 (by decide +kernel) (by decide +kernel), tb_in 116 (by decide +kernel) (by decide +kernel), by decide +kernel, ⟨by decide +kernel, by decide +kernel, by decide +kernel⟩, by decide +kernel⟩
theorem tb_m110 : pm_okM tb_Tg (tb_me 110) := ⟨tb_in 908 (by decide +kernel) (by decide +kernel), tb_in 116 (by decide +kernel) (by decide +kernel), by decide +kernel, ⟨by decide +kernel, by decide +kernel, by decide +kernel⟩, by decide +kernel⟩
theorem tb_m111 : pm_okM tb_Tg (tb_me 111) := ⟨tb_in 671 (by decide +kernel) (by decide +kernel), tb_in 116 (by decide +kernel) (by decide +kernel), by decide +kernel, ⟨by decide +kernel, by decide +kernel, by decide +kernel⟩, by decide +kernel⟩
theorem tb_m112 : pm_okM tb_Tg (tb_me 112) := ⟨tb_in 820 (by decide +kernel) (by decide +kernel), tb_in 116 (by decide +kernel) (by decide +kernel), by decide +kernel, ⟨by decide +kernel, by decide +kernel, by decide +kernel⟩, by decide +kernel⟩
theorem tb_m113 : pm_okM tb_Tg (tb_me 113) := ⟨tb_in 713 (by decide +kernel) (by decide +kernel), tb_in 116 (by decide +kernel) (by decide +kernel), by decide +kernel, ⟨by decide +kernel, by decide +kernel, by decide +kernel⟩, by decide +kernel⟩
theorem tb_m114 : pm_okM tb_Tg (tb_me 114) := ⟨tb_in 1058 (by decide +kernel) (by decide +kernel), tb_in 116 (by decide +kernel) (by decide +kernel), by decide +kernel, ⟨by decide +kernel, by decide +kernel, by decide +kernel⟩, by decide +kernel⟩
theorem tb_m115 : pm_okM tb_Tg (tb_me 115) := ⟨tb_in 892 (by decide +kernel) (by decide +kernel), tb_in 116 (by decide +kernel) (by decide +kernel), by decide +kernel, ⟨by decide +kernel, by decide +kernel, by decide +kernel⟩, by decide +kernel⟩
theorem tb_m116 : pm_okM tb_Tg (tb_me 116) := ⟨tb_in 717 (by decide +kernel) (by decide +kernel), tb_in 116 (by decide +kernel) (by decide +kernel), by decide +kernel, ⟨by decide +kernel, by decide +kernel, by decide +kernel⟩, by decide +kernel⟩
theorem tb_m117 : pm_okM tb_Tg (tb_me 117) := ⟨tb_in 679 (by decide +kernel) (by decide +kernel), tb_in 116 (by decide +kernel) (by decide +kernel), by decide +kernel, ⟨by decide +kernel, by decide +kernel, by decide +kernel⟩, by decide +kernel⟩
theorem tb_m118 : pm_okM tb_Tg (tb_me 118) := ⟨tb_in 859 (by decide +kernel) (by decide +kernel), tb_in 116 (by decide +kernel) (by decide +kernel), by decide +kernel, ⟨by decide +kernel, by decide +kernel, by decide +kernel⟩, by decide +kernel⟩
theorem tb_m119 : pm_okM tb_Tg (tb_me 119) := ⟨tb_in 866 (by decide +kernel) (by decide +kernel), tb_in 116 (by decide +kernel) (by decide +kernel), by decide +kernel, ⟨by decide +kernel, by decide +kernel, by decide +kernel⟩, by decide +kernel⟩
theorem tb_m120 : pm_okM tb_Tg (tb_me 120) := ⟨tb_in 896 (by decide +kernel) (by decide +kernel), tb_in 116 (by decide +kernel) (by decide +kernel), by decide +kernel, ⟨by decide +kernel, by decide +kernel, by decide +kernel⟩, by decide +kernel⟩
theorem tb_m121 : pm_okM tb_Tg (tb_me 121) := ⟨tb_in 709 (by decide +kernel) (by decide +kernel), tb_in 116 (by decide +kernel) (by decide +kernel), by decide +kernel, ⟨by decide +kernel, by decide +kernel, by decide +kernel⟩, by decide +kernel⟩
theorem tb_m122 : pm_okM tb_Tg (tb_me 122) := ⟨tb_in 721 (by decide +kernel) (by decide +kernel), tb_in 116 (by decide +kernel) (by decide +kernel), by decide +kernel, ⟨by decide +kernel, by decide +kernel, by decide +kernel⟩, by decide +kernel⟩
theorem tb_m123 : pm_okM tb_Tg (tb_me 123) := ⟨tb_in 741 (by decide +kernel) (by decide +kernel), tb_in 116 (by decide +kernel) (by decide +kernel), by decide +kernel, ⟨by decide +kernel, by decide +kernel, by decide +kernel⟩, by decide +kernel⟩
theorem tb_m124 : pm_okM tb_Tg (tb_me 124) := ⟨tb_in 900 (by decide +kernel) (by decide +kernel), tb_in 116 (by decide +kernel) (by decide +kernel), by decide +kernel, ⟨by decide +kernel, by decide +kernel, by decide +kernel⟩, by decide +kernel⟩
theorem tb_m125 : pm_okM tb_Tg (tb_me 125) := ⟨tb_in 567 (by decide +kernel) (by decide +kernel), tb_in 116 (by decide +kernel) (by decide +kernel), by decide +kernel, ⟨by decide +kernel, by decide +kernel, by decide +kernel⟩, by decide +kernel⟩
theorem tb_m126 : pm_okM tb_Tg (tb_me 126) := ⟨tb_in 589 (by decide +kernel) (by decide +kernel), tb_in 116 (by decide +kernel) (by decide +kernel), by decide +kernel, ⟨by decide +kernel, by decide +kernel, by decide +kernel⟩, by decide +kernel⟩
theorem tb_m127 : pm_okM tb_Tg (tb_me 127) := ⟨tb_in 650 (by decide +kernel) (by decide +kernel), tb_in 116 (by decide +kernel) (by decide +kernel), by decide +kernel, ⟨by decide +kernel, by decide +kernel, by decide +kernel⟩, by decide +kernel⟩
theorem tb_m128 : pm_okM tb_Tg (tb_me 128) := ⟨tb_in 655 (by decide +kernel) (by decide +kernel), tb_in 116 (by decide +kernel) (by decide +kernel), by decide +kernel, ⟨by decide +kernel, by decide +kernel, by decide +kernel⟩, by decide +kernel⟩
theorem tb_m129 : pm_okM tb_Tg (tb_me 129) := ⟨tb_in 662 (by decide +kernel) (by decide +kernel), tb_in 116 (by decide +kernel) (by decide +kernel), by decide +kernel, ⟨by decide +kernel, by decide +kernel, by decide +kernel⟩, by decide +kernel⟩
theorem tb_m130 : pm_okM tb_Tg (tb_me 130) := ⟨tb_in 666 (by decide +kernel) (by decide +kernel), tb_in 116 (by decide +kernel) (by decide +kernel), by decide +kernel, ⟨by decide +kernel, by decide +kernel, by decide +kernel⟩, by decide +kernel⟩
theorem tb_m131 : pm_okM tb_Tg (tb_me 131) := ⟨tb_in 675 (by decide +kernel) (by decide +kernel), tb_in 116 (by decide +kernel) (by decide +kernel), by decide +kernel, ⟨by decide +kernel, by decide +kernel, by decide +kernel⟩, by decide +kernel⟩
theorem tb_m132 : pm_okM tb_Tg (tb_me 132) := ⟨tb_in 658 (by decide +kernel) (by decide +kernel), tb_in 116 (by decide +kernel) (by decide +kernel), by decide +kernel, ⟨by decide +kernel, by decide +kernel, by decide +kernel⟩, by decide +kernel⟩
theorem tb_m133 : pm_okM tb_Tg (tb_me 133) := ⟨tb_in 139 (by decide +kernel) (by decide +kernel), tb_in 109 (by decide +kernel) (by decide +kernel), by decide +kernel, ⟨by decide +kernel, by decide +kernel, by decide +kernel⟩, by decide +kernel⟩
theorem tb_m134 : pm_okM tb_Tg (tb_me 134) := ⟨tb_in 547 (by decide +kernel) (by decide +kernel), tb_in 109 (by decide +kernel) (by decide +kernel), by decide +kernel, ⟨by decide +kernel, by decide +kernel, by decide +kernel⟩, by decide +kernel⟩
theorem tb_m135 : pm_okM tb_Tg (tb_me 135) := ⟨tb_in 574 (by decide +kernel) (by decide +kernel), tb_in 109 (by decide +kernel) (by decide +kernel), by decide +kernel, ⟨by decide +kernel, by decide +kernel, by decide +kernel⟩, by decide +kernel⟩
theorem tb_m136 : pm_okM tb_Tg (tb_me 136) := ⟨tb_in 578 (by decide +kernel) (by decide +kernel), tb_in 109 (by decide +kernel) (by decide +kernel), by decide +kernel, ⟨by decide +kernel, by decide +kernel, by decide +kernel⟩, by decide +kernel⟩
theorem tb_m137 : pm_okM tb_Tg (tb_me 137) := ⟨tb_in 582 (by decide +kernel) (by decide +kernel), tb_in 109 (by decide +kernel) (by decide +kernel), by decide +kernel, ⟨by decide +kernel, by decide +kernel, by decide +kernel⟩, by decide +kernel⟩
theorem tb_m138 : pm_okM tb_Tg (tb_me 138) := ⟨tb_in 777 (by decide +kernel) (by decide +kernel), tb_in 109 (by decide +kernel) (by decide +kernel), by decide +kernel, ⟨by decide +kernel, by decide +kernel, by decide +kernel⟩, by decide +kernel⟩
theorem tb_m139 : pm_okM tb_Tg (tb_me 139) := ⟨tb_in 594 (by decide +kernel) (by decide +kernel), tb_in 109 (by decide +kernel) (by decide +kernel), by decide +kernel, ⟨by decide +kernel, by decide +kernel, by decide +kernel⟩, by decide +kernel⟩
theorem tb_m140 : pm_okM tb_Tg (tb_me 140) := ⟨tb_in 683 (by decide +kernel) (by decide +kernel), tb_in 109 (by decide +kernel) (by decide +kernel), by decide +kernel, ⟨by decide +kernel, by decide +kernel, by decide +kernel⟩, by decide +kernel⟩
theorem tb_m141 : pm_okM tb_Tg (tb_me 141) := ⟨tb_in 646 (by decide +kernel) (by decide +kernel), tb_in 109 (by decide +kernel) (by decide +kernel), by decide +kernel, ⟨by decide +kernel, by decide +kernel, by decide +kernel⟩, by decide +kernel⟩
theorem tb_m142 : pm_okM tb_Tg (tb_me 142) := ⟨tb_in 585 (by decide +kernel) (by decide +kernel), tb_in 109 (by decide +kernel) (by decide +kernel), by decide +kernel, ⟨by decide +kernel, by decide +kernel, by decide +kernel⟩, by decide +kernel⟩
theorem tb_m143 : pm_okM tb_Tg (tb_me 143) := ⟨tb_in 478 (by decide +kernel) (by decide +kernel), tb_in 117 (by decide +kernel) (by decide +kernel), by decide +kernel, ⟨by decide +kernel, by decide +kernel, by decide +kernel⟩, by decide +kernel⟩
theorem tb_m144 : pm_okM tb_Tg (tb_me 144) := ⟨tb_in 1204 (by decide +kernel) (by decide +kernel), tb_in 117 (by decide +kernel) (by decide +kernel), by decide +kernel, ⟨by decide +kernel, by decide +kernel, by decide +kernel⟩, by decide +kernel⟩
theorem tb_m145 : pm_okM tb_Tg (tb_me 145) := ⟨tb_in 1135 (by decide +kernel) (by decide +kernel), tb_in 117 (by decide +kernel) (by decide +kernel), by decide +kernel, ⟨by decide +kernel, by decide +kernel, by decide +kernel⟩, by decide +kernel⟩
theorem tb_m146 : pm_okM tb_Tg (tb_me 146) := ⟨tb_in 1147 (by decide +kernel) (by decide +kernel), tb_in 117 (by decide +kernel) (by decide +kernel), by decide +kernel, ⟨by decide +kernel, by decide +kernel, by decide +kernel⟩, by decide +kernel⟩
theorem tb_m147 : pm_okM tb_Tg (tb_me 147) := ⟨tb_in 1215 (by decide +kernel) (by decide +kernel), tb_in 118 (by decide +kernel) (by decide +kernel), by decide +kernel, ⟨by decide +kernel, by decide +kernel, by decide +kernel⟩, by decide +kernel⟩
theorem tb_m148 : pm_okM tb_Tg (tb_me 148) := ⟨tb_in 1395 (by decide +kernel) (by decide +kernel), tb_in 118 (by decide +kernel) (by decide +kernel), by decide +kernel, ⟨by decide +kernel, by decide +kernel, by decide +kernel⟩, by decide +kernel⟩
theorem tb_m149 : pm_okM tb_Tg (tb_me 149) := ⟨tb_in 1571 (by decide +kernel) (by decide +kernel), tb_in 118 (by decide +kernel) (by decide +kernel), by decide +kernel, ⟨by decide +kernel, by decide +kernel, by decide +kernel⟩, by decide +kernel⟩
theorem tb_m150 : pm_okM tb_Tg (tb_me 150) := ⟨tb_in 1619 (by decide +kernel) (by decide +kernel), tb_in 118 (by decide +kernel) (by decide +kernel), by decide +kernel, ⟨by decide +kernel, by decide +kernel, by decide +kernel⟩, by decide +kernel⟩
theorem tb_m151 : pm_okM tb_Tg (tb_me 151) := ⟨tb_in 1331 (by decide +kernel) (by decide +kernel), tb_in 118 (by decide +kernel) (by decide +kernel), by decide +kernel, ⟨by decide +kernel, by decide +kernel, by decide +kernel⟩, by decide +kernel⟩
theorem tb_m152 : pm_okM tb_Tg (tb_me 152) := ⟨tb_in 1327 (by decide +kernel) (by decide +kernel), tb_in 118 (by decide +kernel) (by decide +kernel), by decide +kernel, ⟨by decide +kernel, by decide +kernel, by decide +kernel⟩, by decide +kernel⟩
theorem tb_m153 : pm_okM tb_Tg (tb_me 153) := ⟨tb_in 1335 (by decide +kernel) (by decide +kernel), tb_in 118 (by decide +kernel) (by decide +kernel), by decide +kernel, ⟨by decide +kernel, by decide +kernel, by decide +kernel⟩, by decide +kernel⟩
theorem tb_m154 : pm_okM tb_Tg (tb_me 154) := ⟨tb_in 1368 (by decide +kernel) (by decide +kernel), tb_in 118 (by decide +kernel) (by decide +kernel), by decide +kernel, ⟨by decide +kernel, by decide +kernel, by decide +kernel⟩, by decide +kernel⟩
theorem tb_m155 : pm_okM tb_Tg (tb_me 155) := ⟨tb_in 1351 (by decide +kernel) (by decide +kernel), tb_in 118 (by decide +kernel) (by decide +kernel), by decide +kernel, ⟨by decide +kernel, by decide +kernel, by decide +kernel⟩, by decide +kernel⟩
theorem tb_m156 : pm_okM tb_Tg (tb_me 156) := ⟨tb_in 1392 (by decide +kernel) (by decide +kernel), tb_in 118 (by decide +kernel) (by decide +kernel), by decide +kernel, ⟨by decide +kernel, by decide +kernel, by decide +kernel⟩, by decide +kernel⟩
theorem tb_m157 : pm_okM tb_Tg (tb_me 157) := ⟨tb_in 1360 (by decide +kernel) (by decide +kernel), tb_in 118 (by decide +kernel) (by decide +kernel), by decide +kernel, ⟨by decide +kernel, by decide +kernel, by decide +kernel⟩, by decide +kernel⟩
theorem tb_m158 : pm_okM tb_Tg (tb_me 158) := ⟨tb_in 1356 (by decide +kernel) (by decide +kernel), tb_in 118 (by decide +kernel) (by decide +kernel), by decide +kernel, ⟨by decide +kernel, by decide +kernel, by decide +kernel⟩, by decide +kernel⟩
theorem tb_m159 : pm_okM tb_Tg (tb_me 159) := ⟨tb_in 1380 (by decide +kernel) (by decide +kernel), tb_in 118 (by decide +kernel) (by decide +kernel), by decide +kernel, ⟨by decide +kernel, by decide +kernel, by decide +kernel⟩, by decide +kernel⟩
theorem tb_m160 : pm_okM tb_Tg (tb_me 160) := ⟨tb_in 1451 (by decide +kernel) (by decide +kernel), tb_in 118 (by decide +kernel) (by decide +kernel), by decide +kernel, ⟨by decide +kernel, by decide +kernel, by decide +kernel⟩, by decide +kernel⟩
theorem tb_m161 : pm_okM tb_Tg (tb_me 161) := ⟨tb_in 1388 (by decide +kernel) (by decide +kernel), tb_in 118 (by decide +kernel) (by decide +kernel), by decide +kernel, ⟨by decide +kernel, by decide +kernel, by decide +kernel⟩, by decide +kernel⟩
theorem tb_m162 : pm_okM tb_Tg (tb_me 162) := ⟨tb_in 1436 (by decide +kernel) (by decide +kernel), tb_in 118 (by decide +kernel) (by decide +kernel), by decide +kernel, ⟨by decide +kernel, by decide +kernel, by decide +kernel⟩, by decide +kernel⟩
theorem tb_m163 : pm_okM tb_Tg (tb_me 163) := ⟨tb_in 1432 (by decide +kernel) (by decide +kernel), tb_in 118 (by decide +kernel) (by decide +kernel), by decide +kernel, ⟨by decide +kernel, by decide +kernel, by decide +kernel⟩, by decide +kernel⟩
theorem tb_m164 : pm_okM tb_Tg (tb_me 164) := ⟨tb_in 1428 (by decide +kernel) (by decide +kernel), tb_in 118 (by decide +kernel) (by decide +kernel), by decide +kernel, ⟨by decide +kernel, by decide +kernel, by decide +kernel⟩, by decide +kernel⟩
theorem tb_m165 : pm_okM tb_Tg (tb_me 165) := ⟨tb_in 1464 (by decide +kernel) (by decide +kernel), tb_in 118 (by decide +kernel) (by decide +kernel), by decide +kernel, ⟨by decide +kernel, by decide +kernel, by decide +kernel⟩, by decide +kernel⟩
theorem tb_m166 : pm_okM tb_Tg (tb_me 166) := ⟨tb_in 1479 (by decide +kernel) (by decide +kernel), tb_in 118 (by decide +kernel) (by decide +kernel), by decide +kernel, ⟨by decide +kernel, by decide +kernel, by decide +kernel⟩, by decide +kernel⟩
theorem tb_m167 : pm_okM tb_Tg (tb_me 167) := ⟨tb_in 1476 (by decide +kernel) (by decide +kernel), tb_in 118 (by decide +kernel) (by decide +kernel), by decide +kernel, ⟨by decide +kernel, by decide +kernel, by decide +kernel⟩, by decide +kernel⟩
theorem tb_m168 : pm_okM tb_Tg (tb_me 168) := ⟨tb_in 1423 (by decide +kernel) (by decide +kernel), tb_in 118 (by decide +kernel) (by decide +kernel), by decide +kernel, ⟨by decide +kernel, by decide +kernel, by decide +kernel⟩, by decide +kernel⟩
theorem tb_m169 : pm_okM tb_Tg (tb_me 169) := ⟨tb_in 1419 (by decide +kernel) (by decide +kernel), tb_in 118 (by decide +kernel) (by decide +kernel), by decide +kernel, ⟨by decide +kernel, by decide +kernel, by decide +kernel⟩, by decide +kernel⟩
theorem tb_m170 : pm_okM tb_Tg (tb_me 170) := ⟨tb_in 1415 (by decide +kernel) (by decide +kernel), tb_in 118 (by decide +kernel) (by decide +kernel), by decide +kernel, ⟨by decide +kernel, by decide +kernel, by decide +kernel⟩, by decide +kernel⟩
theorem tb_m171 : pm_okM tb_Tg (tb_me 171) := ⟨tb_in 1468 (by decide +kernel) (by decide +kernel), tb_in 118 (by decide +kernel) (by decide +kernel), by decide +kernel, ⟨by decide +kernel, by decide +kernel, by decide +kernel⟩, by decide +kernel⟩
theorem tb_m172 : pm_okM tb_Tg (tb_me 172) := ⟨tb_in 1459 (by decide +kernel) (by decide +kernel), tb_in 118 (by decide +kernel) (by decide +kernel), by decide +kernel, ⟨by decide +kernel, by decide +kernel, by decide +kernel⟩, by decide +kernel⟩
theorem tb_m173 : pm_okM tb_Tg (tb_me 173) := ⟨tb_in 1483 (by decide +kernel) (by decide +kernel), tb_in 118 (by decide +kernel) (by decide +kernel), by decide +kernel, ⟨by decide +kernel, by decide +kernel, by decide +kernel⟩, by decide +kernel⟩
theorem tb_m174 : pm_okM tb_Tg (tb_me 174) := ⟨tb_in 1472 (by decide +kernel) (by decide +kernel), tb_in 118 (by decide +kernel) (by decide +kernel), by decide +kernel, ⟨by decide +kernel, by decide +kernel, by decide +kernel⟩, by decide +kernel⟩
theorem tb_m175 : pm_okM tb_Tg (tb_me 175) := ⟨tb_in 1455 (by decide +kernel) (by decide +kernel), tb_in 118 (by decide +kernel) (by decide +kernel), by decide +kernel, ⟨by decide +kernel, by decide +kernel, by decide +kernel⟩, by decide +kernel⟩
theorem tb_m176 : pm_okM tb_Tg (tb_me 176) := ⟨tb_in 1411 (by decide +kernel) (by decide +kernel), tb_in 118 (by decide +kernel) (by decide +kernel), by decide +kernel, ⟨by decide +kernel, by decide +kernel, by decide +kernel⟩, by decide +kernel⟩
theorem tb_m177 : pm_okM tb_Tg (tb_me 177) := ⟨tb_in 1384 (by decide +kernel) (by decide +kernel), tb_in 118 (by decide +kernel) (by decide +kernel), by decide +kernel, ⟨by decide +kernel, by decide +kernel, by decide +kernel⟩, by decide +kernel⟩
theorem tb_m178 : pm_okM tb_Tg (tb_me 178) := ⟨tb_in 1376 (by decide +kernel) (by decide +kernel), tb_in 118 (by decide +kernel) (by decide +kernel), by decide +kernel, ⟨by decide +kernel, by decide +kernel, by decide +kernel⟩, by decide +kernel⟩
theorem tb_m179 : pm_okM tb_Tg (tb_me 179) := ⟨tb_in 1399 (by decide +kernel) (by decide +kernel), tb_in 118 (by decide +kernel) (by decide +kernel), by decide +kernel, ⟨by decide +kernel, by decide +kernel, by decide +kernel⟩, by decide +kernel⟩
theorem tb_m180 : pm_okM tb_Tg (tb_me 180) := ⟨tb_in 1403 (by decide +kernel) (by decide +kernel), tb_in 118 (by decide +kernel) (by decide +kernel), by decide +kernel, ⟨by decide +kernel, by decide +kernel, by decide +kernel⟩, by decide +kernel⟩
theorem tb_m181 : pm_okM tb_Tg (tb_me 181) := ⟨tb_in 1407 (by decide +kernel) (by decide +kernel), tb_in 118 (by decide +kernel) (by decide +kernel), by decide +kernel, ⟨by decide +kernel, by decide +kernel, by decide +kernel⟩, by decide +kernel⟩
theorem tb_m182 : pm_okM tb_Tg (tb_me 182) := ⟨tb_in 1372 (by decide +kernel) (by decide +kernel), tb_in 118 (by decide +kernel) (by decide +kernel), by decide +kernel, ⟨by decide +kernel, by decide +kernel, by decide +kernel⟩, by decide +kernel⟩
theorem tb_m183 : pm_okM tb_Tg (tb_me 183) := ⟨tb_in 1347 (by decide +kernel) (by decide +kernel), tb_in 118 (by decide +kernel) (by decide +kernel), by decide +kernel, ⟨by decide +kernel, by decide +kernel, by decide +kernel⟩, by decide +kernel⟩
theorem tb_m184 : pm_okM tb_Tg (tb_me 184) := ⟨tb_in 1343 (by decide +kernel) (by decide +kernel), tb_in 118 (by decide +kernel) (by decide +kernel), by decide +kernel, ⟨by decide +kernel, by decide +kernel, by decide +kernel⟩, by decide +kernel⟩
theorem tb_m185 : pm_okM tb_Tg (tb_me 185) := ⟨tb_in 1339 (by decide +kernel) (by decide +kernel), tb_in 118 (by decide +kernel) (by decide +kernel), by decide +kernel, ⟨by decide +kernel, by decide +kernel, by decide +kernel⟩, by decide +kernel⟩
theorem tb_m186 : pm_okM tb_Tg (tb_me 186) := ⟨tb_in 1489 (by decide +kernel) (by decide +kernel), tb_in 118 (by decide +kernel) (by decide +kernel), by decide +kernel, ⟨by decide +kernel, by decide +kernel, by decide +kernel⟩, by decide +kernel⟩
theorem tb_m187 : pm_okM tb_Tg (tb_me 187) := ⟨tb_in 1636 (by decide +kernel) (by decide +kernel), tb_in 118 (by decide +kernel) (by decide +kernel), by decide +kernel, ⟨by decide +kernel, by decide +kernel, by decide +kernel⟩, by decide +kernel⟩
theorem tb_m188 : pm_okM tb_Tg (tb_me 188) := ⟨tb_in 1661 (by decide +kernel) (by decide +kernel), tb_in 118 (by decide +kernel) (by decide +kernel), by decide +kernel, ⟨by decide +kernel, by decide +kernel, by decide +kernel⟩, by decide +kernel⟩
theorem tb_m189 : pm_okM tb_Tg (tb_me 189) := ⟨tb_in 1665 (by decide +kernel) (by decide +kernel), tb_in 118 (by decide +kernel) (by decide +kernel), by decide +kernel, ⟨by decide +kernel, by decide +kernel, by decide +kernel⟩, by decide +kernel⟩
theorem tb_m190 : pm_okM tb_Tg (tb_me 190) := ⟨tb_in 1668 (by decide +kernel) (by decide +kernel), tb_in 118 (by decide +kernel) (by decide +kernel), by decide +kernel, ⟨by decide +kernel, by decide +kernel, by decide +kernel⟩, by decide +kernel⟩
theorem tb_m191 : pm_okM tb_Tg (tb_me 191) := ⟨tb_in 1657 (by decide +kernel) (by decide +kernel), tb_in 118 (by decide +kernel) (by decide +kernel), by decide +kernel, ⟨by decide +kernel, by decide +kernel, by decide +kernel⟩, by decide +kernel⟩
theorem tb_m192 : pm_okM tb_Tg (tb_me 192) := ⟨tb_in 1543 (by decide +kernel) (by decide +kernel), tb_in 118 (by decide +kernel) (by decide +kernel), by decide +kernel, ⟨by decide +kernel, by decide +kernel, by decide +kernel⟩, by decide +kernel⟩
theorem tb_m193 : pm_okM tb_Tg (tb_me 193) := ⟨tb_in 1497 (by decide +kernel) (by decide +kernel), tb_in 118 (by decide +kernel) (by decide +kernel), by decide +kernel, ⟨by decide +kernel, by decide +kernel, by decide +kernel⟩, by decide +kernel⟩
theorem tb_m194 : pm_okM tb_Tg (tb_me 194) := ⟨tb_in 1522 (by decide +kernel) (by decide +kernel), tb_in 118 (by decide +kernel) (by decide +kernel), by decide +kernel, ⟨by decide +kernel, by decide +kernel, by decide +kernel⟩, by decide +kernel⟩
theorem tb_m195 : pm_okM tb_Tg (tb_me 195) := ⟨tb_in 1535 (by decide +kernel) (by decide +kernel), tb_in 118 (by decide +kernel) (by decide +kernel), by decide +kernel, ⟨by decide +kernel, by decide +kernel, by decide +kernel⟩, by decide +kernel⟩
theorem tb_m196 : pm_okM tb_Tg (tb_me 196) := ⟨tb_in 1502 (by decide +kernel) (by decide +kernel), tb_in 118 (by decide +kernel) (by decide +kernel), by decide +kernel, ⟨by decide +kernel, by decide +kernel, by decide +kernel⟩, by decide +kernel⟩
theorem tb_m197 : pm_okM tb_Tg (tb_me 197) := ⟨tb_in 1510 (by decide +kernel) (by decide +kernel), tb_in 118 (by decide +kernel) (by decide +kernel), by decide +kernel, ⟨by decide +kernel, by decide +kernel, by decide +kernel⟩, by decide +kernel⟩
theorem tb_m198 : pm_okM tb_Tg (tb_me 198) := ⟨tb_in 1514 (by decide +kernel) (by decide +kernel), tb_in 118 (by decide +kernel) (by decide +kernel), by decide +kernel, ⟨by decide +kernel, by decide +kernel, by decide +kernel⟩, by decide +kernel⟩
theorem tb_m199 : pm_okM tb_Tg (tb_me 199) := ⟨tb_in 1506 (by decide +kernel) (by decide +kernel), tb_in 118 (by decide +kernel) (by decide +kernel), by decide +kernel, ⟨by decide +kernel, by decide +kernel, by decide +kernel⟩, by decide +kernel⟩
theorem tb_m200 : pm_okM tb_Tg (tb_me 200) := ⟨tb_in 1676 (by decide +kernel) (by decide +kernel), tb_in 118 (by decide +kernel) (by decide +kernel), by decide +kernel, ⟨by decide +kernel, by decide +kernel, by decide +kernel⟩, by decide +kernel⟩
theorem tb_m201 : pm_okM tb_Tg (tb_me 201) := ⟨tb_in 1616 (by decide +kernel) (by decide +kernel), tb_in 118 (by decide +kernel) (by decide +kernel), by decide +kernel, ⟨by decide +kernel, by decide +kernel, by decide +kernel⟩, by decide +kernel⟩
theorem tb_m202 : pm_okM tb_Tg (tb_me 202) := ⟨tb_in 1645 (by decide +kernel) (by decide +kernel), tb_in 118 (by decide +kernel) (by decide +kernel), by decide +kernel, ⟨by decide +kernel, by decide +kernel, by decide +kernel⟩, by decide +kernel⟩
theorem tb_m203 : pm_okM tb_Tg (tb_me 203) := ⟨tb_in 1527 (by decide +kernel) (by decide +kernel), tb_in 118 (by decide +kernel) (by decide +kernel), by decide +kernel, ⟨by decide +kernel, by decide +kernel, by decide +kernel⟩, by decide +kernel⟩
theorem tb_m204 : pm_okM tb_Tg (tb_me 204) := ⟨tb_in 1493 (by decide +kernel) (by decide +kernel), tb_in 118 (by decide +kernel) (by decide +kernel), by decide +kernel, ⟨by decide +kernel, by decide +kernel, by decide +kernel⟩, by decide +kernel⟩
theorem tb_m205 : pm_okM tb_Tg (tb_me 205) := ⟨tb_in 1518 (by decide +kernel) (by decide +kernel), tb_in 118 (by decide +kernel) (by decide +kernel), by decide +kernel, ⟨by decide +kernel, by decide +kernel, by decide +kernel⟩, by decide +kernel⟩
theorem tb_m206 : pm_okM tb_Tg (tb_me 206) := ⟨tb_in 1531 (by decide +kernel) (by decide +kernel), tb_in 118 (by decide +kernel) (by decide +kernel), by decide +kernel, ⟨by decide +kernel, by decide +kernel, by decide +kernel⟩, by decide +kernel⟩
theorem tb_m207 : pm_okM tb_Tg (tb_me 207) := ⟨tb_in 1556 (by decide +kernel) (by decide +kernel), tb_in 118 (by decide +kernel) (by decide +kernel), by decide +kernel, ⟨by decide +kernel, by decide +kernel, by decide +kernel⟩, by decide +kernel⟩
theorem tb_m208 : pm_okM tb_Tg (tb_me 208) := ⟨tb_in 1591 (by decide +kernel) (by decide +kernel), tb_in 118 (by decide +kernel) (by decide +kernel), by decide +kernel, ⟨by decide +kernel, by decide +kernel, by decide +kernel⟩, by decide +kernel⟩
theorem tb_m209 : pm_okM tb_Tg (tb_me 209) := ⟨tb_in 1549 (by decide +kernel) (by decide +kernel), tb_in 118 (by decide +kernel) (by decide +kernel), by decide +kernel, ⟨by decide +kernel, by decide +kernel, by decide +kernel⟩, by decide +kernel⟩
theorem tb_m210 : pm_okM tb_Tg (tb_me 210) := ⟨tb_in 1546 (by decide +kernel) (by decide +kernel), tb_in 118 (by decide +kernel) (by decide +kernel), by decide +kernel, ⟨by decide +kernel, by decide +kernel, by decide +kernel⟩, by decide +kernel⟩
theorem tb_m211 : pm_okM tb_Tg (tb_me 211) := ⟨tb_in 1552 (by decide +kernel) (by decide +kernel), tb_in 118 (by decide +kernel) (by decide +kernel), by decide +kernel, ⟨by decide +kernel, by decide +kernel, by decide +kernel⟩, by decide +kernel⟩
theorem tb_m212 : pm_okM tb_Tg (tb_me 212) := ⟨tb_in 1539 (by decide +kernel) (by decide +kernel), tb_in 118 (by decide +kernel) (by decide +kernel), by decide +kernel, ⟨by decide +kernel, by decide +kernel, by decide +kernel⟩, by decide +kernel⟩
theorem tb_m213 : pm_okM tb_Tg (tb_me 213) := ⟨tb_in 1587 (by decide +kernel) (by decide +kernel), tb_in 118 (by decide +kernel) (by decide +kernel), by decide +kernel, ⟨by decide +kernel, by decide +kernel, by decide +kernel⟩, by decide +kernel⟩
theorem tb_m214 : pm_okM tb_Tg (tb_me 214) := ⟨tb_in 1568 (by decide +kernel) (by decide +kernel), tb_in 118 (by decide +kernel) (by decide +kernel), by decide +kernel, ⟨by decide +kernel, by decide +kernel, by decide +kernel⟩, by decide +kernel⟩
theorem tb_m215 : pm_okM tb_Tg (tb_me 215) := ⟨tb_in 1583 (by decide +kernel) (by decide +kernel), tb_in 118 (by decide +kernel) (by decide +kernel), by decide +kernel, ⟨by decide +kernel, by decide +kernel, by decide +kernel⟩, by decide +kernel⟩
theorem tb_m216 : pm_okM tb_Tg (tb_me 216) := ⟨tb_in 1579 (by decide +kernel) (by decide +kernel), tb_in 118 (by decide +kernel) (by decide +kernel), by decide +kernel, ⟨by decide +kernel, by decide +kernel, by decide +kernel⟩, by decide +kernel⟩
theorem tb_m217 : pm_okM tb_Tg (tb_me 217) := ⟨tb_in 1691 (by decide +kernel) (by decide +kernel), tb_in 118 (by decide +kernel) (by decide +kernel), by decide +kernel, ⟨by decide +kernel, by decide +kernel, by decide +kernel⟩, by decide +kernel⟩
theorem tb_m218 : pm_okM tb_Tg (tb_me 218) := ⟨tb_in 1699 (by decide +kernel) (by decide +kernel), tb_in 118 (by decide +kernel) (by decide +kernel), by decide +kernel, ⟨by decide +kernel, by decide +kernel, by decide +kernel⟩, by decide +kernel⟩
theorem tb_m219 : pm_okM tb_Tg (tb_me 219) := ⟨tb_in 1688 (by decide +kernel) (by decide +kernel), tb_in 118 (by decide +kernel) (by decide +kernel), by decide +kernel, ⟨by decide +kernel, by decide +kernel, by decide +kernel⟩, by decide +kernel⟩
theorem tb_m220 : pm_okM tb_Tg (tb_me 220) := ⟨tb_in 1684 (by decide +kernel) (by decide +kernel), tb_in 118 (by decide +kernel) (by decide +kernel), by decide +kernel, ⟨by decide +kernel, by decide +kernel, by decide +kernel⟩, by decide +kernel⟩
theorem tb_m221 : pm_okM tb_Tg (tb_me 221) := ⟨tb_in 1680 (by decide +kernel) (by decide +kernel), tb_in 118 (by decide +kernel) (by decide +kernel), by decide +kernel, ⟨by decide +kernel, by decide +kernel, by decide +kernel⟩, by decide +kernel⟩
theorem tb_m222 : pm_okM tb_Tg (tb_me 222) := ⟨tb_in 1720 (by decide +kernel) (by decide +kernel), tb_in 118 (by decide +kernel) (by decide +kernel), by decide +kernel, ⟨by decide +kernel, by decide +kernel, by decide +kernel⟩, by decide +kernel⟩
theorem tb_m223 : pm_okM tb_Tg (tb_me 223) := ⟨tb_in 1707 (by decide +kernel) (by decide +kernel), tb_in 118 (by decide +kernel) (by decide +kernel), by decide +kernel, ⟨by decide +kernel, by decide +kernel, by decide +kernel⟩, by decide +kernel⟩
theorem tb_m224 : pm_okM tb_Tg (tb_me 224) := ⟨tb_in 1575 (by decide +kernel) (by decide +kernel), tb_in 118 (by decide +kernel) (by decide +kernel), by decide +kernel, ⟨by decide +kernel, by decide +kernel, by decide +kernel⟩, by decide +kernel⟩
theorem tb_m225 : pm_okM tb_Tg (tb_me 225) := ⟨tb_in 1560 (by decide +kernel) (by decide +kernel), tb_in 118 (by decide +kernel) (by decide +kernel), by decide +kernel, ⟨by decide +kernel, by decide +kernel, by decide +kernel⟩, by decide +kernel⟩
theorem tb_m226 : pm_okM tb_Tg (tb_me 226) := ⟨tb_in 1564 (by decide +kernel) (by decide +kernel), tb_in 118 (by decide +kernel) (by decide +kernel), by decide +kernel, ⟨by decide +kernel, by decide +kernel, by decide +kernel⟩, by decide +kernel⟩
theorem tb_m227 : pm_okM tb_Tg (tb_me 227) := ⟨tb_in 1599 (by decide +kernel) (by decide +kernel), tb_in 118 (by decide +kernel) (by decide +kernel), by decide +kernel, ⟨by decide +kernel, by decide +kernel, by decide +kernel⟩, by decide +kernel⟩
theorem tb_m228 : pm_okM tb_Tg (tb_me 228) := ⟨tb_in 1595 (by decide +kernel) (by decide +kernel), tb_in 118 (by decide +kernel) (by decide +kernel), by decide +kernel, ⟨by decide +kernel, by decide +kernel, by decide +kernel⟩, by decide +kernel⟩
theorem tb_m229 : pm_okM tb_Tg (tb_me 229) := ⟨tb_in 1603 (by decide +kernel) (by decide +kernel), tb_in 118 (by decide +kernel) (by decide +kernel), by decide +kernel, ⟨by decide +kernel, by decide +kernel, by decide +kernel⟩, by decide +kernel⟩
theorem tb_m230 : pm_okM tb_Tg (tb_me 230) := ⟨tb_in 1607 (by decide +kernel) (by decide +kernel), tb_in 118 (by decide +kernel) (by decide +kernel), by decide +kernel, ⟨by decide +kernel, by decide +kernel, by decide +kernel⟩, by decide +kernel⟩
theorem tb_m231 : pm_okM tb_Tg (tb_me 231) := ⟨tb_in 1612 (by decide +kernel) (by decide +kernel), tb_in 118 (by decide +kernel) (by decide +kernel), by decide +kernel, ⟨by decide +kernel, by decide +kernel, by decide +kernel⟩, by decide +kernel⟩
theorem tb_m232 : pm_okM tb_Tg (tb_me 232) := ⟨tb_in 1623 (by decide +kernel) (by decide +kernel), tb_in 118 (by decide +kernel) (by decide +kernel), by decide +kernel, ⟨by decide +kernel, by decide +kernel, by decide +kernel⟩, by decide +kernel⟩
theorem tb_m233 : pm_okM tb_Tg (tb_me 233) := ⟨tb_in 1627 (by decide +kernel) (by decide +kernel), tb_in 118 (by decide +kernel) (by decide +kernel), by decide +kernel, ⟨by decide +kernel, by decide +kernel, by decide +kernel⟩, by decide +kernel⟩
theorem tb_m234 : pm_okM tb_Tg (tb_me 234) := ⟨tb_in 1649 (by decide +kernel) (by decide +kernel), tb_in 118 (by decide +kernel) (by decide +kernel), by decide +kernel, ⟨by decide +kernel, by decide +kernel, by decide +kernel⟩, by decide +kernel⟩
theorem tb_m235 : pm_okM tb_Tg (tb_me 235) := ⟨tb_in 1641 (by decide +kernel) (by decide +kernel), tb_in 118 (by decide +kernel) (by decide +kernel), by decide +kernel, ⟨by decide +kernel, by decide +kernel, by decide +kernel⟩, by decide +kernel⟩
theorem tb_m236 : pm_okM tb_Tg (tb_me 236) := ⟨tb_in 1653 (by decide +kernel) (by decide +kernel), tb_in 118 (by decide +kernel) (by decide +kernel), by decide +kernel, ⟨by decide +kernel, by decide +kernel, by decide +kernel⟩, by decide +kernel⟩
theorem tb_m237 : pm_okM tb_Tg (tb_me 237) := ⟨tb_in 1632 (by decide +kernel) (by decide +kernel), tb_in 118 (by decide +kernel) (by decide +kernel), by decide +kernel, ⟨by decide +kernel, by decide +kernel, by decide +kernel⟩, by decide +kernel⟩
theorem tb_m238 : pm_okM tb_Tg (tb_me 238) := ⟨tb_in 1672 (by decide +kernel) (by decide +kernel), tb_in 118 (by decide +kernel) (by decide +kernel), by decide +kernel, ⟨by decide +kernel, by decide +kernel, by decide +kernel⟩, by decide +kernel⟩
theorem tb_m239 : pm_okM tb_Tg (tb_me 239) := ⟨tb_in 1695 (by decide +kernel) (by decide +kernel), tb_in 118 (by decide +kernel) (by decide +kernel), by decide +kernel, ⟨by decide +kernel, by decide +kernel, by decide +kernel⟩, by decide +kernel⟩
theorem tb_m240 : pm_okM tb_Tg (tb_me 240) := ⟨tb_in 1703 (by decide +kernel) (by decide +kernel), tb_in 118 (by decide +kernel) (by decide +kernel), by decide +kernel, ⟨by decide +kernel, by decide +kernel, by decide +kernel⟩, by decide +kernel⟩
theorem tb_m241 : pm_okM tb_Tg (tb_me 241) := ⟨tb_in 1711 (by decide +kernel) (by decide +kernel), tb_in 118 (by decide +kernel) (by decide +kernel), by decide +kernel, ⟨by decide +kernel, by decide +kernel, by decide +kernel⟩, by decide +kernel⟩
theorem tb_m242 : pm_okM tb_Tg (tb_me 242) := ⟨tb_in 1716 (by decide +kernel) (by decide +kernel), tb_in 118 (by decide +kernel) (by decide +kernel), by decide +kernel, ⟨by decide +kernel, by decide +kernel, by decide +kernel⟩, by decide +kernel⟩
theorem tb_m243 : pm_okM tb_Tg (tb_me 243) := ⟨tb_in 1732 (by decide +kernel) (by decide +kernel), tb_in 118 (by decide +kernel) (by decide +kernel), by decide +kernel, ⟨by decide +kernel, by decide +kernel, by decide +kernel⟩, by decide +kernel⟩
theorem tb_m244 : pm_okM tb_Tg (tb_me 244) := ⟨tb_in 1728 (by decide +kernel) (by decide +kernel), tb_in 118 (by decide +kernel) (by decide +kernel), by decide +kernel, ⟨by decide +kernel, by decide +kernel, by decide +kernel⟩, by decide +kernel⟩
theorem tb_m245 : pm_okM tb_Tg (tb_me 245) := ⟨tb_in 1724 (by decide +kernel) (by decide +kernel), tb_in 118 (by decide +kernel) (by decide +kernel), by decide +kernel, ⟨by decide +kernel, by decide +kernel, by decide +kernel⟩, by decide +kernel⟩
theorem tb_m246 : pm_okM tb_Tg (tb_me 246) := ⟨tb_in 1743 (by decide +kernel) (by decide +kernel), tb_in 118 (by decide +kernel) (by decide +kernel), by decide +kernel, ⟨by decide +kernel, by decide +kernel, by decide +kernel⟩, by decide +kernel⟩
theorem tb_m247 : pm_okM tb_Tg (tb_me 247) := ⟨tb_in 1740 (by decide +kernel) (by decide +kernel), tb_in 118 (by decide +kernel) (by decide +kernel), by decide +kernel, ⟨by decide +kernel, by decide +kernel, by decide +kernel⟩, by decide +kernel⟩
theorem tb_m248 : pm_okM tb_Tg (tb_me 248) := ⟨tb_in 1736 (by decide +kernel) (by decide +kernel), tb_in 118 (by decide +kernel) (by decide +kernel), by decide +kernel, ⟨by decide +kernel, by decide +kernel, by decide +kernel⟩, by decide +kernel⟩
theorem tb_m249 : pm_okM tb_Tg (tb_me 249) := ⟨tb_in 1747 (by decide +kernel) (by decide +kernel), tb_in 118 (by decide +kernel) (by decide +kernel), by decide +kernel, ⟨by decide +kernel, by decide +kernel, by decide +kernel⟩, by decide +kernel⟩
theorem tb_m250 : pm_okM tb_Tg (tb_me 250) := ⟨tb_in 1755 (by decide +kernel) (by decide +kernel), tb_in 118 (by decide +kernel) (by decide +kernel), by decide +kernel, ⟨by decide +kernel, by decide +kernel, by decide +kernel⟩, by decide +kernel⟩
theorem tb_m251 : pm_okM tb_Tg (tb_me 251) := ⟨tb_in 1751 (by decide +kernel) (by decide +kernel), tb_in 118 (by decide +kernel) (by decide +kernel), by decide +kernel, ⟨by decide +kernel, by decide +kernel, by decide +kernel⟩, by decide +kernel⟩
theorem tb_m252 : pm_okM tb_Tg (tb_me 252) := ⟨tb_in 1759 (by decide +kernel) (by decide +kernel), tb_in 118 (by decide +kernel) (by decide +kernel), by decide +kernel, ⟨by decide +kernel, by decide +kernel, by decide +kernel⟩, by decide +kernel⟩
theorem tb_m253 : pm_okM tb_Tg (tb_me 253) := ⟨tb_in 1763 (by decide +kernel) (by decide +kernel), tb_in 118 (by decide +kernel) (by decide +kernel), by decide +kernel, ⟨by decide +kernel, by decide +kernel, by decide +kernel⟩, by decide +kernel⟩
theorem tb_m254 : pm_okM tb_Tg (tb_me 254) := ⟨tb_in 1774 (by decide +kernel) (by decide +kernel), tb_in 118 (by decide +kernel) (by decide +kernel), by decide +kernel, ⟨by decide +kernel, by decide +kernel, by decide +kernel⟩, by decide +kernel⟩
theorem tb_m255 : pm_okM tb_Tg (tb_me 255) := ⟨tb_in 1767 (by decide +kernel) (by decide +kernel), tb_in 118 (by decide +kernel) (by decide +kernel), by decide +kernel, ⟨by decide +kernel, by decide +kernel, by decide +kernel⟩, by decide +kernel⟩
theorem tb_m256 : pm_okM tb_Tg (tb_me 256) := ⟨tb_in 1782 (by decide +kernel) (by decide +kernel), tb_in 118 (by decide +kernel) (by decide +kernel), by decide +kernel, ⟨by decide +kernel, by decide +kernel, by decide +kernel⟩, by decide +kernel⟩
theorem tb_m257 : pm_okM tb_Tg (tb_me 257) := ⟨tb_in 1786 (by decide +kernel) (by decide +kernel), tb_in 118 (by decide +kernel) (by decide +kernel), by decide +kernel, ⟨by decide +kernel, by decide +kernel, by decide +kernel⟩, by decide +kernel⟩
theorem tb_m258 : pm_okM tb_Tg (tb_me 258) := ⟨tb_in 1791 (by decide +kernel) (by decide +kernel), tb_in 118 (by decide +kernel) (by decide +kernel), by decide +kernel, ⟨by decide +kernel, by decide +kernel, by decide +kernel⟩, by decide +kernel⟩
theorem tb_m259 : pm_okM tb_Tg (tb_me 259) := ⟨tb_in 940 (by decide +kernel) (by decide +kernel), tb_in 126 (by decide +kernel) (by decide +kernel), by decide +kernel, ⟨by decide +kernel, by decide +kernel, by decide +kernel⟩, by decide +kernel⟩
theorem tb_m260 : pm_okM tb_Tg (tb_me 260) := ⟨tb_in 598 (by decide +kernel) (by decide +kernel), tb_in 120 (by decide +kernel) (by decide +kernel), by decide +kernel, ⟨by decide +kernel, by decide +kernel, by decide +kernel⟩, by decide +kernel⟩
theorem tb_m261 : pm_okM tb_Tg (tb_me 261) := ⟨tb_in 608 (by decide +kernel) (by decide +kernel), tb_in 120 (by decide +kernel) (by decide +kernel), by decide +kernel, ⟨by decide +kernel, by decide +kernel, by decide +kernel⟩, by decide +kernel⟩
theorem tb_m262 : pm_okM tb_Tg (tb_me 262) := ⟨tb_in 602 (by decide +kernel) (by decide +kernel), tb_in 120 (by decide +kernel) (by decide +kernel), by decide +kernel, ⟨by decide +kernel, by decide +kernel, by decide +kernel⟩, by decide +kernel⟩
theorem tb_m263 : pm_okM tb_Tg (tb_me 263) := ⟨tb_in 612 (by decide +kernel) (by decide +kernel), tb_in 120 (by decide +kernel) (by decide +kernel), by decide +kernel, ⟨by decide +kernel, by decide +kernel, by decide +kernel⟩, by decide +kernel⟩
theorem tb_m264 : pm_okM tb_Tg (tb_me 264) := ⟨tb_in 618 (by decide +kernel) (by decide +kernel), tb_in 120 (by decide +kernel) (by decide +kernel), by decide +kernel, ⟨by decide +kernel, by decide +kernel, by decide +kernel⟩, by decide +kernel⟩
theorem tb_m265 : pm_okM tb_Tg (tb_me 265) := ⟨tb_in 615 (by decide +kernel) (by decide +kernel), tb_in 121 (by decide +kernel) (by decide +kernel), by decide +kernel, ⟨by decide +kernel, by decide +kernel, by decide +kernel⟩, by decide +kernel⟩
theorem tb_m266 : pm_okM tb_Tg (tb_me 266) := ⟨tb_in 636 (by decide +kernel) (by decide +kernel), tb_in 123 (by decide +kernel) (by decide +kernel), by decide +kernel, ⟨by decide +kernel, by decide +kernel, by decide +kernel⟩, by decide +kernel⟩
theorem tb_m267 : pm_okM tb_Tg (tb_me 267) := ⟨tb_in 632 (by decide +kernel) (by decide +kernel), tb_in 123 (by decide +kernel) (by decide +kernel), by decide +kernel, ⟨by decide +kernel, by decide +kernel, by decide +kernel⟩, by decide +kernel⟩
theorem tb_m268 : pm_okM tb_Tg (tb_me 268) := ⟨tb_in 626 (by decide +kernel) (by decide +kernel), tb_in 123 (by decide +kernel) (by decide +kernel), by decide +kernel, ⟨by decide +kernel, by decide +kernel, by decide +kernel⟩, by decide +kernel⟩
theorem tb_m269 : pm_okM tb_Tg (tb_me 269) := ⟨tb_in 629 (by decide +kernel) (by decide +kernel), tb_in 123 (by decide +kernel) (by decide +kernel), by decide +kernel, ⟨by decide +kernel, by decide +kernel, by decide +kernel⟩, by decide +kernel⟩
theorem tb_m270 : pm_okM tb_Tg (tb_me 270) := ⟨tb_in 570 (by decide +kernel) (by decide +kernel), tb_in 119 (by decide +kernel) (by decide +kernel), by decide +kernel, ⟨by decide +kernel, by decide +kernel, by decide +kernel⟩, by decide +kernel⟩
theorem tb_m271 : pm_okM tb_Tg (tb_me 271) := ⟨tb_in 623 (by decide +kernel) (by decide +kernel), tb_in 122 (by decide +kernel) (by decide +kernel), by decide +kernel, ⟨by decide +kernel, by decide +kernel, by decide +kernel⟩, by decide +kernel⟩
