/-! facts of the tables, one by one -/
set_option maxRecDepth 20000 in
theorem kv_q0 : kv_Ms[0]? = some (0, "<init>", "()V", prog_2_method_1_code, 2, none, 0, false) := rfl
set_option maxRecDepth 20000 in
theorem kv_q1 : kv_Ms[1]? = some (0, "keep", "(LKiteVote$State;)V", prog_2_method_2_code, 2, none, 1, false) := rfl
set_option maxRecDepth 20000 in
theorem kv_q2 : kv_Ms[2]? = some (0, "takeBack", "(LKiteVote$State;)Z", prog_2_method_3_code, 3, (some .boolean), 1, false) := rfl
set_option maxRecDepth 20000 in
theorem kv_q3 : kv_Ms[3]? = some (0, "forget", "()V", prog_2_method_4_code, 1, none, 0, false) := rfl
set_option maxRecDepth 20000 in
theorem kv_q4 : kv_Ms[4]? = some (1, "<init>", "(J)V", prog_3_method_1_code, 3, none, 1, false) := rfl
set_option maxRecDepth 20000 in
theorem kv_q5 : kv_Ms[5]? = some (1, "draw", "(I)I", prog_3_method_2_code, 2, (some .int), 1, false) := rfl
set_option maxRecDepth 20000 in
theorem kv_q6 : kv_Ms[6]? = some (2, "<init>", "()V", prog_4_method_1_code, 1, none, 0, false) := rfl
set_option maxRecDepth 20000 in
theorem kv_q7 : kv_Ms[7]? = some (2, "clear", "()V", prog_4_method_2_code, 1, none, 0, false) := rfl
set_option maxRecDepth 20000 in
theorem kv_q8 : kv_Ms[8]? = some (2, "copyFrom", "(LKiteVote$Field;)V", prog_4_method_3_code, 3, none, 1, false) := rfl
set_option maxRecDepth 20000 in
theorem kv_q9 : kv_Ms[9]? = some (2, "addAir", "(III)V", prog_4_method_4_code, 4, none, 3, false) := rfl
set_option maxRecDepth 20000 in
theorem kv_q10 : kv_Ms[10]? = some (2, "windAt", "(II)I", prog_4_method_5_code, 4, (some .int), 2, false) := rfl
set_option maxRecDepth 20000 in
theorem kv_q11 : kv_Ms[11]? = some (2, "isMajority", "(II)Z", prog_4_method_6_code, 3, (some .boolean), 2, false) := rfl
set_option maxRecDepth 20000 in
theorem kv_q12 : kv_Ms[12]? = some (3, "<init>", "(LKiteVote$Tape;)V", prog_5_method_1_code, 2, none, 1, false) := rfl
set_option maxRecDepth 20000 in
theorem kv_q13 : kv_Ms[13]? = some (3, "read", "()Z", prog_5_method_2_code, 3, (some .boolean), 0, false) := rfl
set_option maxRecDepth 20000 in
theorem kv_q14 : kv_Ms[14]? = some (3, "readClause", "()Z", prog_5_method_3_code, 2, (some .boolean), 0, false) := rfl
set_option maxRecDepth 20000 in
theorem kv_q15 : kv_Ms[15]? = some (3, "readLaw", "()Z", prog_5_method_4_code, 1, (some .boolean), 0, false) := rfl
set_option maxRecDepth 20000 in
theorem kv_q16 : kv_Ms[16]? = some (3, "readKite", "()Z", prog_5_method_5_code, 2, (some .boolean), 0, false) := rfl
set_option maxRecDepth 20000 in
theorem kv_q17 : kv_Ms[17]? = some (3, "readAir", "()Z", prog_5_method_6_code, 1, (some .boolean), 0, false) := rfl
set_option maxRecDepth 20000 in
theorem kv_q18 : kv_Ms[18]? = some (3, "preset", "(IIII)V", prog_5_method_7_code, 6, none, 4, false) := rfl
set_option maxRecDepth 20000 in
theorem kv_q19 : kv_Ms[19]? = some (3, "readItems", "(Ljava/lang/String;[I[I)Z", prog_5_method_8_code, 8, (some .boolean), 3, false) := rfl
set_option maxRecDepth 20000 in
theorem kv_q20 : kv_Ms[20]? = some (3, "canStand", "()Z", prog_5_method_9_code, 4, (some .boolean), 0, false) := rfl
set_option maxRecDepth 20000 in
theorem kv_q21 : kv_Ms[21]? = some (4, "<init>", "(LKiteVote$Field;LKiteVote$Laws;)V", prog_6_method_1_code, 3, none, 2, false) := rfl
set_option maxRecDepth 20000 in
theorem kv_q22 : kv_Ms[22]? = some (4, "pass", "(LKiteVote$State;)V", prog_6_method_2_code, 2, none, 1, false) := rfl
set_option maxRecDepth 20000 in
theorem kv_q23 : kv_Ms[23]? = some (4, "climb", "(LKiteVote$State;)V", prog_6_method_3_code, 6, none, 1, false) := rfl
set_option maxRecDepth 20000 in
theorem kv_q24 : kv_Ms[24]? = some (4, "shake", "(LKiteVote$State;LKiteVote$Draws;I)V", prog_6_method_4_code, 6, none, 3, false) := rfl
set_option maxRecDepth 20000 in
theorem kv_q25 : kv_Ms[25]? = some (4, "rub", "(LKiteVote$State;)V", prog_6_method_5_code, 5, none, 1, false) := rfl
set_option maxRecDepth 20000 in
theorem kv_q26 : kv_Ms[26]? = some (4, "isUp", "(LKiteVote$State;I)Z", prog_6_method_6_code, 2, (some .boolean), 2, true) := rfl
set_option maxRecDepth 20000 in
theorem kv_q27 : kv_Ms[27]? = some (4, "liftOf", "(LKiteVote$State;I)I", prog_6_method_7_code, 5, (some .int), 2, false) := rfl
set_option maxRecDepth 20000 in
theorem kv_q28 : kv_Ms[28]? = some (4, "wearOf", "(LKiteVote$State;II)I", prog_6_method_8_code, 8, (some .int), 3, false) := rfl
set_option maxRecDepth 20000 in
theorem kv_q29 : kv_Ms[29]? = some (4, "tellLetters", "(LKiteVote$State;I)V", prog_6_method_9_code, 3, none, 2, false) := rfl
set_option maxRecDepth 20000 in
theorem kv_q30 : kv_Ms[30]? = some (4, "resultOf", "(LKiteVote$State;)I", prog_6_method_10_code, 4, (some .int), 1, false) := rfl
set_option maxRecDepth 20000 in
theorem kv_q31 : kv_Ms[31]? = some (5, "<init>", "()V", prog_7_method_1_code, 1, none, 0, false) := rfl
set_option maxRecDepth 20000 in
theorem kv_q32 : kv_Ms[32]? = some (5, "copyFrom", "(LKiteVote$Law;)V", prog_7_method_2_code, 2, none, 1, false) := rfl
set_option maxRecDepth 20000 in
theorem kv_q33 : kv_Ms[33]? = some (5, "add", "(II)V", prog_7_method_3_code, 3, none, 2, false) := rfl
set_option maxRecDepth 20000 in
theorem kv_q34 : kv_Ms[34]? = some (5, "aimHere", "(I)V", prog_7_method_4_code, 2, none, 1, false) := rfl
set_option maxRecDepth 20000 in
theorem kv_q35 : kv_Ms[35]? = some (5, "worth", "([I[I)I", prog_7_method_5_code, 9, (some .int), 2, false) := rfl
set_option maxRecDepth 20000 in
theorem kv_q36 : kv_Ms[36]? = some (5, "joined", "(III)I", prog_7_method_6_code, 5, (some .int), 3, true) := rfl
set_option maxRecDepth 20000 in
theorem kv_q37 : kv_Ms[37]? = some (5, "judged", "(III)I", prog_7_method_7_code, 3, (some .int), 3, true) := rfl
set_option maxRecDepth 20000 in
theorem kv_q38 : kv_Ms[38]? = some (6, "<init>", "(LKiteVote$Tape;)V", prog_8_method_1_code, 2, none, 1, false) := rfl
set_option maxRecDepth 20000 in
theorem kv_q39 : kv_Ms[39]? = some (6, "read", "()Z", prog_8_method_2_code, 3, (some .boolean), 0, false) := rfl
set_option maxRecDepth 20000 in
theorem kv_q40 : kv_Ms[40]? = some (6, "readClause", "()Z", prog_8_method_3_code, 4, (some .boolean), 0, false) := rfl
set_option maxRecDepth 20000 in
theorem kv_q41 : kv_Ms[41]? = some (6, "readCondition", "(IZ)Z", prog_8_method_4_code, 4, (some .boolean), 2, false) := rfl
set_option maxRecDepth 20000 in
theorem kv_q42 : kv_Ms[42]? = some (6, "readTruth", "(IZ)Z", prog_8_method_5_code, 4, (some .boolean), 2, false) := rfl
set_option maxRecDepth 20000 in
theorem kv_q43 : kv_Ms[43]? = some (6, "readUnit", "(IZ)Z", prog_8_method_6_code, 5, (some .boolean), 2, false) := rfl
set_option maxRecDepth 20000 in
theorem kv_q44 : kv_Ms[44]? = some (6, "readNested", "(II)Z", prog_8_method_7_code, 3, (some .boolean), 2, false) := rfl
set_option maxRecDepth 20000 in
theorem kv_q45 : kv_Ms[45]? = some (6, "comparison", "()I", prog_8_method_8_code, 1, (some .int), 0, false) := rfl
set_option maxRecDepth 20000 in
theorem kv_q46 : kv_Ms[46]? = some (6, "readSum", "(I)Z", prog_8_method_9_code, 4, (some .boolean), 1, false) := rfl
set_option maxRecDepth 20000 in
theorem kv_q47 : kv_Ms[47]? = some (6, "readTerm", "(I)Z", prog_8_method_10_code, 4, (some .boolean), 1, false) := rfl
set_option maxRecDepth 20000 in
theorem kv_q48 : kv_Ms[48]? = some (6, "readAtom", "(I)Z", prog_8_method_11_code, 4, (some .boolean), 1, false) := rfl
set_option maxRecDepth 20000 in
theorem kv_q49 : kv_Ms[49]? = some (7, "<init>", "()V", prog_9_method_1_code, 2, none, 0, false) := rfl
set_option maxRecDepth 20000 in
theorem kv_q50 : kv_Ms[50]? = some (7, "keep", "(LKiteVote$Law;)I", prog_9_method_2_code, 2, (some .int), 1, false) := rfl
set_option maxRecDepth 20000 in
theorem kv_q51 : kv_Ms[51]? = some (7, "at", "(I)LKiteVote$Law;", prog_9_method_3_code, 2, (some (.object "KiteVote$Law")), 1, false) := rfl
set_option maxRecDepth 20000 in
theorem kv_q52 : kv_Ms[52]? = some (8, "<init>", "()V", prog_10_method_1_code, 1, none, 0, false) := rfl
set_option maxRecDepth 20000 in
theorem kv_q53 : kv_Ms[53]? = some (8, "add", "(III)V", prog_10_method_2_code, 4, none, 3, false) := rfl
set_option maxRecDepth 20000 in
theorem kv_q54 : kv_Ms[54]? = some (8, "lastOf", "(I)I", prog_10_method_3_code, 4, (some .int), 1, false) := rfl
set_option maxRecDepth 20000 in
theorem kv_q55 : kv_Ms[55]? = some (8, "allows", "(III)Z", prog_10_method_4_code, 5, (some .boolean), 3, false) := rfl
set_option maxRecDepth 20000 in
theorem kv_q56 : kv_Ms[56]? = some (9, "<init>", "()V", prog_11_method_1_code, 1, none, 0, false) := rfl
set_option maxRecDepth 20000 in
theorem kv_q57 : kv_Ms[57]? = some (9, "clear", "()V", prog_11_method_2_code, 2, none, 0, false) := rfl
set_option maxRecDepth 20000 in
theorem kv_q58 : kv_Ms[58]? = some (9, "copyFrom", "(LKiteVote$State;)V", prog_11_method_3_code, 2, none, 1, false) := rfl
set_option maxRecDepth 20000 in
theorem kv_q59 : kv_Ms[59]? = some (9, "get", "(II)I", prog_11_method_4_code, 4, (some .int), 2, false) := rfl
set_option maxRecDepth 20000 in
theorem kv_q60 : kv_Ms[60]? = some (9, "set", "(III)V", prog_11_method_5_code, 5, none, 3, false) := rfl
set_option maxRecDepth 20000 in
theorem kv_q61 : kv_Ms[61]? = some (9, "flies", "(I)Z", prog_11_method_6_code, 2, (some .boolean), 1, false) := rfl
set_option maxRecDepth 20000 in
theorem kv_q62 : kv_Ms[62]? = some (9, "flyers", "()I", prog_11_method_7_code, 3, (some .int), 0, false) := rfl
set_option maxRecDepth 20000 in
theorem kv_q63 : kv_Ms[63]? = some (9, "ground", "(I)V", prog_11_method_8_code, 2, none, 1, false) := rfl
set_option maxRecDepth 20000 in
theorem kv_q64 : kv_Ms[64]? = some (9, "isHeld", "(I)Z", prog_11_method_9_code, 3, (some .boolean), 1, false) := rfl
set_option maxRecDepth 20000 in
theorem kv_q65 : kv_Ms[65]? = some (9, "unpaid", "(I)I", prog_11_method_10_code, 2, (some .int), 1, false) := rfl
set_option maxRecDepth 20000 in
theorem kv_q66 : kv_Ms[66]? = some (9, "bears", "(I)I", prog_11_method_11_code, 2, (some .int), 1, false) := rfl
set_option maxRecDepth 20000 in
theorem kv_q67 : kv_Ms[67]? = some (9, "heightOf", "(I)I", prog_11_method_12_code, 4, (some .int), 1, false) := rfl
set_option maxRecDepth 20000 in
theorem kv_q68 : kv_Ms[68]? = some (9, "isLow", "()Z", prog_11_method_13_code, 1, (some .boolean), 0, false) := rfl
set_option maxRecDepth 20000 in
theorem kv_q69 : kv_Ms[69]? = some (9, "feetFor", "(I)I", prog_11_method_14_code, 4, (some .int), 1, false) := rfl
set_option maxRecDepth 20000 in
theorem kv_q70 : kv_Ms[70]? = some (9, "feetOfClan", "(I)I", prog_11_method_15_code, 4, (some .int), 1, false) := rfl
set_option maxRecDepth 20000 in
theorem kv_q71 : kv_Ms[71]? = some (9, "booked", "(I)I", prog_11_method_16_code, 2, (some .int), 1, false) := rfl
set_option maxRecDepth 20000 in
theorem kv_q72 : kv_Ms[72]? = some (9, "putBy", "(I)V", prog_11_method_17_code, 3, none, 1, false) := rfl
set_option maxRecDepth 20000 in
theorem kv_q73 : kv_Ms[73]? = some (10, "<init>", "()V", prog_12_method_1_code, 1, none, 0, false) := rfl
set_option maxRecDepth 20000 in
theorem kv_q74 : kv_Ms[74]? = some (10, "bytesIn", "(I)I", prog_12_method_2_code, 3, (some .int), 1, true) := rfl
set_option maxRecDepth 20000 in
theorem kv_q75 : kv_Ms[75]? = some (10, "add", "(I)V", prog_12_method_3_code, 4, none, 1, false) := rfl
set_option maxRecDepth 20000 in
theorem kv_q76 : kv_Ms[76]? = some (10, "sign", "()I", prog_12_method_4_code, 1, (some .int), 0, false) := rfl
set_option maxRecDepth 20000 in
theorem kv_q77 : kv_Ms[77]? = some (10, "digit", "()I", prog_12_method_5_code, 2, (some .int), 0, false) := rfl
set_option maxRecDepth 20000 in
theorem kv_q78 : kv_Ms[78]? = some (10, "take", "(C)Z", prog_12_method_6_code, 2, (some .boolean), 1, false) := rfl
set_option maxRecDepth 20000 in
theorem kv_q79 : kv_Ms[79]? = some (10, "number", "(I)Z", prog_12_method_7_code, 4, (some .boolean), 1, false) := rfl
set_option maxRecDepth 20000 in
theorem kv_q80 : kv_Ms[80]? = some (10, "numberWithin", "(III)Z", prog_12_method_8_code, 4, (some .boolean), 3, false) := rfl
set_option maxRecDepth 20000 in
theorem kv_q81 : kv_Ms[81]? = some (11, "<init>", "()V", prog_1_method_1_code, 4, none, 0, false) := rfl
set_option maxRecDepth 20000 in
theorem kv_q82 : kv_Ms[82]? = some (11, "feed", "(IIIII)I", prog_1_method_2_code, 7, (some .int), 5, false) := rfl
set_option maxRecDepth 20000 in
theorem kv_q83 : kv_Ms[83]? = some (11, "end", "(I)Z", prog_1_method_3_code, 2, (some .boolean), 1, false) := rfl
set_option maxRecDepth 20000 in
theorem kv_q84 : kv_Ms[84]? = some (11, "fault", "(I)I", prog_1_method_4_code, 3, (some .int), 1, false) := rfl
set_option maxRecDepth 20000 in
theorem kv_q85 : kv_Ms[85]? = some (11, "text", "(I)I", prog_1_method_5_code, 2, (some .int), 1, false) := rfl
set_option maxRecDepth 20000 in
theorem kv_q86 : kv_Ms[86]? = some (11, "beginField", "()I", prog_1_method_6_code, 1, (some .int), 0, false) := rfl
set_option maxRecDepth 20000 in
theorem kv_q87 : kv_Ms[87]? = some (11, "law", "(I)I", prog_1_method_8_code, 2, (some .int), 1, false) := rfl
set_option maxRecDepth 20000 in
theorem kv_q88 : kv_Ms[88]? = some (11, "holds", "(II)Z", prog_1_method_9_code, 3, (some .boolean), 2, false) := rfl
set_option maxRecDepth 20000 in
theorem kv_q89 : kv_Ms[89]? = some (11, "wind", "(II)I", prog_1_method_10_code, 3, (some .int), 2, false) := rfl
set_option maxRecDepth 20000 in
theorem kv_q90 : kv_Ms[90]? = some (11, "lift", "(I)I", prog_1_method_11_code, 2, (some .int), 1, false) := rfl
set_option maxRecDepth 20000 in
theorem kv_q91 : kv_Ms[91]? = some (11, "wear", "(II)I", prog_1_method_12_code, 3, (some .int), 2, false) := rfl
set_option maxRecDepth 20000 in
theorem kv_q92 : kv_Ms[92]? = some (11, "feet", "(I)I", prog_1_method_13_code, 2, (some .int), 1, false) := rfl
set_option maxRecDepth 20000 in
theorem kv_q93 : kv_Ms[93]? = some (11, "result", "()I", prog_1_method_14_code, 1, (some .int), 0, false) := rfl
set_option maxRecDepth 20000 in
theorem kv_q94 : kv_Ms[94]? = some (11, "mode", "(II)Z", prog_1_method_15_code, 3, (some .boolean), 2, false) := rfl
set_option maxRecDepth 20000 in
theorem kv_q95 : kv_Ms[95]? = some (11, "wax", "(I)I", prog_1_method_16_code, 2, (some .int), 1, false) := rfl
set_option maxRecDepth 20000 in
theorem kv_q96 : kv_Ms[96]? = some (11, "move", "(II)I", prog_1_method_17_code, 4, (some .int), 2, false) := rfl
set_option maxRecDepth 20000 in
theorem kv_q97 : kv_Ms[97]? = some (11, "splice", "(III)I", prog_1_method_18_code, 5, (some .int), 3, false) := rfl
set_option maxRecDepth 20000 in
theorem kv_q98 : kv_Ms[98]? = some (11, "talk", "(II)Z", prog_1_method_19_code, 3, (some .boolean), 2, false) := rfl
set_option maxRecDepth 20000 in
theorem kv_q99 : kv_Ms[99]? = some (11, "change", "(IIII)Z", prog_1_method_20_code, 5, (some .boolean), 4, false) := rfl
set_option maxRecDepth 20000 in
theorem kv_q100 : kv_Ms[100]? = some (11, "go", "(I)I", prog_1_method_21_code, 3, (some .int), 1, false) := rfl
set_option maxRecDepth 20000 in
theorem kv_q101 : kv_Ms[101]? = some (11, "gust", "(I)Z", prog_1_method_22_code, 2, (some .boolean), 1, false) := rfl
set_option maxRecDepth 20000 in
theorem kv_q102 : kv_Ms[102]? = some (11, "gusts", "(IJ)I", prog_1_method_23_code, 6, (some .int), 2, false) := rfl
set_option maxRecDepth 20000 in
theorem kv_q103 : kv_Ms[103]? = some (11, "sit", "()I", prog_1_method_24_code, 2, (some .int), 0, false) := rfl
set_option maxRecDepth 20000 in
theorem kv_q104 : kv_Ms[104]? = some (11, "book", "(I)I", prog_1_method_25_code, 2, (some .int), 1, false) := rfl
set_option maxRecDepth 20000 in
theorem kv_q105 : kv_Ms[105]? = some (11, "undo", "()I", prog_1_method_26_code, 1, (some .int), 0, false) := rfl
set_option maxRecDepth 20000 in
theorem kv_q106 : kv_Ms[106]? = some (11, "ahead", "(III)I", prog_1_method_27_code, 5, (some .int), 3, false) := rfl
set_option maxRecDepth 20000 in
theorem kv_q107 : kv_Ms[107]? = some (11, "bell", "(I)I", prog_1_method_28_code, 2, (some .int), 1, false) := rfl
set_option maxRecDepth 20000 in
theorem kv_q108 : kv_Ms[108]? = some (11, "cut", "(I)I", prog_1_method_29_code, 6, (some .int), 1, false) := rfl
set_option maxRecDepth 20000 in
theorem kv_q109 : kv_Ms[109]? = some (11, "calm", "()I", prog_1_method_30_code, 3, (some .int), 0, false) := rfl
set_option maxRecDepth 20000 in
theorem kv_q110 : kv_Ms[110]? = some (11, "timing", "(II)I", prog_1_method_31_code, 8, (some .int), 2, false) := rfl
set_option maxRecDepth 20000 in
theorem kv_q111 : kv_Ms[111]? = some (11, "stand", "(II)I", prog_1_method_32_code, 7, (some .int), 2, false) := rfl
set_option maxRecDepth 20000 in
theorem kv_q112 : kv_Ms[112]? = some (11, "cross", "(II)I", prog_1_method_33_code, 3, (some .int), 2, false) := rfl
set_option maxRecDepth 20000 in
theorem kv_q113 : kv_Ms[113]? = some (11, "crossing", "(II)I", prog_1_method_34_code, 4, (some .int), 2, false) := rfl
set_option maxRecDepth 20000 in
theorem kv_q114 : kv_Ms[114]? = some (11, "placeToCross", "(II)I", prog_1_method_35_code, 5, (some .int), 2, false) := rfl
set_option maxRecDepth 20000 in
theorem kv_q115 : kv_Ms[115]? = some (11, "prey", "(I)I", prog_1_method_36_code, 4, (some .int), 1, false) := rfl
set_option maxRecDepth 20000 in
theorem kv_q116 : kv_Ms[116]? = some (11, "power", "(I)I", prog_1_method_37_code, 8, (some .int), 1, false) := rfl
set_option maxRecDepth 20000 in
theorem kv_q117 : kv_Ms[117]? = some (11, "talked", "()I", prog_1_method_38_code, 5, (some .int), 0, false) := rfl
set_option maxRecDepth 20000 in
theorem kv_q118 : kv_Ms[118]? = some (11, "isCarriedWith", "(I)Z", prog_1_method_39_code, 7, (some .boolean), 1, false) := rfl
set_option maxRecDepth 20000 in
theorem kv_q119 : kv_Ms[119]? = some (11, "content", "(I)I", prog_1_method_40_code, 3, (some .int), 1, false) := rfl
set_option maxRecDepth 20000 in
theorem kv_q120 : kv_Ms[120]? = some (11, "contentWith", "(I)I", prog_1_method_41_code, 5, (some .int), 1, false) := rfl
set_option maxRecDepth 20000 in
theorem kv_q121 : kv_Ms[121]? = some (11, "ringer", "(I)I", prog_1_method_42_code, 6, (some .int), 1, false) := rfl
set_option maxRecDepth 20000 in
theorem kv_q122 : kv_Ms[122]? = some (11, "duel", "(IIII)I", prog_1_method_43_code, 5, (some .int), 4, false) := rfl
set_option maxRecDepth 20000 in
theorem kv_q123 : kv_Ms[123]? = some (11, "rests", "(III)I", prog_1_method_44_code, 7, (some .int), 3, false) := rfl
set_option maxRecDepth 20000 in
theorem kv_q124 : kv_Ms[124]? = some (11, "weighDuels", "(II)V", prog_1_method_45_code, 4, none, 2, false) := rfl
set_option maxRecDepth 20000 in
theorem kv_q125 : kv_Ms[125]? = some (11, "isResting", "(II)Z", prog_1_method_46_code, 5, (some .boolean), 2, false) := rfl
set_option maxRecDepth 20000 in
theorem kv_q126 : kv_Ms[126]? = some (11, "gainAt", "(II)I", prog_1_method_47_code, 4, (some .int), 2, false) := rfl
set_option maxRecDepth 20000 in
theorem kv_q127 : kv_Ms[127]? = some (11, "clan", "(II)I", prog_1_method_48_code, 3, (some .int), 2, false) := rfl
set_option maxRecDepth 20000 in
theorem kv_q128 : kv_Ms[128]? = some (11, "see", "(III)I", prog_1_method_49_code, 4, (some .int), 3, false) := rfl
set_option maxRecDepth 20000 in
theorem kv_q129 : kv_Ms[129]? = some (11, "weighs", "(I)I", prog_1_method_50_code, 4, (some .int), 1, false) := rfl
set_option maxRecDepth 20000 in
theorem kv_q130 : kv_Ms[130]? = some (11, "isSeenSo", "(II)Z", prog_1_method_51_code, 5, (some .boolean), 2, false) := rfl
set_option maxRecDepth 20000 in
theorem kv_q131 : kv_Ms[131]? = some (11, "spare", "(I)I", prog_1_method_52_code, 4, (some .int), 1, false) := rfl
set_option maxRecDepth 20000 in
theorem kv_q132 : kv_Ms[132]? = some (11, "lonely", "()I", prog_1_method_53_code, 4, (some .int), 0, false) := rfl
set_option maxRecDepth 20000 in
theorem kv_q133 : kv_Ms[133]? = some (11, "highest", "()I", prog_1_method_54_code, 3, (some .int), 0, false) := rfl
set_option maxRecDepth 20000 in
theorem kv_q134 : kv_Ms[134]? = some (11, "image", "()I", prog_1_method_55_code, 1, (some .int), 0, false) := rfl
set_option maxRecDepth 20000 in
theorem kv_q135 : kv_Ms[135]? = some (11, "back", "()I", prog_1_method_56_code, 1, (some .int), 0, false) := rfl
set_option maxRecDepth 20000 in
theorem kv_q136 : kv_Ms[136]? = some (11, "count", "(I)I", prog_1_method_57_code, 2, (some .int), 1, false) := rfl
set_option maxRecDepth 20000 in
theorem kv_q137 : kv_Ms[137]? = some (11, "hasField", "()Z", prog_1_method_58_code, 1, (some .boolean), 0, false) := rfl
set_option maxRecDepth 20000 in
theorem kv_q138 : kv_Ms[138]? = some (11, "isKite", "(I)Z", prog_1_method_59_code, 2, (some .boolean), 1, false) := rfl
set_option maxRecDepth 20000 in
theorem kv_q139 : kv_Ms[139]? = some (11, "isFlying", "(I)Z", prog_1_method_60_code, 2, (some .boolean), 1, false) := rfl
set_option maxRecDepth 20000 in
theorem kv_q140 : kv_Ms[140]? = some (11, "areTwo", "(II)Z", prog_1_method_61_code, 3, (some .boolean), 2, false) := rfl
set_option maxRecDepth 20000 in
theorem kv_q141 : kv_Ms[141]? = some (11, "isFree", "(I)Z", prog_1_method_62_code, 2, (some .boolean), 1, false) := rfl
set_option maxRecDepth 20000 in
theorem kv_q142 : kv_Ms[142]? = some (11, "left", "()I", prog_1_method_63_code, 1, (some .int), 0, false) := rfl
set_option maxRecDepth 20000 in
theorem kv_q143 : kv_Ms[143]? = some (11, "areAhead", "(I)Z", prog_1_method_64_code, 2, (some .boolean), 1, false) := rfl
set_option maxRecDepth 20000 in
theorem kv_q144 : kv_Ms[144]? = some (11, "flyTrial", "()V", prog_1_method_65_code, 3, none, 0, false) := rfl
set_option maxRecDepth 20000 in
theorem kv_q145 : kv_Ms[145]? = some (11, "flyStarting", "(IIII)V", prog_1_method_66_code, 7, none, 4, false) := rfl
set_option maxRecDepth 20000 in
theorem kv_q146 : kv_Ms[146]? = some (11, "lowestOf", "(I)I", prog_1_method_67_code, 2, (some .int), 1, true) := rfl
set_option maxRecDepth 20000 in
theorem kv_q147 : kv_Ms[147]? = some (11, "isOut", "(II)Z", prog_1_method_68_code, 2, (some .boolean), 2, true) := rfl
set_option maxRecDepth 20000 in
theorem kv_q148 : kv_Ms[148]? = some (11, "within", "(III)I", prog_1_method_69_code, 3, (some .int), 3, true) := rfl
set_option maxRecDepth 20000 in
theorem kv_q149 : kv_Ms[149]? = some (12, "in", "(III)Z", prog_14_method_1_code, 3, (some .boolean), 3, true) := rfl
set_option maxRecDepth 20000 in
theorem kv_q150 : kv_Ms[150]? = some (12, "has", "(II)Z", prog_14_method_2_code, 2, (some .boolean), 2, true) := rfl
set_option maxRecDepth 20000 in
theorem kv_q151 : kv_Ms[151]? = some (12, "<init>", "()V", prog_14_method_3_code, 1, none, 0, false) := rfl
set_option maxRecDepth 20000 in
theorem kv_q152 : kv_Ms[152]? = some (12, "thrown", "()I", prog_14_method_4_code, 1, (some .int), 0, false) := rfl
set_option maxRecDepth 20000 in
theorem kv_q153 : kv_Ms[153]? = some (12, "byteOf", "(IIIIII)I", prog_14_method_5_code, 7, (some .int), 6, true) := rfl
set_option maxRecDepth 20000 in
theorem kv_q154 : kv_Ms[154]? = some (12, "feed", "(IIIII)I", prog_14_method_6_code, 9, (some .int), 5, false) := rfl
set_option maxRecDepth 20000 in
theorem kv_q155 : kv_Ms[155]? = some (12, "end", "(I)Z", prog_14_method_7_code, 2, (some .boolean), 1, false) := rfl
set_option maxRecDepth 20000 in
theorem kv_q156 : kv_Ms[156]? = some (12, "here", "()I", prog_14_method_8_code, 1, (some .int), 0, false) := rfl
set_option maxRecDepth 20000 in
theorem kv_q157 : kv_Ms[157]? = some (12, "look", "()I", prog_14_method_9_code, 1, (some .int), 0, false) := rfl
set_option maxRecDepth 20000 in
theorem kv_q158 : kv_Ms[158]? = some (12, "bad", "()V", prog_14_method_10_code, 1, none, 0, false) := rfl
set_option maxRecDepth 20000 in
theorem kv_q159 : kv_Ms[159]? = some (12, "isDigit", "(I)Z", prog_14_method_11_code, 1, (some .boolean), 1, true) := rfl
set_option maxRecDepth 20000 in
theorem kv_q160 : kv_Ms[160]? = some (12, "put", "(II)V", prog_14_method_12_code, 3, none, 2, false) := rfl
set_option maxRecDepth 20000 in
theorem kv_q161 : kv_Ms[161]? = some (12, "letterOf", "(I)I", prog_14_method_13_code, 1, (some .int), 1, true) := rfl
set_option maxRecDepth 20000 in
theorem kv_q162 : kv_Ms[162]? = some (12, "opens", "()V", prog_14_method_14_code, 1, none, 0, false) := rfl
set_option maxRecDepth 20000 in
theorem kv_q163 : kv_Ms[163]? = some (12, "closes", "(I)V", prog_14_method_15_code, 2, none, 1, false) := rfl
set_option maxRecDepth 20000 in
theorem kv_q164 : kv_Ms[164]? = some (12, "plainNumber", "()I", prog_14_method_16_code, 3, (some .int), 0, false) := rfl
set_option maxRecDepth 20000 in
theorem kv_q165 : kv_Ms[165]? = some (12, "atom", "()V", prog_14_method_17_code, 2, none, 0, false) := rfl
set_option maxRecDepth 20000 in
theorem kv_q166 : kv_Ms[166]? = some (12, "term", "()V", prog_14_method_18_code, 2, none, 0, false) := rfl
set_option maxRecDepth 20000 in
theorem kv_q167 : kv_Ms[167]? = some (12, "sum", "()V", prog_14_method_19_code, 2, none, 0, false) := rfl
set_option maxRecDepth 20000 in
theorem kv_q168 : kv_Ms[168]? = some (12, "isSign", "(I)Z", prog_14_method_20_code, 1, (some .boolean), 1, true) := rfl
set_option maxRecDepth 20000 in
theorem kv_q169 : kv_Ms[169]? = some (12, "compare", "()V", prog_14_method_21_code, 2, none, 0, false) := rfl
set_option maxRecDepth 20000 in
theorem kv_q170 : kv_Ms[170]? = some (12, "unit", "()V", prog_14_method_22_code, 2, none, 0, false) := rfl
set_option maxRecDepth 20000 in
theorem kv_q171 : kv_Ms[171]? = some (12, "goOnAnd", "()V", prog_14_method_23_code, 1, none, 0, false) := rfl
set_option maxRecDepth 20000 in
theorem kv_q172 : kv_Ms[172]? = some (12, "goOnOr", "()V", prog_14_method_24_code, 1, none, 0, false) := rfl
set_option maxRecDepth 20000 in
theorem kv_q173 : kv_Ms[173]? = some (12, "condition", "()V", prog_14_method_25_code, 1, none, 0, false) := rfl
set_option maxRecDepth 20000 in
theorem kv_q174 : kv_Ms[174]? = some (12, "clause", "()V", prog_14_method_26_code, 3, none, 0, false) := rfl
set_option maxRecDepth 20000 in
theorem kv_q175 : kv_Ms[175]? = some (12, "open", "(I)V", prog_14_method_27_code, 2, none, 1, false) := rfl
set_option maxRecDepth 20000 in
theorem kv_q176 : kv_Ms[176]? = some (12, "atEnd", "()I", prog_14_method_28_code, 1, (some .int), 0, false) := rfl
set_option maxRecDepth 20000 in
theorem kv_q177 : kv_Ms[177]? = some (12, "readLaw", "(I)I", prog_14_method_29_code, 2, (some .int), 1, false) := rfl
set_option maxRecDepth 20000 in
theorem kv_q178 : kv_Ms[178]? = some (12, "bounded", "(J)I", prog_14_method_30_code, 2, (some .int), 1, true) := rfl
set_option maxRecDepth 20000 in
theorem kv_q179 : kv_Ms[179]? = some (12, "worked", "(IJJ)I", prog_14_method_31_code, 5, (some .int), 3, true) := rfl
set_option maxRecDepth 20000 in
theorem kv_q180 : kv_Ms[180]? = some (12, "workOut", "(III)I", prog_14_method_32_code, 6, (some .int), 3, false) := rfl
set_option maxRecDepth 20000 in
theorem kv_q181 : kv_Ms[181]? = some (12, "worthOf", "(I)I", prog_14_method_33_code, 3, (some .int), 1, false) := rfl
set_option maxRecDepth 20000 in
theorem kv_q182 : kv_Ms[182]? = some (12, "number", "(II)I", prog_14_method_34_code, 4, (some .int), 2, false) := rfl
set_option maxRecDepth 20000 in
theorem kv_q183 : kv_Ms[183]? = some (12, "itemOf", "(II)I", prog_14_method_35_code, 2, (some .int), 2, true) := rfl
set_option maxRecDepth 20000 in
theorem kv_q184 : kv_Ms[184]? = some (12, "lowest", "(II)I", prog_14_method_36_code, 3, (some .int), 2, true) := rfl
set_option maxRecDepth 20000 in
theorem kv_q185 : kv_Ms[185]? = some (12, "highest", "(II)I", prog_14_method_37_code, 2, (some .int), 2, true) := rfl
set_option maxRecDepth 20000 in
theorem kv_q186 : kv_Ms[186]? = some (12, "usual", "(III)I", prog_14_method_38_code, 3, (some .int), 3, true) := rfl
set_option maxRecDepth 20000 in
theorem kv_q187 : kv_Ms[187]? = some (12, "items", "(I[IIII)V", prog_14_method_39_code, 8, none, 5, false) := rfl
set_option maxRecDepth 20000 in
theorem kv_q188 : kv_Ms[188]? = some (12, "isWhole", "()Z", prog_14_method_40_code, 4, (some .boolean), 0, false) := rfl
set_option maxRecDepth 20000 in
theorem kv_q189 : kv_Ms[189]? = some (12, "readAll", "()I", prog_14_method_41_code, 4, (some .int), 0, false) := rfl
set_option maxRecDepth 20000 in
theorem kv_q190 : kv_Ms[190]? = some (12, "fault", "(I)I", prog_14_method_42_code, 2, (some .int), 1, false) := rfl
set_option maxRecDepth 20000 in
theorem kv_q191 : kv_Ms[191]? = some (12, "takeAll", "()I", prog_14_method_43_code, 3, (some .int), 0, false) := rfl
set_option maxRecDepth 20000 in
theorem kv_q192 : kv_Ms[192]? = some (12, "text", "(I)I", prog_14_method_44_code, 2, (some .int), 1, false) := rfl
set_option maxRecDepth 20000 in
theorem kv_q193 : kv_Ms[193]? = some (12, "of", "(II)I", prog_14_method_45_code, 3, (some .int), 2, false) := rfl
set_option maxRecDepth 20000 in
theorem kv_q194 : kv_Ms[194]? = some (12, "put", "(III)V", prog_14_method_46_code, 4, none, 3, false) := rfl
set_option maxRecDepth 20000 in
theorem kv_q195 : kv_Ms[195]? = some (12, "isKite", "(I)Z", prog_14_method_47_code, 2, (some .boolean), 1, false) := rfl
set_option maxRecDepth 20000 in
theorem kv_q196 : kv_Ms[196]? = some (12, "flies", "(I)Z", prog_14_method_48_code, 2, (some .boolean), 1, false) := rfl
set_option maxRecDepth 20000 in
theorem kv_q197 : kv_Ms[197]? = some (12, "areTwo", "(II)Z", prog_14_method_49_code, 3, (some .boolean), 2, false) := rfl
set_option maxRecDepth 20000 in
theorem kv_q198 : kv_Ms[198]? = some (12, "flying", "()I", prog_14_method_50_code, 3, (some .int), 0, false) := rfl
set_option maxRecDepth 20000 in
theorem kv_q199 : kv_Ms[199]? = some (12, "left", "()I", prog_14_method_51_code, 1, (some .int), 0, false) := rfl
set_option maxRecDepth 20000 in
theorem kv_q200 : kv_Ms[200]? = some (12, "kite", "(II)I", prog_14_method_52_code, 3, (some .int), 2, false) := rfl
set_option maxRecDepth 20000 in
theorem kv_q201 : kv_Ms[201]? = some (12, "law", "(I)I", prog_14_method_53_code, 2, (some .int), 1, false) := rfl
set_option maxRecDepth 20000 in
theorem kv_q202 : kv_Ms[202]? = some (12, "holds", "(II)Z", prog_14_method_54_code, 3, (some .boolean), 2, false) := rfl
set_option maxRecDepth 20000 in
theorem kv_q203 : kv_Ms[203]? = some (12, "windAt", "(II)I", prog_14_method_55_code, 5, (some .int), 2, false) := rfl
set_option maxRecDepth 20000 in
theorem kv_q204 : kv_Ms[204]? = some (12, "wind", "(II)I", prog_14_method_56_code, 3, (some .int), 2, false) := rfl
set_option maxRecDepth 20000 in
theorem kv_q205 : kv_Ms[205]? = some (12, "tellLetters", "(I)V", prog_14_method_57_code, 2, none, 1, false) := rfl
set_option maxRecDepth 20000 in
theorem kv_q206 : kv_Ms[206]? = some (12, "liftOf", "(I)I", prog_14_method_58_code, 3, (some .int), 1, false) := rfl
set_option maxRecDepth 20000 in
theorem kv_q207 : kv_Ms[207]? = some (12, "lift", "(I)I", prog_14_method_59_code, 2, (some .int), 1, false) := rfl
set_option maxRecDepth 20000 in
theorem kv_q208 : kv_Ms[208]? = some (12, "wearOf", "(II)I", prog_14_method_60_code, 5, (some .int), 2, false) := rfl
set_option maxRecDepth 20000 in
theorem kv_q209 : kv_Ms[209]? = some (12, "wear", "(II)I", prog_14_method_61_code, 3, (some .int), 2, false) := rfl
set_option maxRecDepth 20000 in
theorem kv_q210 : kv_Ms[210]? = some (12, "nobodyWaits", "()V", prog_14_method_62_code, 2, none, 0, false) := rfl
set_option maxRecDepth 20000 in
theorem kv_q211 : kv_Ms[211]? = some (12, "modeOf", "(I)I", prog_14_method_63_code, 2, (some .int), 1, false) := rfl
set_option maxRecDepth 20000 in
theorem kv_q212 : kv_Ms[212]? = some (12, "rise", "()V", prog_14_method_64_code, 4, none, 0, false) := rfl
set_option maxRecDepth 20000 in
theorem kv_q213 : kv_Ms[213]? = some (12, "bears", "(I)I", prog_14_method_65_code, 2, (some .int), 1, false) := rfl
set_option maxRecDepth 20000 in
theorem kv_q214 : kv_Ms[214]? = some (12, "rub", "()I", prog_14_method_66_code, 4, (some .int), 0, false) := rfl
set_option maxRecDepth 20000 in
theorem kv_q215 : kv_Ms[215]? = some (12, "pass", "()I", prog_14_method_67_code, 1, (some .int), 0, false) := rfl
set_option maxRecDepth 20000 in
theorem kv_q216 : kv_Ms[216]? = some (12, "feetOf", "(I)I", prog_14_method_68_code, 4, (some .int), 1, false) := rfl
set_option maxRecDepth 20000 in
theorem kv_q217 : kv_Ms[217]? = some (12, "feet", "(I)I", prog_14_method_69_code, 2, (some .int), 1, false) := rfl
set_option maxRecDepth 20000 in
theorem kv_q218 : kv_Ms[218]? = some (12, "resultNow", "()I", prog_14_method_70_code, 2, (some .int), 0, false) := rfl
set_option maxRecDepth 20000 in
theorem kv_q219 : kv_Ms[219]? = some (12, "result", "()I", prog_14_method_71_code, 1, (some .int), 0, false) := rfl
set_option maxRecDepth 20000 in
theorem kv_q220 : kv_Ms[220]? = some (12, "keep", "()V", prog_14_method_72_code, 2, none, 0, false) := rfl
set_option maxRecDepth 20000 in
theorem kv_q221 : kv_Ms[221]? = some (12, "mode", "(II)Z", prog_14_method_73_code, 3, (some .boolean), 2, false) := rfl
set_option maxRecDepth 20000 in
theorem kv_q222 : kv_Ms[222]? = some (12, "wax", "(I)I", prog_14_method_74_code, 2, (some .int), 1, false) := rfl
set_option maxRecDepth 20000 in
theorem kv_q223 : kv_Ms[223]? = some (12, "isFree", "(I)Z", prog_14_method_75_code, 3, (some .boolean), 1, false) := rfl
set_option maxRecDepth 20000 in
theorem kv_q224 : kv_Ms[224]? = some (12, "move", "(II)I", prog_14_method_76_code, 3, (some .int), 2, false) := rfl
set_option maxRecDepth 20000 in
theorem kv_q225 : kv_Ms[225]? = some (12, "splice", "(III)I", prog_14_method_77_code, 4, (some .int), 3, false) := rfl
set_option maxRecDepth 20000 in
theorem kv_q226 : kv_Ms[226]? = some (12, "talk", "(II)Z", prog_14_method_78_code, 3, (some .boolean), 2, false) := rfl
set_option maxRecDepth 20000 in
theorem kv_q227 : kv_Ms[227]? = some (12, "areMinutes", "(I)Z", prog_14_method_79_code, 2, (some .boolean), 1, false) := rfl
set_option maxRecDepth 20000 in
theorem kv_q228 : kv_Ms[228]? = some (12, "go", "(I)I", prog_14_method_80_code, 3, (some .int), 1, false) := rfl
set_option maxRecDepth 20000 in
theorem kv_q229 : kv_Ms[229]? = some (12, "gust", "(I)Z", prog_14_method_81_code, 2, (some .boolean), 1, false) := rfl
set_option maxRecDepth 20000 in
theorem kv_q230 : kv_Ms[230]? = some (12, "draw", "(I)I", prog_14_method_82_code, 2, (some .int), 1, false) := rfl
set_option maxRecDepth 20000 in
theorem kv_q231 : kv_Ms[231]? = some (12, "blow", "(I)V", prog_14_method_83_code, 3, none, 1, false) := rfl
set_option maxRecDepth 20000 in
theorem kv_q232 : kv_Ms[232]? = some (12, "gusts", "(IJ)I", prog_14_method_84_code, 6, (some .int), 2, false) := rfl
set_option maxRecDepth 20000 in
theorem kv_q233 : kv_Ms[233]? = some (12, "sit", "()I", prog_14_method_85_code, 3, (some .int), 0, false) := rfl
set_option maxRecDepth 20000 in
theorem kv_q234 : kv_Ms[234]? = some (12, "book", "(I)I", prog_14_method_86_code, 2, (some .int), 1, false) := rfl
set_option maxRecDepth 20000 in
theorem kv_q235 : kv_Ms[235]? = some (12, "undo", "()I", prog_14_method_87_code, 2, (some .int), 0, false) := rfl
set_option maxRecDepth 20000 in
theorem kv_q236 : kv_Ms[236]? = some (12, "putAside", "()V", prog_14_method_88_code, 2, none, 0, false) := rfl
set_option maxRecDepth 20000 in
theorem kv_q237 : kv_Ms[237]? = some (12, "takeBack", "()V", prog_14_method_89_code, 2, none, 0, false) := rfl
set_option maxRecDepth 20000 in
theorem kv_q238 : kv_Ms[238]? = some (12, "toBell", "()I", prog_14_method_90_code, 2, (some .int), 0, false) := rfl
set_option maxRecDepth 20000 in
theorem kv_q239 : kv_Ms[239]? = some (12, "ahead", "(III)I", prog_14_method_91_code, 5, (some .int), 3, false) := rfl
set_option maxRecDepth 20000 in
theorem kv_q240 : kv_Ms[240]? = some (12, "bell", "(I)I", prog_14_method_92_code, 3, (some .int), 1, false) := rfl
set_option maxRecDepth 20000 in
theorem kv_q241 : kv_Ms[241]? = some (12, "cut", "(I)I", prog_14_method_93_code, 4, (some .int), 1, false) := rfl
set_option maxRecDepth 20000 in
theorem kv_q242 : kv_Ms[242]? = some (12, "isCalm", "()Z", prog_14_method_94_code, 3, (some .boolean), 0, false) := rfl
set_option maxRecDepth 20000 in
theorem kv_q243 : kv_Ms[243]? = some (12, "calm", "()I", prog_14_method_95_code, 3, (some .int), 0, false) := rfl
set_option maxRecDepth 20000 in
theorem kv_q244 : kv_Ms[244]? = some (12, "heightAtBell", "(I)I", prog_14_method_96_code, 3, (some .int), 1, false) := rfl
set_option maxRecDepth 20000 in
theorem kv_q245 : kv_Ms[245]? = some (12, "timing", "(II)I", prog_14_method_97_code, 8, (some .int), 2, false) := rfl
set_option maxRecDepth 20000 in
theorem kv_q246 : kv_Ms[246]? = some (12, "stand", "(II)I", prog_14_method_98_code, 7, (some .int), 2, false) := rfl
set_option maxRecDepth 20000 in
theorem kv_q247 : kv_Ms[247]? = some (12, "crossOf", "(II)I", prog_14_method_99_code, 6, (some .int), 2, false) := rfl
set_option maxRecDepth 20000 in
theorem kv_q248 : kv_Ms[248]? = some (12, "cross", "(II)I", prog_14_method_100_code, 3, (some .int), 2, false) := rfl
set_option maxRecDepth 20000 in
theorem kv_q249 : kv_Ms[249]? = some (12, "prey", "(I)I", prog_14_method_101_code, 4, (some .int), 1, false) := rfl
set_option maxRecDepth 20000 in
theorem kv_q250 : kv_Ms[250]? = some (12, "heights", "(I)I", prog_14_method_102_code, 4, (some .int), 1, false) := rfl
set_option maxRecDepth 20000 in
theorem kv_q251 : kv_Ms[251]? = some (12, "wins", "(I)Z", prog_14_method_103_code, 2, (some .boolean), 1, false) := rfl
set_option maxRecDepth 20000 in
theorem kv_q252 : kv_Ms[252]? = some (12, "power", "(I)I", prog_14_method_104_code, 5, (some .int), 1, false) := rfl
set_option maxRecDepth 20000 in
theorem kv_q253 : kv_Ms[253]? = some (12, "talked", "()I", prog_14_method_105_code, 5, (some .int), 0, false) := rfl
set_option maxRecDepth 20000 in
theorem kv_q254 : kv_Ms[254]? = some (12, "contentWith", "(I)I", prog_14_method_106_code, 7, (some .int), 1, false) := rfl
set_option maxRecDepth 20000 in
theorem kv_q255 : kv_Ms[255]? = some (12, "content", "(I)I", prog_14_method_107_code, 2, (some .int), 1, false) := rfl
set_option maxRecDepth 20000 in
theorem kv_q256 : kv_Ms[256]? = some (12, "ringer", "(I)I", prog_14_method_108_code, 6, (some .int), 1, false) := rfl
set_option maxRecDepth 20000 in
theorem kv_q257 : kv_Ms[257]? = some (12, "duelOf", "(IIII)I", prog_14_method_109_code, 6, (some .int), 4, false) := rfl
set_option maxRecDepth 20000 in
theorem kv_q258 : kv_Ms[258]? = some (12, "duel", "(IIII)I", prog_14_method_110_code, 5, (some .int), 4, false) := rfl
set_option maxRecDepth 20000 in
theorem kv_q259 : kv_Ms[259]? = some (12, "isRest", "(II)Z", prog_14_method_111_code, 4, (some .boolean), 2, false) := rfl
set_option maxRecDepth 20000 in
theorem kv_q260 : kv_Ms[260]? = some (12, "rests", "(III)I", prog_14_method_112_code, 6, (some .int), 3, false) := rfl
set_option maxRecDepth 20000 in
theorem kv_q261 : kv_Ms[261]? = some (12, "clan", "(II)I", prog_14_method_113_code, 5, (some .int), 2, false) := rfl
set_option maxRecDepth 20000 in
theorem kv_q262 : kv_Ms[262]? = some (12, "see", "(III)I", prog_14_method_114_code, 4, (some .int), 3, false) := rfl
set_option maxRecDepth 20000 in
theorem kv_q263 : kv_Ms[263]? = some (12, "couldWeigh", "(II)Z", prog_14_method_115_code, 7, (some .boolean), 2, false) := rfl
set_option maxRecDepth 20000 in
theorem kv_q264 : kv_Ms[264]? = some (12, "weighs", "(I)I", prog_14_method_116_code, 4, (some .int), 1, false) := rfl
set_option maxRecDepth 20000 in
theorem kv_q265 : kv_Ms[265]? = some (12, "spare", "(I)I", prog_14_method_117_code, 4, (some .int), 1, false) := rfl
set_option maxRecDepth 20000 in
theorem kv_q266 : kv_Ms[266]? = some (12, "lonely", "()I", prog_14_method_118_code, 4, (some .int), 0, false) := rfl
set_option maxRecDepth 20000 in
theorem kv_q267 : kv_Ms[267]? = some (12, "highest", "()I", prog_14_method_119_code, 3, (some .int), 0, false) := rfl
set_option maxRecDepth 20000 in
theorem kv_q268 : kv_Ms[268]? = some (12, "image", "()I", prog_14_method_120_code, 2, (some .int), 0, false) := rfl
set_option maxRecDepth 20000 in
theorem kv_q269 : kv_Ms[269]? = some (12, "back", "()I", prog_14_method_121_code, 2, (some .int), 0, false) := rfl
set_option maxRecDepth 20000 in
theorem kv_q270 : kv_Ms[270]? = some (12, "count", "(I)I", prog_14_method_122_code, 2, (some .int), 1, false) := rfl
set_option maxRecDepth 20000 in
theorem kv_q271 : kv_Ms[271]? = some (13, "numberOfTrailingZeros", "(I)I", prog_20_method_48_code, 2, (some .int), 1, true) := rfl
set_option maxRecDepth 20000 in
theorem kv_q272 : kv_Ms[272]? = some (13, "bitCount", "(I)I", prog_20_method_49_code, 1, (some .int), 1, true) := rfl
set_option maxRecDepth 20000 in
theorem kv_q273 : kv_Ms[273]? = some (14, "length", "()I", prog_23_method_54_code, 1, (some .int), 0, false) := rfl
set_option maxRecDepth 20000 in
theorem kv_q274 : kv_Ms[274]? = some (14, "indexOf", "(I)I", prog_23_method_79_code, 2, (some .int), 1, false) := rfl
set_option maxRecDepth 20000 in
theorem kv_q275 : kv_Ms[275]? = some (14, "indexOf", "(II)I", prog_23_method_80_code, 3, (some .int), 2, false) := rfl
set_option maxRecDepth 20000 in
theorem kv_q276 : kv_Ms[276]? = some (14, "coder", "()B", prog_23_method_152_code, 1, (some .byte), 0, false) := rfl
set_option maxRecDepth 20000 in
theorem kv_q277 : kv_Ms[277]? = some (14, "isLatin1", "()Z", prog_23_method_154_code, 1, (some .boolean), 0, false) := rfl
set_option maxRecDepth 20000 in
theorem kv_q278 : kv_Ms[278]? = some (15, "canEncode", "(I)Z", prog_24_method_4_code, 1, (some .boolean), 1, true) := rfl
set_option maxRecDepth 20000 in
theorem kv_q279 : kv_Ms[279]? = some (15, "indexOf", "([BIII)I", prog_24_method_22_code, 4, (some .int), 4, true) := rfl
set_option maxRecDepth 20000 in
theorem kv_q280 : kv_Ms[280]? = some (15, "indexOfChar", "([BIII)I", prog_24_method_23_code, 6, (some .int), 4, true) := rfl
theorem kv_lf10_9 : kv_lk kv_LF 10 9 = some (10, 0, 0) := by decide +kernel
theorem kv_lf11_90 : kv_lk kv_LF 11 90 = some (10, 1, 1) := by decide +kernel
theorem kv_lf10_15 : kv_lk kv_LF 10 15 = some (10, 1, 0) := by decide +kernel
theorem kv_lf3_33 : kv_lk kv_LF 3 33 = some (10, 2, 1) := by decide +kernel
theorem kv_lf6_22 : kv_lk kv_LF 6 22 = some (10, 2, 1) := by decide +kernel
theorem kv_lf10_19 : kv_lk kv_LF 10 19 = some (10, 2, 0) := by decide +kernel
theorem kv_lf11_103 : kv_lk kv_LF 11 103 = some (10, 2, 1) := by decide +kernel
theorem kv_lf10_29 : kv_lk kv_LF 10 29 = some (10, 3, 0) := by decide +kernel
theorem kv_lf3_141 : kv_lk kv_LF 3 141 = some (10, 3, 1) := by decide +kernel
theorem kv_lf6_89 : kv_lk kv_LF 6 89 = some (10, 3, 1) := by decide +kernel
theorem kv_lf2_21 : kv_lk kv_LF 2 21 = some (2, 0, 0) := by decide +kernel
theorem kv_lf3_93 : kv_lk kv_LF 3 93 = some (2, 0, 1) := by decide +kernel
theorem kv_lf11_157 : kv_lk kv_LF 11 157 = some (2, 0, 1) := by decide +kernel
theorem kv_lf2_25 : kv_lk kv_LF 2 25 = some (2, 1, 0) := by decide +kernel
theorem kv_lf3_96 : kv_lk kv_LF 3 96 = some (2, 1, 1) := by decide +kernel
theorem kv_lf11_160 : kv_lk kv_LF 11 160 = some (2, 1, 1) := by decide +kernel
theorem kv_lf2_28 : kv_lk kv_LF 2 28 = some (2, 2, 0) := by decide +kernel
theorem kv_lf3_99 : kv_lk kv_LF 3 99 = some (2, 2, 1) := by decide +kernel
theorem kv_lf11_163 : kv_lk kv_LF 11 163 = some (2, 2, 1) := by decide +kernel
theorem kv_lf2_31 : kv_lk kv_LF 2 31 = some (2, 3, 0) := by decide +kernel
theorem kv_lf4_43 : kv_lk kv_LF 4 43 = some (2, 3, 1) := by decide +kernel
theorem kv_lf3_102 : kv_lk kv_LF 3 102 = some (2, 3, 1) := by decide +kernel
theorem kv_lf11_166 : kv_lk kv_LF 11 166 = some (2, 3, 1) := by decide +kernel
theorem kv_lf2_34 : kv_lk kv_LF 2 34 = some (2, 4, 0) := by decide +kernel
theorem kv_lf3_65 : kv_lk kv_LF 3 65 = some (2, 4, 1) := by decide +kernel
theorem kv_lf11_140 : kv_lk kv_LF 11 140 = some (2, 4, 1) := by decide +kernel
theorem kv_lf2_37 : kv_lk kv_LF 2 37 = some (2, 5, 0) := by decide +kernel
theorem kv_lf3_71 : kv_lk kv_LF 3 71 = some (2, 5, 1) := by decide +kernel
theorem kv_lf11_342 : kv_lk kv_LF 11 342 = some (2, 5, 1) := by decide +kernel
theorem kv_lf2_9 : kv_lk kv_LF 2 9 = some (2, 6, 0) := by decide +kernel
theorem kv_lf2_15 : kv_lk kv_LF 2 15 = some (2, 7, 0) := by decide +kernel
theorem kv_lf2_18 : kv_lk kv_LF 2 18 = some (2, 8, 0) := by decide +kernel
theorem kv_lf5_9 : kv_lk kv_LF 5 9 = some (5, 0, 0) := by decide +kernel
theorem kv_lf6_28 : kv_lk kv_LF 6 28 = some (5, 1, 1) := by decide +kernel
theorem kv_lf5_19 : kv_lk kv_LF 5 19 = some (5, 1, 0) := by decide +kernel
theorem kv_lf7_11 : kv_lk kv_LF 7 11 = some (7, 0, 0) := by decide +kernel
theorem kv_lf7_25 : kv_lk kv_LF 7 25 = some (7, 1, 0) := by decide +kernel
theorem kv_lf11_110 : kv_lk kv_LF 11 110 = some (7, 1, 1) := by decide +kernel
theorem kv_lf7_17 : kv_lk kv_LF 7 17 = some (7, 2, 0) := by decide +kernel
theorem kv_lf4_96 : kv_lk kv_LF 4 96 = some (7, 2, 1) := by decide +kernel
theorem kv_lf11_169 : kv_lk kv_LF 11 169 = some (7, 2, 1) := by decide +kernel
theorem kv_lf7_21 : kv_lk kv_LF 7 21 = some (7, 3, 0) := by decide +kernel
theorem kv_lf4_115 : kv_lk kv_LF 4 115 = some (7, 3, 1) := by decide +kernel
theorem kv_lf11_172 : kv_lk kv_LF 11 172 = some (7, 3, 1) := by decide +kernel
theorem kv_lf9_9 : kv_lk kv_LF 9 9 = some (9, 0, 0) := by decide +kernel
theorem kv_lf9_15 : kv_lk kv_LF 9 15 = some (9, 1, 0) := by decide +kernel
theorem kv_lf9_18 : kv_lk kv_LF 9 18 = some (9, 2, 0) := by decide +kernel
theorem kv_lf11_255 : kv_lk kv_LF 11 255 = some (9, 2, 1) := by decide +kernel
theorem kv_lf9_22 : kv_lk kv_LF 9 22 = some (9, 3, 0) := by decide +kernel
theorem kv_lf4_90 : kv_lk kv_LF 4 90 = some (9, 3, 1) := by decide +kernel
theorem kv_lf11_231 : kv_lk kv_LF 11 231 = some (9, 3, 1) := by decide +kernel
theorem kv_lf9_25 : kv_lk kv_LF 9 25 = some (9, 4, 0) := by decide +kernel
theorem kv_lf11_345 : kv_lk kv_LF 11 345 = some (9, 4, 1) := by decide +kernel
theorem kv_lf3_15 : kv_lk kv_LF 3 15 = some (3, 0, 0) := by decide +kernel
theorem kv_lf3_22 : kv_lk kv_LF 3 22 = some (3, 1, 0) := by decide +kernel
theorem kv_lf11_121 : kv_lk kv_LF 11 121 = some (3, 1, 1) := by decide +kernel
theorem kv_lf3_29 : kv_lk kv_LF 3 29 = some (3, 2, 0) := by decide +kernel
theorem kv_lf11_126 : kv_lk kv_LF 11 126 = some (3, 2, 1) := by decide +kernel
theorem kv_lf3_9 : kv_lk kv_LF 3 9 = some (3, 3, 0) := by decide +kernel
theorem kv_lf3_43 : kv_lk kv_LF 3 43 = some (3, 4, 0) := by decide +kernel
theorem kv_lf6_9 : kv_lk kv_LF 6 9 = some (6, 0, 0) := by decide +kernel
theorem kv_lf6_18 : kv_lk kv_LF 6 18 = some (6, 1, 0) := by decide +kernel
theorem kv_lf11_113 : kv_lk kv_LF 11 113 = some (6, 1, 1) := by decide +kernel
theorem kv_lf4_18 : kv_lk kv_LF 4 18 = some (4, 0, 0) := by decide +kernel
theorem kv_lf4_22 : kv_lk kv_LF 4 22 = some (4, 1, 0) := by decide +kernel
theorem kv_lf4_9 : kv_lk kv_LF 4 9 = some (4, 2, 0) := by decide +kernel
theorem kv_lf4_15 : kv_lk kv_LF 4 15 = some (4, 3, 0) := by decide +kernel
theorem kv_lf0_11 : kv_lk kv_LF 0 11 = some (0, 0, 0) := by decide +kernel
theorem kv_lf0_18 : kv_lk kv_LF 0 18 = some (0, 1, 0) := by decide +kernel
theorem kv_lf0_26 : kv_lk kv_LF 0 26 = some (0, 2, 0) := by decide +kernel
theorem kv_lf11_268 : kv_lk kv_LF 11 268 = some (0, 2, 1) := by decide +kernel
theorem kv_lf8_9 : kv_lk kv_LF 8 9 = some (8, 0, 0) := by decide +kernel
theorem kv_lf8_15 : kv_lk kv_LF 8 15 = some (8, 1, 0) := by decide +kernel
theorem kv_lf8_18 : kv_lk kv_LF 8 18 = some (8, 2, 0) := by decide +kernel
theorem kv_lf8_21 : kv_lk kv_LF 8 21 = some (8, 3, 0) := by decide +kernel
theorem kv_lf11_139 : kv_lk kv_LF 11 139 = some (8, 3, 1) := by decide +kernel
theorem kv_lf11_16 : kv_lk kv_LF 11 16 = some (11, 0, 0) := by decide +kernel
theorem kv_lf11_35 : kv_lk kv_LF 11 35 = some (11, 1, 0) := by decide +kernel
theorem kv_lf11_42 : kv_lk kv_LF 11 42 = some (11, 2, 0) := by decide +kernel
theorem kv_lf11_22 : kv_lk kv_LF 11 22 = some (11, 3, 0) := by decide +kernel
theorem kv_lf11_26 : kv_lk kv_LF 11 26 = some (11, 4, 0) := by decide +kernel
theorem kv_lf11_51 : kv_lk kv_LF 11 51 = some (11, 5, 0) := by decide +kernel
theorem kv_lf11_58 : kv_lk kv_LF 11 58 = some (11, 6, 0) := by decide +kernel
theorem kv_lf11_62 : kv_lk kv_LF 11 62 = some (11, 7, 0) := by decide +kernel
theorem kv_lf11_65 : kv_lk kv_LF 11 65 = some (11, 8, 0) := by decide +kernel
theorem kv_lf11_132 : kv_lk kv_LF 11 132 = some (11, 9, 0) := by decide +kernel
theorem kv_lf11_71 : kv_lk kv_LF 11 71 = some (11, 10, 0) := by decide +kernel
theorem kv_lf11_78 : kv_lk kv_LF 11 78 = some (11, 11, 0) := by decide +kernel
theorem kv_lf11_82 : kv_lk kv_LF 11 82 = some (11, 12, 0) := by decide +kernel
theorem kv_lf11_234 : kv_lk kv_LF 11 234 = some (11, 13, 0) := by decide +kernel
theorem kv_lf1_7 : kv_lk kv_LF 1 7 = some (1, 0, 0) := by decide +kernel
theorem kv_lf12_92 : kv_lk kv_LF 12 92 = some (12, 0, 0) := by decide +kernel
theorem kv_lf12_9 : kv_lk kv_LF 12 9 = some (12, 1, 0) := by decide +kernel
theorem kv_lf12_99 : kv_lk kv_LF 12 99 = some (12, 2, 0) := by decide +kernel
theorem kv_lf12_102 : kv_lk kv_LF 12 102 = some (12, 3, 0) := by decide +kernel
theorem kv_lf12_109 : kv_lk kv_LF 12 109 = some (12, 4, 0) := by decide +kernel
theorem kv_lf12_115 : kv_lk kv_LF 12 115 = some (12, 5, 0) := by decide +kernel
theorem kv_lf12_13 : kv_lk kv_LF 12 13 = some (12, 6, 0) := by decide +kernel
theorem kv_lf12_16 : kv_lk kv_LF 12 16 = some (12, 7, 0) := by decide +kernel
theorem kv_lf12_19 : kv_lk kv_LF 12 19 = some (12, 8, 0) := by decide +kernel
theorem kv_lf12_22 : kv_lk kv_LF 12 22 = some (12, 9, 0) := by decide +kernel
theorem kv_lf12_25 : kv_lk kv_LF 12 25 = some (12, 10, 0) := by decide +kernel
theorem kv_lf12_28 : kv_lk kv_LF 12 28 = some (12, 11, 0) := by decide +kernel
theorem kv_lf12_31 : kv_lk kv_LF 12 31 = some (12, 12, 0) := by decide +kernel
theorem kv_lf12_276 : kv_lk kv_LF 12 276 = some (12, 13, 0) := by decide +kernel
theorem kv_lf12_112 : kv_lk kv_LF 12 112 = some (12, 14, 0) := by decide +kernel
theorem kv_lf12_34 : kv_lk kv_LF 12 34 = some (12, 15, 0) := by decide +kernel
theorem kv_lf12_37 : kv_lk kv_LF 12 37 = some (12, 16, 0) := by decide +kernel
theorem kv_lf12_40 : kv_lk kv_LF 12 40 = some (12, 17, 0) := by decide +kernel
theorem kv_lf12_43 : kv_lk kv_LF 12 43 = some (12, 18, 0) := by decide +kernel
theorem kv_lf12_46 : kv_lk kv_LF 12 46 = some (12, 19, 0) := by decide +kernel
theorem kv_lf12_231 : kv_lk kv_LF 12 231 = some (12, 20, 0) := by decide +kernel
theorem kv_lf12_234 : kv_lk kv_LF 12 234 = some (12, 21, 0) := by decide +kernel
theorem kv_lf12_49 : kv_lk kv_LF 12 49 = some (12, 22, 0) := by decide +kernel
theorem kv_lf12_52 : kv_lk kv_LF 12 52 = some (12, 23, 0) := by decide +kernel
theorem kv_lf12_251 : kv_lk kv_LF 12 251 = some (12, 24, 0) := by decide +kernel
theorem kv_lf12_254 : kv_lk kv_LF 12 254 = some (12, 25, 0) := by decide +kernel
theorem kv_lf12_55 : kv_lk kv_LF 12 55 = some (12, 26, 0) := by decide +kernel
theorem kv_lf12_58 : kv_lk kv_LF 12 58 = some (12, 27, 0) := by decide +kernel
theorem kv_lf12_62 : kv_lk kv_LF 12 62 = some (12, 28, 0) := by decide +kernel
theorem kv_lf12_347 : kv_lk kv_LF 12 347 = some (12, 29, 0) := by decide +kernel
theorem kv_lf12_65 : kv_lk kv_LF 12 65 = some (12, 30, 0) := by decide +kernel
theorem kv_lf12_68 : kv_lk kv_LF 12 68 = some (12, 31, 0) := by decide +kernel
theorem kv_lf12_71 : kv_lk kv_LF 12 71 = some (12, 32, 0) := by decide +kernel
theorem kv_lf12_266 : kv_lk kv_LF 12 266 = some (12, 33, 0) := by decide +kernel
theorem kv_lf12_350 : kv_lk kv_LF 12 350 = some (12, 34, 0) := by decide +kernel
theorem kv_lf12_74 : kv_lk kv_LF 12 74 = some (12, 35, 0) := by decide +kernel
theorem kv_lf12_77 : kv_lk kv_LF 12 77 = some (12, 36, 0) := by decide +kernel
theorem kv_lf12_80 : kv_lk kv_LF 12 80 = some (12, 37, 0) := by decide +kernel
theorem kv_lf12_83 : kv_lk kv_LF 12 83 = some (12, 38, 0) := by decide +kernel
theorem kv_lf12_86 : kv_lk kv_LF 12 86 = some (12, 39, 0) := by decide +kernel
theorem kv_lf12_263 : kv_lk kv_LF 12 263 = some (12, 40, 0) := by decide +kernel
theorem kv_lf12_89 : kv_lk kv_LF 12 89 = some (12, 41, 0) := by decide +kernel
theorem kv_lf12_269 : kv_lk kv_LF 12 269 = some (12, 42, 0) := by decide +kernel
theorem kv_lm11_9 : kv_lk kv_LM 11 9 = some (73, 2, 1) := by decide +kernel
theorem kv_lm11_12 : kv_lk kv_LM 11 12 = some (6, 2, 1) := by decide +kernel
theorem kv_lm11_15 : kv_lk kv_LM 11 15 = some (49, 2, 0) := by decide +kernel
theorem kv_lm7_24 : kv_lk kv_LM 7 24 = some (31, 2, 1) := by decide +kernel
theorem kv_lm11_32 : kv_lk kv_LM 11 32 = some (12, 2, 0) := by decide +kernel
theorem kv_lm3_21 : kv_lk kv_LM 3 21 = some (6, 2, 1) := by decide +kernel
theorem kv_lm3_28 : kv_lk kv_LM 3 28 = some (56, 2, 1) := by decide +kernel
theorem kv_lm11_41 : kv_lk kv_LM 11 41 = some (38, 2, 0) := by decide +kernel
theorem kv_lm6_17 : kv_lk kv_LM 6 17 = some (31, 2, 1) := by decide +kernel
theorem kv_lm11_48 : kv_lk kv_LM 11 48 = some (21, 2, 0) := by decide +kernel
theorem kv_lm11_57 : kv_lk kv_LM 11 57 = some (56, 2, 1) := by decide +kernel
theorem kv_lm11_70 : kv_lk kv_LM 11 70 = some (0, 2, 0) := by decide +kernel
theorem kv_lm0_17 : kv_lk kv_LM 0 17 = some (56, 2, 1) := by decide +kernel
theorem kv_lm11_77 : kv_lk kv_LM 11 77 = some (52, 2, 1) := by decide +kernel
theorem kv_lm11_86 : (kv_lk2 kv_LK 11 86 = false ∧ kv_lk kv_LX 11 86 = none) ∧ kv_lk kv_LM 11 86 = some (74, 0, 0) := by decide +kernel
theorem kv_lm11_94 : kv_lk kv_LM 11 94 = some (75, 1, 0) := by decide +kernel
theorem kv_lm11_98 : kv_lk kv_LM 11 98 = some (13, 1, 0) := by decide +kernel
theorem kv_lm3_39 : kv_lk kv_LM 3 39 = some (7, 1, 0) := by decide +kernel
theorem kv_lm3_42 : kv_lk kv_LM 3 42 = some (57, 1, 0) := by decide +kernel
theorem kv_lm3_47 : kv_lk kv_LM 3 47 = some (14, 1, 0) := by decide +kernel
theorem kv_lm3_55 : kv_lk kv_LM 3 55 = some (76, 1, 0) := by decide +kernel
theorem kv_lm3_62 : kv_lk kv_LM 3 62 = some (15, 1, 0) := by decide +kernel
theorem kv_lm3_77 : kv_lk kv_LM 3 77 = some (18, 1, 0) := by decide +kernel
theorem kv_lm3_89 : kv_lk kv_LM 3 89 = some (19, 1, 0) := by decide +kernel
theorem kv_lm3_128 : kv_lk kv_LM 3 128 = some (273, 1, 0) := by decide +kernel
theorem kv_lm14_335 : kv_lk kv_LM 14 335 = some (276, 1, 0) := by decide +kernel
theorem kv_lm3_133 : kv_lk kv_LM 3 133 = some (274, 1, 0) := by decide +kernel
theorem kv_lm14_633 : kv_lk kv_LM 14 633 = some (275, 1, 0) := by decide +kernel
theorem kv_lm14_492 : kv_lk kv_LM 14 492 = some (277, 1, 0) := by decide +kernel
theorem kv_lm14_505 : kv_lk kv_LM 14 505 = some (273, 1, 0) := by decide +kernel
theorem kv_lm14_637 : (kv_lk2 kv_LK 14 637 = false ∧ kv_lk kv_LX 14 637 = none) ∧ kv_lk kv_LM 14 637 = some (279, 0, 0) := by decide +kernel
theorem kv_lm15_88 : (kv_lk2 kv_LK 15 88 = false ∧ kv_lk kv_LX 15 88 = none) ∧ kv_lk kv_LM 15 88 = some (278, 0, 0) := by decide +kernel
theorem kv_lm15_95 : (kv_lk2 kv_LK 15 95 = false ∧ kv_lk kv_LX 15 95 = none) ∧ kv_lk kv_LM 15 95 = some (280, 0, 0) := by decide +kernel
theorem kv_lm3_137 : kv_lk kv_LM 3 137 = some (80, 1, 0) := by decide +kernel
theorem kv_lm10_32 : kv_lk kv_LM 10 32 = some (79, 1, 0) := by decide +kernel
theorem kv_lm10_22 : kv_lk kv_LM 10 22 = some (76, 1, 0) := by decide +kernel
theorem kv_lm10_26 : kv_lk kv_LM 10 26 = some (77, 1, 0) := by decide +kernel
theorem kv_lm3_68 : kv_lk kv_LM 3 68 = some (16, 1, 0) := by decide +kernel
theorem kv_lm3_113 : kv_lk kv_LM 3 113 = some (60, 1, 0) := by decide +kernel
theorem kv_lm3_74 : kv_lk kv_LM 3 74 = some (17, 1, 0) := by decide +kernel
theorem kv_lm3_125 : kv_lk kv_LM 3 125 = some (9, 1, 0) := by decide +kernel
theorem kv_lm3_51 : kv_lk kv_LM 3 51 = some (78, 1, 0) := by decide +kernel
theorem kv_lm3_59 : kv_lk kv_LM 3 59 = some (20, 1, 0) := by decide +kernel
theorem kv_lm3_144 : kv_lk kv_LM 3 144 = some (59, 1, 0) := by decide +kernel
theorem kv_lm11_102 : kv_lk kv_LM 11 102 = some (39, 1, 0) := by decide +kernel
theorem kv_lm6_31 : kv_lk kv_LM 6 31 = some (40, 1, 0) := by decide +kernel
theorem kv_lm6_35 : kv_lk kv_LM 6 35 = some (78, 1, 0) := by decide +kernel
theorem kv_lm6_39 : kv_lk kv_LM 6 39 = some (76, 1, 0) := by decide +kernel
theorem kv_lm6_43 : kv_lk kv_LM 6 43 = some (46, 1, 0) := by decide +kernel
theorem kv_lm6_72 : kv_lk kv_LM 6 72 = some (47, 1, 0) := by decide +kernel
theorem kv_lm6_75 : kv_lk kv_LM 6 75 = some (48, 1, 0) := by decide +kernel
theorem kv_lm6_80 : kv_lk kv_LM 6 80 = some (274, 1, 0) := by decide +kernel
theorem kv_lm6_50 : kv_lk kv_LM 6 50 = some (33, 1, 0) := by decide +kernel
theorem kv_lm6_86 : kv_lk kv_LM 6 86 = some (79, 1, 0) := by decide +kernel
theorem kv_lm6_47 : kv_lk kv_LM 6 47 = some (45, 1, 0) := by decide +kernel
theorem kv_lm6_54 : kv_lk kv_LM 6 54 = some (41, 1, 0) := by decide +kernel
theorem kv_lm6_62 : kv_lk kv_LM 6 62 = some (42, 1, 0) := by decide +kernel
theorem kv_lm6_65 : kv_lk kv_LM 6 65 = some (43, 1, 0) := by decide +kernel
theorem kv_lm6_68 : kv_lk kv_LM 6 68 = some (44, 1, 0) := by decide +kernel
theorem kv_lm6_58 : kv_lk kv_LM 6 58 = some (34, 1, 0) := by decide +kernel
theorem kv_lm11_106 : kv_lk kv_LM 11 106 = some (86, 1, 0) := by decide +kernel
theorem kv_lm11_122 : kv_lk kv_LM 11 122 = some (8, 1, 0) := by decide +kernel
theorem kv_lm11_129 : kv_lk kv_LM 11 129 = some (58, 1, 0) := by decide +kernel
theorem kv_lm11_136 : kv_lk kv_LM 11 136 = some (3, 1, 0) := by decide +kernel
theorem kv_lm11_117 : kv_lk kv_LM 11 117 = some (50, 1, 0) := by decide +kernel
theorem kv_lm7_28 : kv_lk kv_LM 7 28 = some (32, 1, 0) := by decide +kernel
theorem kv_lm11_154 : kv_lk kv_LM 11 154 = some (137, 1, 0) := by decide +kernel
theorem kv_lm11_175 : (kv_lk2 kv_LK 11 175 = false ∧ kv_lk kv_LX 11 175 = none) ∧ kv_lk kv_LM 11 175 = some (147, 0, 0) := by decide +kernel
theorem kv_lm11_179 : kv_lk kv_LM 11 179 = some (10, 1, 0) := by decide +kernel
theorem kv_lm11_182 : kv_lk kv_LM 11 182 = some (139, 1, 0) := by decide +kernel
theorem kv_lm11_143 : kv_lk kv_LM 11 143 = some (138, 1, 0) := by decide +kernel
theorem kv_lm11_291 : kv_lk kv_LM 11 291 = some (61, 1, 0) := by decide +kernel
theorem kv_lm9_34 : kv_lk kv_LM 9 34 = some (59, 1, 0) := by decide +kernel
theorem kv_lm11_185 : kv_lk kv_LM 11 185 = some (27, 1, 0) := by decide +kernel
theorem kv_lm4_39 : kv_lk kv_LM 4 39 = some (59, 1, 0) := by decide +kernel
theorem kv_lm4_93 : kv_lk kv_LM 4 93 = some (10, 1, 0) := by decide +kernel
theorem kv_lm4_101 : kv_lk kv_LM 4 101 = some (51, 1, 0) := by decide +kernel
theorem kv_lm4_65 : (kv_lk2 kv_LK 4 65 = false ∧ kv_lk kv_LX 4 65 = none) ∧ kv_lk kv_LM 4 65 = some (148, 0, 1) := by decide +kernel
theorem kv_lm4_105 : kv_lk kv_LM 4 105 = some (29, 1, 0) := by decide +kernel
theorem kv_lm4_109 : kv_lk kv_LM 4 109 = some (35, 1, 0) := by decide +kernel
theorem kv_lm5_25 : (kv_lk2 kv_LK 5 25 = false ∧ kv_lk kv_LX 5 25 = none) ∧ kv_lk kv_LM 5 25 = some (36, 0, 0) := by decide +kernel
theorem kv_lm5_29 : (kv_lk2 kv_LK 5 29 = false ∧ kv_lk kv_LX 5 29 = none) ∧ kv_lk kv_LM 5 29 = some (37, 0, 0) := by decide +kernel
theorem kv_lm11_190 : kv_lk kv_LM 11 190 = some (140, 1, 0) := by decide +kernel
theorem kv_lm11_193 : kv_lk kv_LM 11 193 = some (28, 1, 0) := by decide +kernel
theorem kv_lm11_197 : kv_lk kv_LM 11 197 = some (69, 1, 0) := by decide +kernel
theorem kv_lm9_38 : kv_lk kv_LM 9 38 = some (61, 1, 0) := by decide +kernel
theorem kv_lm11_200 : kv_lk kv_LM 11 200 = some (30, 1, 0) := by decide +kernel
theorem kv_lm4_118 : kv_lk kv_LM 4 118 = some (69, 1, 0) := by decide +kernel
theorem kv_lm4_121 : kv_lk kv_LM 4 121 = some (11, 1, 0) := by decide +kernel
theorem kv_lm11_204 : kv_lk kv_LM 11 204 = some (99, 1, 0) := by decide +kernel
theorem kv_lm11_150 : kv_lk kv_LM 11 150 = some (59, 1, 0) := by decide +kernel
theorem kv_lm11_208 : kv_lk kv_LM 11 208 = some (1, 1, 0) := by decide +kernel
theorem kv_lm0_22 : kv_lk kv_LM 0 22 = some (58, 1, 0) := by decide +kernel
theorem kv_lm11_210 : kv_lk kv_LM 11 210 = some (60, 1, 0) := by decide +kernel
theorem kv_lm11_214 : kv_lk kv_LM 11 214 = some (141, 1, 0) := by decide +kernel
theorem kv_lm11_339 : kv_lk kv_LM 11 339 = some (64, 1, 0) := by decide +kernel
theorem kv_lm11_217 : kv_lk kv_LM 11 217 = some (65, 1, 0) := by decide +kernel
theorem kv_lm11_225 : kv_lk kv_LM 11 225 = some (143, 1, 0) := by decide +kernel
theorem kv_lm11_252 : kv_lk kv_LM 11 252 = some (142, 1, 0) := by decide +kernel
theorem kv_lm11_228 : kv_lk kv_LM 11 228 = some (22, 1, 0) := by decide +kernel
theorem kv_lm4_26 : kv_lk kv_LM 4 26 = some (23, 1, 0) := by decide +kernel
theorem kv_lm4_33 : kv_lk kv_LM 4 33 = some (61, 1, 0) := by decide +kernel
theorem kv_lm4_57 : kv_lk kv_LM 4 57 = some (60, 1, 0) := by decide +kernel
theorem kv_lm4_61 : kv_lk kv_LM 4 61 = some (27, 1, 0) := by decide +kernel
theorem kv_lm4_30 : kv_lk kv_LM 4 30 = some (25, 1, 0) := by decide +kernel
theorem kv_lm4_75 : (kv_lk2 kv_LK 4 75 = false ∧ kv_lk kv_LX 4 75 = none) ∧ kv_lk kv_LM 4 75 = some (26, 0, 0) := by decide +kernel
theorem kv_lm4_79 : kv_lk kv_LM 4 79 = some (28, 1, 0) := by decide +kernel
theorem kv_lm4_83 : kv_lk kv_LM 4 83 = some (66, 1, 0) := by decide +kernel
theorem kv_lm4_86 : kv_lk kv_LM 4 86 = some (63, 1, 0) := by decide +kernel
theorem kv_lm9_42 : kv_lk kv_LM 9 42 = some (60, 1, 0) := by decide +kernel
theorem kv_lm11_239 : kv_lk kv_LM 11 239 = some (4, 2, 0) := by decide +kernel
theorem kv_lm11_242 : kv_lk kv_LM 11 242 = some (23, 1, 0) := by decide +kernel
theorem kv_lm11_245 : kv_lk kv_LM 11 245 = some (24, 1, 0) := by decide +kernel
theorem kv_lm4_69 : kv_lk kv_LM 4 69 = some (5, 1, 0) := by decide +kernel
theorem kv_lm11_249 : kv_lk kv_LM 11 249 = some (25, 1, 0) := by decide +kernel
theorem kv_lm11_258 : kv_lk kv_LM 11 258 = some (72, 1, 0) := by decide +kernel
theorem kv_lm11_261 : kv_lk kv_LM 11 261 = some (71, 1, 0) := by decide +kernel
theorem kv_lm11_264 : kv_lk kv_LM 11 264 = some (2, 1, 0) := by decide +kernel
theorem kv_lm11_269 : kv_lk kv_LM 11 269 = some (144, 1, 0) := by decide +kernel
theorem kv_lm11_272 : kv_lk kv_LM 11 272 = some (62, 1, 0) := by decide +kernel
theorem kv_lm11_275 : (kv_lk2 kv_LK 11 275 = false ∧ kv_lk kv_LX 11 275 = none) ∧ kv_lk kv_LM 11 275 = some (146, 0, 0) := by decide +kernel
theorem kv_lm11_278 : kv_lk kv_LM 11 278 = some (68, 1, 0) := by decide +kernel
theorem kv_lm9_51 : kv_lk kv_LM 9 51 = some (62, 1, 0) := by decide +kernel
theorem kv_lm9_55 : kv_lk kv_LM 9 55 = some (67, 1, 0) := by decide +kernel
theorem kv_lm11_281 : kv_lk kv_LM 11 281 = some (145, 1, 0) := by decide +kernel
theorem kv_lm11_285 : kv_lk kv_LM 11 285 = some (113, 1, 0) := by decide +kernel
theorem kv_lm11_288 : kv_lk kv_LM 11 288 = some (114, 1, 0) := by decide +kernel
theorem kv_lm11_294 : kv_lk kv_LM 11 294 = some (67, 1, 0) := by decide +kernel
theorem kv_lm11_297 : kv_lk kv_LM 11 297 = some (11, 1, 0) := by decide +kernel
theorem kv_lm11_300 : (kv_lk2 kv_LK 11 300 = false ∧ kv_lk kv_LX 11 300 = none) ∧ kv_lk kv_LM 11 300 = some (272, 0, 0) := by decide +kernel
theorem kv_lm11_305 : kv_lk kv_LM 11 305 = some (118, 1, 0) := by decide +kernel
theorem kv_lm11_308 : kv_lk kv_LM 11 308 = some (120, 1, 0) := by decide +kernel
theorem kv_lm11_311 : kv_lk kv_LM 11 311 = some (124, 1, 0) := by decide +kernel
theorem kv_lm11_315 : kv_lk kv_LM 11 315 = some (125, 1, 0) := by decide +kernel
theorem kv_lm11_318 : kv_lk kv_LM 11 318 = some (126, 1, 0) := by decide +kernel
theorem kv_lm11_321 : kv_lk kv_LM 11 321 = some (63, 1, 0) := by decide +kernel
theorem kv_lm11_324 : kv_lk kv_LM 11 324 = some (70, 1, 0) := by decide +kernel
theorem kv_lm11_327 : kv_lk kv_LM 11 327 = some (53, 1, 0) := by decide +kernel
theorem kv_lm11_329 : kv_lk kv_LM 11 329 = some (130, 1, 0) := by decide +kernel
theorem kv_lm11_332 : kv_lk kv_LM 11 332 = some (54, 1, 0) := by decide +kernel
theorem kv_lm11_335 : kv_lk kv_LM 11 335 = some (55, 1, 0) := by decide +kernel
theorem kv_lm12_95 : (kv_lk2 kv_LK 12 95 = false ∧ kv_lk kv_LX 12 95 = none) ∧ kv_lk kv_LM 12 95 = some (153, 0, 0) := by decide +kernel
theorem kv_lm12_245 : kv_lk kv_LM 12 245 = some (189, 1, 0) := by decide +kernel
theorem kv_lm12_211 : (kv_lk2 kv_LK 12 211 = false ∧ kv_lk kv_LX 12 211 = none) ∧ kv_lk kv_LM 12 211 = some (186, 0, 0) := by decide +kernel
theorem kv_lm12_121 : kv_lk kv_LM 12 121 = some (157, 1, 0) := by decide +kernel
theorem kv_lm12_105 : kv_lk kv_LM 12 105 = some (156, 1, 0) := by decide +kernel
theorem kv_lm12_237 : kv_lk kv_LM 12 237 = some (187, 1, 0) := by decide +kernel
theorem kv_lm12_214 : (kv_lk2 kv_LK 12 214 = false ∧ kv_lk kv_LX 12 214 = none) ∧ kv_lk kv_LM 12 214 = some (183, 0, 0) := by decide +kernel
theorem kv_lm12_218 : (kv_lk2 kv_LK 12 218 = false ∧ kv_lk kv_LX 12 218 = none) ∧ kv_lk kv_LM 12 218 = some (150, 0, 0) := by decide +kernel
theorem kv_lm12_222 : (kv_lk2 kv_LK 12 222 = false ∧ kv_lk kv_LX 12 222 = none) ∧ kv_lk kv_LM 12 222 = some (184, 0, 0) := by decide +kernel
theorem kv_lm12_225 : (kv_lk2 kv_LK 12 225 = false ∧ kv_lk kv_LX 12 225 = none) ∧ kv_lk kv_LM 12 225 = some (185, 0, 0) := by decide +kernel
theorem kv_lm12_228 : kv_lk kv_LM 12 228 = some (182, 1, 0) := by decide +kernel
theorem kv_lm12_124 : (kv_lk2 kv_LK 12 124 = false ∧ kv_lk kv_LX 12 124 = none) ∧ kv_lk kv_LM 12 124 = some (159, 0, 0) := by decide +kernel
theorem kv_lm12_118 : kv_lk kv_LM 12 118 = some (158, 1, 0) := by decide +kernel
theorem kv_lm12_207 : (kv_lk2 kv_LK 12 207 = false ∧ kv_lk kv_LX 12 207 = none) ∧ kv_lk kv_LM 12 207 = some (149, 0, 0) := by decide +kernel
theorem kv_lm12_241 : kv_lk kv_LM 12 241 = some (188, 1, 0) := by decide +kernel
theorem kv_lm12_248 : kv_lk kv_LM 12 248 = some (177, 1, 0) := by decide +kernel
theorem kv_lm12_173 : kv_lk kv_LM 12 173 = some (175, 1, 0) := by decide +kernel
theorem kv_lm12_176 : kv_lk kv_LM 12 176 = some (174, 1, 0) := by decide +kernel
theorem kv_lm12_161 : kv_lk kv_LM 12 161 = some (173, 1, 0) := by decide +kernel
theorem kv_lm12_158 : kv_lk kv_LM 12 158 = some (170, 1, 0) := by decide +kernel
theorem kv_lm12_139 : kv_lk kv_LM 12 139 = some (162, 1, 0) := by decide +kernel
theorem kv_lm12_131 : kv_lk kv_LM 12 131 = some (160, 1, 0) := by decide +kernel
theorem kv_lm12_145 : kv_lk kv_LM 12 145 = some (163, 1, 0) := by decide +kernel
theorem kv_lm12_142 : kv_lk kv_LM 12 142 = some (167, 1, 0) := by decide +kernel
theorem kv_lm12_152 : kv_lk kv_LM 12 152 = some (166, 1, 0) := by decide +kernel
theorem kv_lm12_149 : kv_lk kv_LM 12 149 = some (165, 1, 0) := by decide +kernel
theorem kv_lm12_128 : kv_lk kv_LM 12 128 = some (164, 1, 0) := by decide +kernel
theorem kv_lm12_135 : (kv_lk2 kv_LK 12 135 = false ∧ kv_lk kv_LX 12 135 = none) ∧ kv_lk kv_LM 12 135 = some (161, 0, 0) := by decide +kernel
theorem kv_lm12_164 : kv_lk kv_LM 12 164 = some (169, 1, 0) := by decide +kernel
theorem kv_lm12_155 : (kv_lk2 kv_LK 12 155 = false ∧ kv_lk kv_LX 12 155 = none) ∧ kv_lk kv_LM 12 155 = some (168, 0, 0) := by decide +kernel
theorem kv_lm12_167 : kv_lk kv_LM 12 167 = some (171, 1, 0) := by decide +kernel
theorem kv_lm12_170 : kv_lk kv_LM 12 170 = some (172, 1, 0) := by decide +kernel
theorem kv_lm12_179 : kv_lk kv_LM 12 179 = some (176, 1, 0) := by decide +kernel
theorem kv_lm12_273 : kv_lk kv_LM 12 273 = some (191, 1, 0) := by decide +kernel
theorem kv_lm12_257 : kv_lk kv_LM 12 257 = some (194, 1, 0) := by decide +kernel
theorem kv_lm12_260 : kv_lk kv_LM 12 260 = some (193, 1, 0) := by decide +kernel
theorem kv_lm12_279 : kv_lk kv_LM 12 279 = some (195, 1, 0) := by decide +kernel
theorem kv_lm12_285 : kv_lk kv_LM 12 285 = some (203, 1, 0) := by decide +kernel
theorem kv_lm12_282 : kv_lk kv_LM 12 282 = some (196, 1, 0) := by decide +kernel
theorem kv_lm12_298 : kv_lk kv_LM 12 298 = some (206, 1, 0) := by decide +kernel
theorem kv_lm12_288 : kv_lk kv_LM 12 288 = some (205, 1, 0) := by decide +kernel
theorem kv_lm12_291 : kv_lk kv_LM 12 291 = some (181, 1, 0) := by decide +kernel
theorem kv_lm12_203 : kv_lk kv_LM 12 203 = some (180, 1, 0) := by decide +kernel
theorem kv_lm12_199 : (kv_lk2 kv_LK 12 199 = false ∧ kv_lk kv_LX 12 199 = none) ∧ kv_lk kv_LM 12 199 = some (179, 0, 0) := by decide +kernel
theorem kv_lm12_195 : (kv_lk2 kv_LK 12 195 = false ∧ kv_lk kv_LX 12 195 = none) ∧ kv_lk kv_LM 12 195 = some (178, 0, 0) := by decide +kernel
theorem kv_lm12_302 : kv_lk kv_LM 12 302 = some (197, 1, 0) := by decide +kernel
theorem kv_lm12_305 : kv_lk kv_LM 12 305 = some (208, 1, 0) := by decide +kernel
theorem kv_lm12_323 : kv_lk kv_LM 12 323 = some (216, 1, 0) := by decide +kernel
theorem kv_lm12_326 : kv_lk kv_LM 12 326 = some (218, 1, 0) := by decide +kernel
theorem kv_lm12_329 : kv_lk kv_LM 12 329 = some (220, 1, 0) := by decide +kernel
theorem kv_lm12_332 : kv_lk kv_LM 12 332 = some (223, 1, 0) := by decide +kernel
theorem kv_lm12_338 : kv_lk kv_LM 12 338 = some (227, 1, 0) := by decide +kernel
theorem kv_lm12_335 : kv_lk kv_LM 12 335 = some (199, 1, 0) := by decide +kernel
theorem kv_lm12_341 : kv_lk kv_LM 12 341 = some (210, 1, 0) := by decide +kernel
theorem kv_lm12_344 : kv_lk kv_LM 12 344 = some (215, 1, 0) := by decide +kernel
theorem kv_lm12_317 : kv_lk kv_LM 12 317 = some (212, 1, 0) := by decide +kernel
theorem kv_lm12_308 : kv_lk kv_LM 12 308 = some (211, 1, 0) := by decide +kernel
theorem kv_lm12_320 : kv_lk kv_LM 12 320 = some (214, 1, 0) := by decide +kernel
theorem kv_lm12_314 : kv_lk kv_LM 12 314 = some (213, 1, 0) := by decide +kernel
theorem kv_lm12_358 : kv_lk kv_LM 12 358 = some (230, 1, 0) := by decide +kernel
theorem kv_lm12_361 : kv_lk kv_LM 12 361 = some (231, 1, 0) := by decide +kernel
theorem kv_lm12_364 : kv_lk kv_LM 12 364 = some (236, 1, 0) := by decide +kernel
theorem kv_lm12_367 : kv_lk kv_LM 12 367 = some (237, 1, 0) := by decide +kernel
theorem kv_lm12_370 : kv_lk kv_LM 12 370 = some (238, 1, 0) := by decide +kernel
theorem kv_lm12_373 : (kv_lk2 kv_LK 12 373 = false ∧ kv_lk kv_LX 12 373 = none) ∧ kv_lk kv_LM 12 373 = some (271, 0, 0) := by decide +kernel
theorem kv_lm12_378 : kv_lk kv_LM 12 378 = some (242, 1, 0) := by decide +kernel
theorem kv_lm12_381 : kv_lk kv_LM 12 381 = some (244, 1, 0) := by decide +kernel
theorem kv_lm12_384 : kv_lk kv_LM 12 384 = some (247, 1, 0) := by decide +kernel
theorem kv_lm12_390 : kv_lk kv_LM 12 390 = some (198, 1, 0) := by decide +kernel
theorem kv_lm12_393 : kv_lk kv_LM 12 393 = some (251, 1, 0) := by decide +kernel
theorem kv_lm12_387 : kv_lk kv_LM 12 387 = some (250, 1, 0) := by decide +kernel
theorem kv_lm12_396 : (kv_lk2 kv_LK 12 396 = false ∧ kv_lk kv_LX 12 396 = none) ∧ kv_lk kv_LM 12 396 = some (272, 0, 0) := by decide +kernel
theorem kv_lm12_399 : kv_lk kv_LM 12 399 = some (254, 1, 0) := by decide +kernel
theorem kv_lm12_402 : kv_lk kv_LM 12 402 = some (257, 1, 0) := by decide +kernel
theorem kv_lm12_406 : kv_lk kv_LM 12 406 = some (259, 1, 0) := by decide +kernel
theorem kv_lm12_409 : kv_lk kv_LM 12 409 = some (263, 1, 0) := by decide +kernel
theorem kv_lx15_92 : kv_lk2 kv_LK 15 92 = false ∧ kv_lk kv_LX 15 92 = some 0 := by decide +kernel
theorem kv_lx15_38 : kv_lk2 kv_LK 15 38 = false ∧ kv_lk kv_LX 15 38 = some 1 := by decide +kernel
theorem kv_lx0_29 : kv_lk2 kv_LK 0 29 = false ∧ kv_lk kv_LX 0 29 = some 1 := by decide +kernel
theorem kv_lx11_220 : kv_lk2 kv_LK 11 220 = false ∧ kv_lk kv_LX 11 220 = some 1 := by decide +kernel
theorem kv_lx4_49 : kv_lk2 kv_LK 4 49 = false ∧ kv_lk kv_LX 4 49 = some 1 := by decide +kernel
theorem kv_lx4_54 : kv_lk2 kv_LK 4 54 = false ∧ kv_lk kv_LX 4 54 = some 0 := by decide +kernel
theorem kv_lx9_46 : kv_lk2 kv_LK 9 46 = false ∧ kv_lk kv_LX 9 46 = some 0 := by decide +kernel
theorem kv_lx8_25 : kv_lk2 kv_LK 8 25 = false ∧ kv_lk kv_LX 8 25 = some 0 := by decide +kernel
theorem kv_lx12_186 : kv_lk2 kv_LK 12 186 = false ∧ kv_lk kv_LX 12 186 = some 4 := by decide +kernel
theorem kv_lx12_192 : kv_lk2 kv_LK 12 192 = false ∧ kv_lk kv_LX 12 192 = some 3 := by decide +kernel
theorem kv_lx12_294 : kv_lk2 kv_LK 12 294 = false ∧ kv_lk kv_LX 12 294 = some 1 := by decide +kernel
theorem kv_lx12_296 : kv_lk2 kv_LK 12 296 = false ∧ kv_lk kv_LX 12 296 = some 0 := by decide +kernel
theorem kv_lx12_311 : kv_lk2 kv_LK 12 311 = false ∧ kv_lk kv_LX 12 311 = some 2 := by decide +kernel
theorem kv_ty0_1 : decide (kv_Ty 0 1 = .long) = false := by decide +kernel
theorem kv_tp0_1 (x : Int32) : narrow (kv_Ty 0 1) (.int x) = .int x ∧ fits (kv_Ty 0 1) (.int x) = true ∧ kv_Ty 0 1 ≠ .long ∧ (kv_T 0 1).2.2.2 = false := ⟨rfl, rfl, of_decide_eq_false kv_ty0_1, by decide +kernel⟩
theorem kv_ty0_2 : decide (kv_Ty 0 2 = .long) = false := by decide +kernel
theorem kv_tp0_2 (x : Int32) : narrow (kv_Ty 0 2) (.int x) = .int x ∧ fits (kv_Ty 0 2) (.int x) = true ∧ kv_Ty 0 2 ≠ .long ∧ (kv_T 0 2).2.2.2 = false := ⟨rfl, rfl, of_decide_eq_false kv_ty0_2, by decide +kernel⟩
theorem kv_ty1_0 : decide (kv_Ty 1 0 = .long) = true := by decide +kernel
theorem kv_tp1_0 : kv_Ty 1 0 = .long ∧ (kv_T 1 0).2.2.2 = false := by decide +kernel
theorem kv_ty2_0 : decide (kv_Ty 2 0 = .long) = false := by decide +kernel
theorem kv_tp2_0 (x : Int32) : narrow (kv_Ty 2 0) (.int x) = .int x ∧ fits (kv_Ty 2 0) (.int x) = true ∧ kv_Ty 2 0 ≠ .long ∧ (kv_T 2 0).2.2.2 = false := ⟨rfl, rfl, of_decide_eq_false kv_ty2_0, by decide +kernel⟩
theorem kv_ty2_1 : decide (kv_Ty 2 1 = .long) = false := by decide +kernel
theorem kv_tp2_1 (x : Int32) : narrow (kv_Ty 2 1) (.int x) = .int x ∧ fits (kv_Ty 2 1) (.int x) = true ∧ kv_Ty 2 1 ≠ .long ∧ (kv_T 2 1).2.2.2 = false := ⟨rfl, rfl, of_decide_eq_false kv_ty2_1, by decide +kernel⟩
theorem kv_ty2_2 : decide (kv_Ty 2 2 = .long) = false := by decide +kernel
theorem kv_tp2_2 (x : Int32) : narrow (kv_Ty 2 2) (.int x) = .int x ∧ fits (kv_Ty 2 2) (.int x) = true ∧ kv_Ty 2 2 ≠ .long ∧ (kv_T 2 2).2.2.2 = false := ⟨rfl, rfl, of_decide_eq_false kv_ty2_2, by decide +kernel⟩
theorem kv_ty2_3 : decide (kv_Ty 2 3 = .long) = false := by decide +kernel
theorem kv_tp2_3 (x : Int32) : narrow (kv_Ty 2 3) (.int x) = .int x ∧ fits (kv_Ty 2 3) (.int x) = true ∧ kv_Ty 2 3 ≠ .long ∧ (kv_T 2 3).2.2.2 = false := ⟨rfl, rfl, of_decide_eq_false kv_ty2_3, by decide +kernel⟩
theorem kv_ty2_4 : decide (kv_Ty 2 4 = .long) = false := by decide +kernel
theorem kv_tp2_4 (x : Int32) : narrow (kv_Ty 2 4) (.int x) = .int x ∧ fits (kv_Ty 2 4) (.int x) = true ∧ kv_Ty 2 4 ≠ .long ∧ (kv_T 2 4).2.2.2 = false := ⟨rfl, rfl, of_decide_eq_false kv_ty2_4, by decide +kernel⟩
theorem kv_ty2_5 : decide (kv_Ty 2 5 = .long) = false := by decide +kernel
theorem kv_tp2_5 (x : Int32) : narrow (kv_Ty 2 5) (.int x) = .int x ∧ fits (kv_Ty 2 5) (.int x) = true ∧ kv_Ty 2 5 ≠ .long ∧ (kv_T 2 5).2.2.2 = false := ⟨rfl, rfl, of_decide_eq_false kv_ty2_5, by decide +kernel⟩
theorem kv_ty3_4 : decide (kv_Ty 3 4 = .long) = false := by decide +kernel
theorem kv_tp3_4_0 : narrow (kv_Ty 3 4) (.int 0) = .int 0 ∧ fits (kv_Ty 3 4) (.int 0) = true ∧ kv_Ty 3 4 ≠ .long ∧ (kv_T 3 4).2.2.2 = false := by decide +kernel
theorem kv_tp3_4_1 : narrow (kv_Ty 3 4) (.int 1) = .int 1 ∧ fits (kv_Ty 3 4) (.int 1) = true ∧ kv_Ty 3 4 ≠ .long ∧ (kv_T 3 4).2.2.2 = false := by decide +kernel
theorem kv_ty5_1 : decide (kv_Ty 5 1 = .long) = false := by decide +kernel
theorem kv_tp5_1 (x : Int32) : narrow (kv_Ty 5 1) (.int x) = .int x ∧ fits (kv_Ty 5 1) (.int x) = true ∧ kv_Ty 5 1 ≠ .long ∧ (kv_T 5 1).2.2.2 = false := ⟨rfl, rfl, of_decide_eq_false kv_ty5_1, by decide +kernel⟩
theorem kv_ty7_1 : decide (kv_Ty 7 1 = .long) = false := by decide +kernel
theorem kv_tp7_1 (x : Int32) : narrow (kv_Ty 7 1) (.int x) = .int x ∧ fits (kv_Ty 7 1) (.int x) = true ∧ kv_Ty 7 1 ≠ .long ∧ (kv_T 7 1).2.2.2 = false := ⟨rfl, rfl, of_decide_eq_false kv_ty7_1, by decide +kernel⟩
theorem kv_ty7_2 : decide (kv_Ty 7 2 = .long) = false := by decide +kernel
theorem kv_tp7_2 (x : Int32) : narrow (kv_Ty 7 2) (.int x) = .int x ∧ fits (kv_Ty 7 2) (.int x) = true ∧ kv_Ty 7 2 ≠ .long ∧ (kv_T 7 2).2.2.2 = false := ⟨rfl, rfl, of_decide_eq_false kv_ty7_2, by decide +kernel⟩
theorem kv_ty7_3 : decide (kv_Ty 7 3 = .long) = false := by decide +kernel
theorem kv_tp7_3 (x : Int32) : narrow (kv_Ty 7 3) (.int x) = .int x ∧ fits (kv_Ty 7 3) (.int x) = true ∧ kv_Ty 7 3 ≠ .long ∧ (kv_T 7 3).2.2.2 = false := ⟨rfl, rfl, of_decide_eq_false kv_ty7_3, by decide +kernel⟩
theorem kv_ty8_3 : decide (kv_Ty 8 3 = .long) = false := by decide +kernel
theorem kv_tp8_3 (x : Int32) : narrow (kv_Ty 8 3) (.int x) = .int x ∧ fits (kv_Ty 8 3) (.int x) = true ∧ kv_Ty 8 3 ≠ .long ∧ (kv_T 8 3).2.2.2 = false := ⟨rfl, rfl, of_decide_eq_false kv_ty8_3, by decide +kernel⟩
theorem kv_ty9_2 : decide (kv_Ty 9 2 = .long) = false := by decide +kernel
theorem kv_tp9_2 (x : Int32) : narrow (kv_Ty 9 2) (.int x) = .int x ∧ fits (kv_Ty 9 2) (.int x) = true ∧ kv_Ty 9 2 ≠ .long ∧ (kv_T 9 2).2.2.2 = false := ⟨rfl, rfl, of_decide_eq_false kv_ty9_2, by decide +kernel⟩
theorem kv_ty9_3 : decide (kv_Ty 9 3 = .long) = false := by decide +kernel
theorem kv_tp9_3 (x : Int32) : narrow (kv_Ty 9 3) (.int x) = .int x ∧ fits (kv_Ty 9 3) (.int x) = true ∧ kv_Ty 9 3 ≠ .long ∧ (kv_T 9 3).2.2.2 = false := ⟨rfl, rfl, of_decide_eq_false kv_ty9_3, by decide +kernel⟩
theorem kv_ty9_4 : decide (kv_Ty 9 4 = .long) = false := by decide +kernel
theorem kv_tp9_4 (x : Int32) : narrow (kv_Ty 9 4) (.int x) = .int x ∧ fits (kv_Ty 9 4) (.int x) = true ∧ kv_Ty 9 4 ≠ .long ∧ (kv_T 9 4).2.2.2 = false := ⟨rfl, rfl, of_decide_eq_false kv_ty9_4, by decide +kernel⟩
theorem kv_ty10_1 : decide (kv_Ty 10 1 = .long) = false := by decide +kernel
theorem kv_tp10_1 (x : Int32) : narrow (kv_Ty 10 1) (.int x) = .int x ∧ fits (kv_Ty 10 1) (.int x) = true ∧ kv_Ty 10 1 ≠ .long ∧ (kv_T 10 1).2.2.2 = false := ⟨rfl, rfl, of_decide_eq_false kv_ty10_1, by decide +kernel⟩
theorem kv_ty10_2 : decide (kv_Ty 10 2 = .long) = false := by decide +kernel
theorem kv_tp10_2 (x : Int32) : narrow (kv_Ty 10 2) (.int x) = .int x ∧ fits (kv_Ty 10 2) (.int x) = true ∧ kv_Ty 10 2 ≠ .long ∧ (kv_T 10 2).2.2.2 = false := ⟨rfl, rfl, of_decide_eq_false kv_ty10_2, by decide +kernel⟩
theorem kv_ty10_3 : decide (kv_Ty 10 3 = .long) = false := by decide +kernel
theorem kv_tp10_3 (x : Int32) : narrow (kv_Ty 10 3) (.int x) = .int x ∧ fits (kv_Ty 10 3) (.int x) = true ∧ kv_Ty 10 3 ≠ .long ∧ (kv_T 10 3).2.2.2 = false := ⟨rfl, rfl, of_decide_eq_false kv_ty10_3, by decide +kernel⟩
theorem kv_ty11_9 : decide (kv_Ty 11 9 = .long) = false := by decide +kernel
theorem kv_tp11_9_0 : narrow (kv_Ty 11 9) (.int 0) = .int 0 ∧ fits (kv_Ty 11 9) (.int 0) = true ∧ kv_Ty 11 9 ≠ .long ∧ (kv_T 11 9).2.2.2 = false := by decide +kernel
theorem kv_tp11_9_1 : narrow (kv_Ty 11 9) (.int 1) = .int 1 ∧ fits (kv_Ty 11 9) (.int 1) = true ∧ kv_Ty 11 9 ≠ .long ∧ (kv_T 11 9).2.2.2 = false := by decide +kernel
theorem kv_ty11_13 : decide (kv_Ty 11 13 = .long) = false := by decide +kernel
theorem kv_tp11_13 (x : Int32) : narrow (kv_Ty 11 13) (.int x) = .int x ∧ fits (kv_Ty 11 13) (.int x) = true ∧ kv_Ty 11 13 ≠ .long ∧ (kv_T 11 13).2.2.2 = false := ⟨rfl, rfl, of_decide_eq_false kv_ty11_13, by decide +kernel⟩
theorem kv_ty12_0 : decide (kv_Ty 12 0 = .long) = false := by decide +kernel
theorem kv_tp12_0 (x : Int32) : narrow (kv_Ty 12 0) (.int x) = .int x ∧ fits (kv_Ty 12 0) (.int x) = true ∧ kv_Ty 12 0 ≠ .long ∧ (kv_T 12 0).2.2.2 = false := ⟨rfl, rfl, of_decide_eq_false kv_ty12_0, by decide +kernel⟩
theorem kv_ty12_2 : decide (kv_Ty 12 2 = .long) = false := by decide +kernel
theorem kv_tp12_2 (x : Int32) : narrow (kv_Ty 12 2) (.int x) = .int x ∧ fits (kv_Ty 12 2) (.int x) = true ∧ kv_Ty 12 2 ≠ .long ∧ (kv_T 12 2).2.2.2 = false := ⟨rfl, rfl, of_decide_eq_false kv_ty12_2, by decide +kernel⟩
theorem kv_ty12_3 : decide (kv_Ty 12 3 = .long) = false := by decide +kernel
theorem kv_tp12_3 (x : Int32) : narrow (kv_Ty 12 3) (.int x) = .int x ∧ fits (kv_Ty 12 3) (.int x) = true ∧ kv_Ty 12 3 ≠ .long ∧ (kv_T 12 3).2.2.2 = false := ⟨rfl, rfl, of_decide_eq_false kv_ty12_3, by decide +kernel⟩
theorem kv_ty12_4 : decide (kv_Ty 12 4 = .long) = false := by decide +kernel
theorem kv_tp12_4 (x : Int32) : narrow (kv_Ty 12 4) (.int x) = .int x ∧ fits (kv_Ty 12 4) (.int x) = true ∧ kv_Ty 12 4 ≠ .long ∧ (kv_T 12 4).2.2.2 = false := ⟨rfl, rfl, of_decide_eq_false kv_ty12_4, by decide +kernel⟩
theorem kv_ty12_5 : decide (kv_Ty 12 5 = .long) = false := by decide +kernel
theorem kv_tp12_5 (x : Int32) : narrow (kv_Ty 12 5) (.int x) = .int x ∧ fits (kv_Ty 12 5) (.int x) = true ∧ kv_Ty 12 5 ≠ .long ∧ (kv_T 12 5).2.2.2 = false := ⟨rfl, rfl, of_decide_eq_false kv_ty12_5, by decide +kernel⟩
theorem kv_ty12_13 : decide (kv_Ty 12 13 = .long) = false := by decide +kernel
theorem kv_tp12_13 (x : Int32) : narrow (kv_Ty 12 13) (.int x) = .int x ∧ fits (kv_Ty 12 13) (.int x) = true ∧ kv_Ty 12 13 ≠ .long ∧ (kv_T 12 13).2.2.2 = false := ⟨rfl, rfl, of_decide_eq_false kv_ty12_13, by decide +kernel⟩
theorem kv_ty12_14 : decide (kv_Ty 12 14 = .long) = false := by decide +kernel
theorem kv_tp12_14 (x : Int32) : narrow (kv_Ty 12 14) (.int x) = .int x ∧ fits (kv_Ty 12 14) (.int x) = true ∧ kv_Ty 12 14 ≠ .long ∧ (kv_T 12 14).2.2.2 = false := ⟨rfl, rfl, of_decide_eq_false kv_ty12_14, by decide +kernel⟩
theorem kv_ty12_20 : decide (kv_Ty 12 20 = .long) = false := by decide +kernel
theorem kv_tp12_20 (x : Int32) : narrow (kv_Ty 12 20) (.int x) = .int x ∧ fits (kv_Ty 12 20) (.int x) = true ∧ kv_Ty 12 20 ≠ .long ∧ (kv_T 12 20).2.2.2 = false := ⟨rfl, rfl, of_decide_eq_false kv_ty12_20, by decide +kernel⟩
theorem kv_ty12_21 : decide (kv_Ty 12 21 = .long) = false := by decide +kernel
theorem kv_tp12_21 (x : Int32) : narrow (kv_Ty 12 21) (.int x) = .int x ∧ fits (kv_Ty 12 21) (.int x) = true ∧ kv_Ty 12 21 ≠ .long ∧ (kv_T 12 21).2.2.2 = false := ⟨rfl, rfl, of_decide_eq_false kv_ty12_21, by decide +kernel⟩
theorem kv_ty12_24 : decide (kv_Ty 12 24 = .long) = false := by decide +kernel
theorem kv_tp12_24 (x : Int32) : narrow (kv_Ty 12 24) (.int x) = .int x ∧ fits (kv_Ty 12 24) (.int x) = true ∧ kv_Ty 12 24 ≠ .long ∧ (kv_T 12 24).2.2.2 = false := ⟨rfl, rfl, of_decide_eq_false kv_ty12_24, by decide +kernel⟩
theorem kv_ty12_25 : decide (kv_Ty 12 25 = .long) = false := by decide +kernel
theorem kv_tp12_25 (x : Int32) : narrow (kv_Ty 12 25) (.int x) = .int x ∧ fits (kv_Ty 12 25) (.int x) = true ∧ kv_Ty 12 25 ≠ .long ∧ (kv_T 12 25).2.2.2 = false := ⟨rfl, rfl, of_decide_eq_false kv_ty12_25, by decide +kernel⟩
theorem kv_ty12_27 : decide (kv_Ty 12 27 = .long) = false := by decide +kernel
theorem kv_tp12_27 (x : Int32) : narrow (kv_Ty 12 27) (.int x) = .int x ∧ fits (kv_Ty 12 27) (.int x) = true ∧ kv_Ty 12 27 ≠ .long ∧ (kv_T 12 27).2.2.2 = false := ⟨rfl, rfl, of_decide_eq_false kv_ty12_27, by decide +kernel⟩
theorem kv_ty12_28 : decide (kv_Ty 12 28 = .long) = false := by decide +kernel
theorem kv_tp12_28 (x : Int32) : narrow (kv_Ty 12 28) (.int x) = .int x ∧ fits (kv_Ty 12 28) (.int x) = true ∧ kv_Ty 12 28 ≠ .long ∧ (kv_T 12 28).2.2.2 = false := ⟨rfl, rfl, of_decide_eq_false kv_ty12_28, by decide +kernel⟩
theorem kv_ty12_29 : decide (kv_Ty 12 29 = .long) = false := by decide +kernel
theorem kv_tp12_29 (x : Int32) : narrow (kv_Ty 12 29) (.int x) = .int x ∧ fits (kv_Ty 12 29) (.int x) = true ∧ kv_Ty 12 29 ≠ .long ∧ (kv_T 12 29).2.2.2 = false := ⟨rfl, rfl, of_decide_eq_false kv_ty12_29, by decide +kernel⟩
theorem kv_ty12_33 : decide (kv_Ty 12 33 = .long) = false := by decide +kernel
theorem kv_tp12_33 (x : Int32) : narrow (kv_Ty 12 33) (.int x) = .int x ∧ fits (kv_Ty 12 33) (.int x) = true ∧ kv_Ty 12 33 ≠ .long ∧ (kv_T 12 33).2.2.2 = false := ⟨rfl, rfl, of_decide_eq_false kv_ty12_33, by decide +kernel⟩
theorem kv_ty12_34 : decide (kv_Ty 12 34 = .long) = true := by decide +kernel
theorem kv_tp12_34 : kv_Ty 12 34 = .long ∧ (kv_T 12 34).2.2.2 = false := by decide +kernel
theorem kv_ty12_40 : decide (kv_Ty 12 40 = .long) = false := by decide +kernel
theorem kv_tp12_40 (x : Int32) : narrow (kv_Ty 12 40) (.int x) = .int x ∧ fits (kv_Ty 12 40) (.int x) = true ∧ kv_Ty 12 40 ≠ .long ∧ (kv_T 12 40).2.2.2 = false := ⟨rfl, rfl, of_decide_eq_false kv_ty12_40, by decide +kernel⟩
theorem kv_ty12_42 : decide (kv_Ty 12 42 = .long) = false := by decide +kernel
theorem kv_tp12_42_0 : narrow (kv_Ty 12 42) (.int 0) = .int 0 ∧ fits (kv_Ty 12 42) (.int 0) = true ∧ kv_Ty 12 42 ≠ .long ∧ (kv_T 12 42).2.2.2 = false := by decide +kernel
theorem kv_tp12_42_1 : narrow (kv_Ty 12 42) (.int 1) = .int 1 ∧ fits (kv_Ty 12 42) (.int 1) = true ∧ kv_Ty 12 42 ≠ .long ∧ (kv_T 12 42).2.2.2 = false := by decide +kernel
theorem kv_is11 (e : List kv_E) : kv_is (kv_shK ++ e) 0 11 = true := kv_is_of (kv_k_get e rfl) (by decide)
theorem kv_is10 (e : List kv_E) : kv_is (kv_shK ++ e) 1 10 = true := kv_is_of (kv_k_get e rfl) (by decide)
theorem kv_is7 (e : List kv_E) : kv_is (kv_shK ++ e) 7 7 = true := kv_is_of (kv_k_get e rfl) (by decide)
theorem kv_is3 (e : List kv_E) : kv_is (kv_shK ++ e) 21 3 = true := kv_is_of (kv_k_get e rfl) (by decide)
theorem kv_is6 (e : List kv_E) : kv_is (kv_shK ++ e) 30 6 = true := kv_is_of (kv_k_get e rfl) (by decide)
theorem kv_is4 (e : List kv_E) : kv_is (kv_shK ++ e) 33 4 = true := kv_is_of (kv_k_get e rfl) (by decide)
theorem kv_is0 (e : List kv_E) : kv_is (kv_shK ++ e) 45 0 = true := kv_is_of (kv_k_get e rfl) (by decide)
theorem kv_is8 (e : List kv_E) : kv_is (kv_shK ++ e) 167 8 = true := kv_is_of (kv_k_get e rfl) (by decide)
theorem kv_is12 : kv_is kv_shM 0 12 = true := kv_is_of rfl (by decide)
theorem kv_isS_is {e : List kv_E} {a : Nat} (h : kv_isS e a) : kv_is (kv_shK ++ e) a 9 = true := kv_is_of h.1.1 (by have := h.2; omega)
theorem kv_isF_is {e : List kv_E} {a : Nat} (h : kv_isF e a) : kv_is (kv_shK ++ e) a 2 = true := kv_is_of h.1.1 (by have := h.2; omega)
theorem kv_isL_is {e : List kv_E} {a : Nat} (h : kv_isL e a) : kv_is (kv_shK ++ e) a 5 = true := kv_is_of h.1.1 (by have := h.2; omega)
theorem kv_isD_is {e : List kv_E} {a : Nat} (h : kv_isD e a) : kv_is (kv_shK ++ e) a 1 = true := kv_is_of h.1 h.2
theorem kv_isS36 (e : List kv_E) : kv_isS e 36 := ⟨⟨kv_k_get e rfl, kv_k_get e rfl, kv_k_get e rfl⟩, by decide⟩
theorem kv_isS39 (e : List kv_E) : kv_isS e 39 := ⟨⟨kv_k_get e rfl, kv_k_get e rfl, kv_k_get e rfl⟩, by decide⟩
theorem kv_isS42 (e : List kv_E) : kv_isS e 42 := ⟨⟨kv_k_get e rfl, kv_k_get e rfl, kv_k_get e rfl⟩, by decide⟩
theorem kv_isS27 (e : List kv_E) : kv_isS e 27 := ⟨⟨kv_k_get e rfl, kv_k_get e rfl, kv_k_get e rfl⟩, by decide⟩
theorem kv_isS47 (e : List kv_E) : kv_isS e 47 := ⟨⟨kv_k_get e rfl, kv_k_get e rfl, kv_k_get e rfl⟩, by decide⟩
theorem kv_isS50 (e : List kv_E) : kv_isS e 50 := ⟨⟨kv_k_get e rfl, kv_k_get e rfl, kv_k_get e rfl⟩, by decide⟩
theorem kv_isS53 (e : List kv_E) : kv_isS e 53 := ⟨⟨kv_k_get e rfl, kv_k_get e rfl, kv_k_get e rfl⟩, by decide⟩
theorem kv_isS56 (e : List kv_E) : kv_isS e 56 := ⟨⟨kv_k_get e rfl, kv_k_get e rfl, kv_k_get e rfl⟩, by decide⟩
theorem kv_isS59 (e : List kv_E) : kv_isS e 59 := ⟨⟨kv_k_get e rfl, kv_k_get e rfl, kv_k_get e rfl⟩, by decide⟩
theorem kv_isS62 (e : List kv_E) : kv_isS e 62 := ⟨⟨kv_k_get e rfl, kv_k_get e rfl, kv_k_get e rfl⟩, by decide⟩
theorem kv_isS65 (e : List kv_E) : kv_isS e 65 := ⟨⟨kv_k_get e rfl, kv_k_get e rfl, kv_k_get e rfl⟩, by decide⟩
theorem kv_isS68 (e : List kv_E) : kv_isS e 68 := ⟨⟨kv_k_get e rfl, kv_k_get e rfl, kv_k_get e rfl⟩, by decide⟩
theorem kv_isS71 (e : List kv_E) : kv_isS e 71 := ⟨⟨kv_k_get e rfl, kv_k_get e rfl, kv_k_get e rfl⟩, by decide⟩
theorem kv_isS74 (e : List kv_E) : kv_isS e 74 := ⟨⟨kv_k_get e rfl, kv_k_get e rfl, kv_k_get e rfl⟩, by decide⟩
theorem kv_isS77 (e : List kv_E) : kv_isS e 77 := ⟨⟨kv_k_get e rfl, kv_k_get e rfl, kv_k_get e rfl⟩, by decide⟩
theorem kv_isS80 (e : List kv_E) : kv_isS e 80 := ⟨⟨kv_k_get e rfl, kv_k_get e rfl, kv_k_get e rfl⟩, by decide⟩
theorem kv_isS83 (e : List kv_E) : kv_isS e 83 := ⟨⟨kv_k_get e rfl, kv_k_get e rfl, kv_k_get e rfl⟩, by decide⟩
theorem kv_isS86 (e : List kv_E) : kv_isS e 86 := ⟨⟨kv_k_get e rfl, kv_k_get e rfl, kv_k_get e rfl⟩, by decide⟩
theorem kv_isS89 (e : List kv_E) : kv_isS e 89 := ⟨⟨kv_k_get e rfl, kv_k_get e rfl, kv_k_get e rfl⟩, by decide⟩
theorem kv_isS92 (e : List kv_E) : kv_isS e 92 := ⟨⟨kv_k_get e rfl, kv_k_get e rfl, kv_k_get e rfl⟩, by decide⟩
theorem kv_isS95 (e : List kv_E) : kv_isS e 95 := ⟨⟨kv_k_get e rfl, kv_k_get e rfl, kv_k_get e rfl⟩, by decide⟩
theorem kv_isS98 (e : List kv_E) : kv_isS e 98 := ⟨⟨kv_k_get e rfl, kv_k_get e rfl, kv_k_get e rfl⟩, by decide⟩
theorem kv_isS101 (e : List kv_E) : kv_isS e 101 := ⟨⟨kv_k_get e rfl, kv_k_get e rfl, kv_k_get e rfl⟩, by decide⟩
theorem kv_isS104 (e : List kv_E) : kv_isS e 104 := ⟨⟨kv_k_get e rfl, kv_k_get e rfl, kv_k_get e rfl⟩, by decide⟩
theorem kv_isS107 (e : List kv_E) : kv_isS e 107 := ⟨⟨kv_k_get e rfl, kv_k_get e rfl, kv_k_get e rfl⟩, by decide⟩
theorem kv_isS110 (e : List kv_E) : kv_isS e 110 := ⟨⟨kv_k_get e rfl, kv_k_get e rfl, kv_k_get e rfl⟩, by decide⟩
theorem kv_isS113 (e : List kv_E) : kv_isS e 113 := ⟨⟨kv_k_get e rfl, kv_k_get e rfl, kv_k_get e rfl⟩, by decide⟩
theorem kv_isS116 (e : List kv_E) : kv_isS e 116 := ⟨⟨kv_k_get e rfl, kv_k_get e rfl, kv_k_get e rfl⟩, by decide⟩
theorem kv_isS119 (e : List kv_E) : kv_isS e 119 := ⟨⟨kv_k_get e rfl, kv_k_get e rfl, kv_k_get e rfl⟩, by decide⟩
theorem kv_isS122 (e : List kv_E) : kv_isS e 122 := ⟨⟨kv_k_get e rfl, kv_k_get e rfl, kv_k_get e rfl⟩, by decide⟩
theorem kv_isS125 (e : List kv_E) : kv_isS e 125 := ⟨⟨kv_k_get e rfl, kv_k_get e rfl, kv_k_get e rfl⟩, by decide⟩
theorem kv_isS128 (e : List kv_E) : kv_isS e 128 := ⟨⟨kv_k_get e rfl, kv_k_get e rfl, kv_k_get e rfl⟩, by decide⟩
theorem kv_isS131 (e : List kv_E) : kv_isS e 131 := ⟨⟨kv_k_get e rfl, kv_k_get e rfl, kv_k_get e rfl⟩, by decide⟩
theorem kv_isS134 (e : List kv_E) : kv_isS e 134 := ⟨⟨kv_k_get e rfl, kv_k_get e rfl, kv_k_get e rfl⟩, by decide⟩
theorem kv_isS137 (e : List kv_E) : kv_isS e 137 := ⟨⟨kv_k_get e rfl, kv_k_get e rfl, kv_k_get e rfl⟩, by decide⟩
theorem kv_isS140 (e : List kv_E) : kv_isS e 140 := ⟨⟨kv_k_get e rfl, kv_k_get e rfl, kv_k_get e rfl⟩, by decide⟩
theorem kv_isS143 (e : List kv_E) : kv_isS e 143 := ⟨⟨kv_k_get e rfl, kv_k_get e rfl, kv_k_get e rfl⟩, by decide⟩
theorem kv_isS146 (e : List kv_E) : kv_isS e 146 := ⟨⟨kv_k_get e rfl, kv_k_get e rfl, kv_k_get e rfl⟩, by decide⟩
theorem kv_isS149 (e : List kv_E) : kv_isS e 149 := ⟨⟨kv_k_get e rfl, kv_k_get e rfl, kv_k_get e rfl⟩, by decide⟩
theorem kv_isS152 (e : List kv_E) : kv_isS e 152 := ⟨⟨kv_k_get e rfl, kv_k_get e rfl, kv_k_get e rfl⟩, by decide⟩
theorem kv_isS155 (e : List kv_E) : kv_isS e 155 := ⟨⟨kv_k_get e rfl, kv_k_get e rfl, kv_k_get e rfl⟩, by decide⟩
theorem kv_isS158 (e : List kv_E) : kv_isS e 158 := ⟨⟨kv_k_get e rfl, kv_k_get e rfl, kv_k_get e rfl⟩, by decide⟩
theorem kv_isS161 (e : List kv_E) : kv_isS e 161 := ⟨⟨kv_k_get e rfl, kv_k_get e rfl, kv_k_get e rfl⟩, by decide⟩
theorem kv_isS164 (e : List kv_E) : kv_isS e 164 := ⟨⟨kv_k_get e rfl, kv_k_get e rfl, kv_k_get e rfl⟩, by decide⟩
theorem kv_isF3 (e : List kv_E) : kv_isF e 3 := ⟨⟨kv_k_get e rfl, kv_k_get e rfl, kv_k_get e rfl, kv_k_get e rfl⟩, by decide⟩
theorem kv_isF23 (e : List kv_E) : kv_isF e 23 := ⟨⟨kv_k_get e rfl, kv_k_get e rfl, kv_k_get e rfl, kv_k_get e rfl⟩, by decide⟩
theorem kv_isL9 (e : List kv_E) : kv_isL e 9 := ⟨⟨kv_k_get e rfl, kv_k_get e rfl⟩, by decide⟩
theorem kv_isL11 (e : List kv_E) : kv_isL e 11 := ⟨⟨kv_k_get e rfl, kv_k_get e rfl⟩, by decide⟩
theorem kv_isL13 (e : List kv_E) : kv_isL e 13 := ⟨⟨kv_k_get e rfl, kv_k_get e rfl⟩, by decide⟩
theorem kv_isL15 (e : List kv_E) : kv_isL e 15 := ⟨⟨kv_k_get e rfl, kv_k_get e rfl⟩, by decide⟩
theorem kv_isL17 (e : List kv_E) : kv_isL e 17 := ⟨⟨kv_k_get e rfl, kv_k_get e rfl⟩, by decide⟩
theorem kv_isL19 (e : List kv_E) : kv_isL e 19 := ⟨⟨kv_k_get e rfl, kv_k_get e rfl⟩, by decide⟩
theorem kv_isL31 (e : List kv_E) : kv_isL e 31 := ⟨⟨kv_k_get e rfl, kv_k_get e rfl⟩, by decide⟩
theorem kv_aw2 (e : List kv_E) : kv_aw (kv_shK ++ e) 2 = 240 := kv_aw_k e rfl (by decide)
theorem kv_ia2 (e : List kv_E) : kv_ia (kv_shK ++ e) 2 := ⟨by decide, 240, kv_k_get e rfl⟩
theorem kv_aw4 (e : List kv_E) : kv_aw (kv_shK ++ e) 4 = 6 := kv_aw_k e rfl (by decide)
theorem kv_ia4 (e : List kv_E) : kv_ia (kv_shK ++ e) 4 := ⟨by decide, 6, kv_k_get e rfl⟩
theorem kv_aw5 (e : List kv_E) : kv_aw (kv_shK ++ e) 5 = 6 := kv_aw_k e rfl (by decide)
theorem kv_ia5 (e : List kv_E) : kv_ia (kv_shK ++ e) 5 := ⟨by decide, 6, kv_k_get e rfl⟩
theorem kv_aw6 (e : List kv_E) : kv_aw (kv_shK ++ e) 6 = 6 := kv_aw_k e rfl (by decide)
theorem kv_ia6 (e : List kv_E) : kv_ia (kv_shK ++ e) 6 := ⟨by decide, 6, kv_k_get e rfl⟩
theorem kv_aw22 (e : List kv_E) : kv_aw (kv_shK ++ e) 22 = 8 := kv_aw_k e rfl (by decide)
theorem kv_ia22 (e : List kv_E) : kv_ia (kv_shK ++ e) 22 := ⟨by decide, 8, kv_k_get e rfl⟩
theorem kv_aw24 (e : List kv_E) : kv_aw (kv_shK ++ e) 24 = 6 := kv_aw_k e rfl (by decide)
theorem kv_ia24 (e : List kv_E) : kv_ia (kv_shK ++ e) 24 := ⟨by decide, 6, kv_k_get e rfl⟩
theorem kv_aw25 (e : List kv_E) : kv_aw (kv_shK ++ e) 25 = 6 := kv_aw_k e rfl (by decide)
theorem kv_ia25 (e : List kv_E) : kv_ia (kv_shK ++ e) 25 := ⟨by decide, 6, kv_k_get e rfl⟩
theorem kv_aw26 (e : List kv_E) : kv_aw (kv_shK ++ e) 26 = 6 := kv_aw_k e rfl (by decide)
theorem kv_ia26 (e : List kv_E) : kv_ia (kv_shK ++ e) 26 := ⟨by decide, 6, kv_k_get e rfl⟩
theorem kv_aw34 (e : List kv_E) : kv_aw (kv_shK ++ e) 34 = 8 := kv_aw_k e rfl (by decide)
theorem kv_ia34 (e : List kv_E) : kv_ia (kv_shK ++ e) 34 := ⟨by decide, 8, kv_k_get e rfl⟩
theorem kv_aw35 (e : List kv_E) : kv_aw (kv_shK ++ e) 35 = 256 := kv_aw_k e rfl (by decide)
theorem kv_ia35 (e : List kv_E) : kv_ia (kv_shK ++ e) 35 := ⟨by decide, 256, kv_k_get e rfl⟩
theorem kv_aw37 (e : List kv_E) : kv_aw (kv_shK ++ e) 37 = 104 := kv_aw_k e rfl (by decide)
theorem kv_ia37 (e : List kv_E) : kv_ia (kv_shK ++ e) 37 := ⟨by decide, 104, kv_k_get e rfl⟩
theorem kv_aw40 (e : List kv_E) : kv_aw (kv_shK ++ e) 40 = 104 := kv_aw_k e rfl (by decide)
theorem kv_ia40 (e : List kv_E) : kv_ia (kv_shK ++ e) 40 := ⟨by decide, 104, kv_k_get e rfl⟩
theorem kv_aw43 (e : List kv_E) : kv_aw (kv_shK ++ e) 43 = 104 := kv_aw_k e rfl (by decide)
theorem kv_ia43 (e : List kv_E) : kv_ia (kv_shK ++ e) 43 := ⟨by decide, 104, kv_k_get e rfl⟩
theorem kv_aw28 (e : List kv_E) : kv_aw (kv_shK ++ e) 28 = 104 := kv_aw_k e rfl (by decide)
theorem kv_ia28 (e : List kv_E) : kv_ia (kv_shK ++ e) 28 := ⟨by decide, 104, kv_k_get e rfl⟩
theorem kv_aw38 (e : List kv_E) : kv_aw (kv_shK ++ e) 38 = 40 := kv_aw_k e rfl (by decide)
theorem kv_ia38 (e : List kv_E) : kv_ia (kv_shK ++ e) 38 := ⟨by decide, 40, kv_k_get e rfl⟩
theorem kv_aw41 (e : List kv_E) : kv_aw (kv_shK ++ e) 41 = 40 := kv_aw_k e rfl (by decide)
theorem kv_ia41 (e : List kv_E) : kv_ia (kv_shK ++ e) 41 := ⟨by decide, 40, kv_k_get e rfl⟩
theorem kv_aw44 (e : List kv_E) : kv_aw (kv_shK ++ e) 44 = 40 := kv_aw_k e rfl (by decide)
theorem kv_ia44 (e : List kv_E) : kv_ia (kv_shK ++ e) 44 := ⟨by decide, 40, kv_k_get e rfl⟩
theorem kv_aw29 (e : List kv_E) : kv_aw (kv_shK ++ e) 29 = 40 := kv_aw_k e rfl (by decide)
theorem kv_ia29 (e : List kv_E) : kv_ia (kv_shK ++ e) 29 := ⟨by decide, 40, kv_k_get e rfl⟩
theorem kv_aw168 (e : List kv_E) : kv_aw (kv_shK ++ e) 168 = 8 := kv_aw_k e rfl (by decide)
theorem kv_ia168 (e : List kv_E) : kv_ia (kv_shK ++ e) 168 := ⟨by decide, 8, kv_k_get e rfl⟩
theorem kv_aw169 (e : List kv_E) : kv_aw (kv_shK ++ e) 169 = 8 := kv_aw_k e rfl (by decide)
theorem kv_ia169 (e : List kv_E) : kv_ia (kv_shK ++ e) 169 := ⟨by decide, 8, kv_k_get e rfl⟩
theorem kv_aw170 (e : List kv_E) : kv_aw (kv_shK ++ e) 170 = 8 := kv_aw_k e rfl (by decide)
theorem kv_ia170 (e : List kv_E) : kv_ia (kv_shK ++ e) 170 := ⟨by decide, 8, kv_k_get e rfl⟩
theorem kv_aw171 (e : List kv_E) : kv_aw (kv_shK ++ e) 171 = 36 := kv_aw_k e rfl (by decide)
theorem kv_ia171 (e : List kv_E) : kv_ia (kv_shK ++ e) 171 := ⟨by decide, 36, kv_k_get e rfl⟩
theorem kv_am1 : kv_aw kv_shM 1 = 240 := kv_aw_of rfl (by decide)
theorem kv_am2 : kv_aw kv_shM 2 = 3640 := kv_aw_of rfl (by decide)
theorem kv_am3 : kv_aw kv_shM 3 = 3640 := kv_aw_of rfl (by decide)
theorem kv_am4 : kv_aw kv_shM 4 = 7 := kv_aw_of rfl (by decide)
theorem kv_am5 : kv_aw kv_shM 5 = 7 := kv_aw_of rfl (by decide)
theorem kv_am6 : kv_aw kv_shM 6 = 980 := kv_aw_of rfl (by decide)
theorem kv_am7 : kv_aw kv_shM 7 = 980 := kv_aw_of rfl (by decide)
theorem kv_am8 : kv_aw kv_shM 8 = 980 := kv_aw_of rfl (by decide)
theorem kv_am9 : kv_aw kv_shM 9 = 8 := kv_aw_of rfl (by decide)
theorem kv_am10 : kv_aw kv_shM 10 = 80 := kv_aw_of rfl (by decide)
theorem kv_am11 : kv_aw kv_shM 11 = 4 := kv_aw_of rfl (by decide)
theorem kv_am12 : kv_aw kv_shM 12 = 64 := kv_aw_of rfl (by decide)
theorem kv_am13 : kv_aw kv_shM 13 = 18 := kv_aw_of rfl (by decide)
theorem kv_am14 : kv_aw kv_shM 14 = 4 := kv_aw_of rfl (by decide)
theorem kv_am15 : kv_aw kv_shM 15 = 18 := kv_aw_of rfl (by decide)
theorem kv_am16 : kv_aw kv_shM 16 = 147 := kv_aw_of rfl (by decide)
theorem kv_am17 : kv_aw kv_shM 17 = 8 := kv_aw_of rfl (by decide)
theorem kv_am18 : kv_aw kv_shM 18 = 8 := kv_aw_of rfl (by decide)
theorem kv_am19 : kv_aw kv_shM 19 = 5880 := kv_aw_of rfl (by decide)
theorem kv_am20 : kv_aw kv_shM 20 = 147 := kv_aw_of rfl (by decide)
theorem kv_am21 : kv_aw kv_shM 21 = 36 := kv_aw_of rfl (by decide)
theorem kv_am22 : kv_aw kv_shM 22 = 8 := kv_aw_of rfl (by decide)
theorem kv_am23 : kv_aw kv_shM 23 = 8 := kv_aw_of rfl (by decide)
theorem kv_am24 : kv_aw kv_shM 24 = 8 := kv_aw_of rfl (by decide)
theorem kv_am25 : kv_aw kv_shM 25 = 147 := kv_aw_of rfl (by decide)
