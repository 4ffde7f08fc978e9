/-! closed data of the program: classes, fields, methods, links; the words that hold them, by place -/
theorem kv_mem {ws : List Cond} (ps : List Nat) (h : ws = ps.filterMap (fun i => lw_tbl[i]?)) : ∀ w ∈ ws, w ∈ lw_tbl := by
  intro w hw
  rw [h] at hw
  obtain ⟨i, -, hi⟩ := List.mem_filterMap.mp hw
  exact List.mem_of_getElem? hi
def kv_Rs : List String := ["KiteVote$Acts", "KiteVote$Draws", "KiteVote$Field", "KiteVote$FieldReader", "KiteVote$Flight", "KiteVote$Law", "KiteVote$LawReader", "KiteVote$Laws", "KiteVote$Seen", "KiteVote$State", "KiteVote$Tape", "KiteVote", "KiteVoteModel", "java/lang/Integer", "java/lang/String", "java/lang/StringLatin1"]
def kv_Fs : List (List (String × String × String × Bool)) := [[("KiteVote$Acts", "before", "[LKiteVote$State;", true), ("KiteVote$Acts", "next", "I", false), ("KiteVote$Acts", "count", "I", false)],
  [("KiteVote$Draws", "x", "J", false)],
  [("KiteVote$Field", "width", "I", false), ("KiteVote$Field", "bell", "I", false), ("KiteVote$Field", "majority", "I", false), ("KiteVote$Field", "pays", "I", false), ("KiteVote$Field", "kites", "I", false), ("KiteVote$Field", "airs", "I", false), ("KiteVote$Field", "from", "[I", true), ("KiteVote$Field", "since", "[I", true), ("KiteVote$Field", "strength", "[I", true)],
  [("KiteVote$FieldReader", "tape", "LKiteVote$Tape;", true), ("KiteVote$FieldReader", "field", "LKiteVote$Field;", true), ("KiteVote$FieldReader", "state", "LKiteVote$State;", true), ("KiteVote$FieldReader", "items", "[I", true), ("KiteVote$FieldReader", "lawRead", "Z", false)],
  [("KiteVote$Flight", "field", "LKiteVote$Field;", true), ("KiteVote$Flight", "laws", "LKiteVote$Laws;", true), ("KiteVote$Flight", "letters", "[I", true), ("KiteVote$Flight", "pile", "[I", true)],
  [("KiteVote$Law", "steps", "[I", true), ("KiteVote$Law", "length", "I", false)],
  [("KiteVote$LawReader", "tape", "LKiteVote$Tape;", true), ("KiteVote$LawReader", "law", "LKiteVote$Law;", true)],
  [("KiteVote$Laws", "told", "[LKiteVote$Law;", true), ("KiteVote$Laws", "count", "I", false), ("KiteVote$Laws", "lifting", "I", false), ("KiteVote$Laws", "wearing", "I", false)],
  [("KiteVote$Seen", "kites", "[I", true), ("KiteVote$Seen", "minutes", "[I", true), ("KiteVote$Seen", "heights", "[I", true), ("KiteVote$Seen", "count", "I", false)],
  [("KiteVote$State", "cells", "[I", true), ("KiteVote$State", "book", "[I", true), ("KiteVote$State", "bookLength", "I", false), ("KiteVote$State", "minute", "I", false), ("KiteVote$State", "carried", "I", false)],
  [("KiteVote$Tape", "bytes", "[I", true), ("KiteVote$Tape", "length", "I", false), ("KiteVote$Tape", "at", "I", false), ("KiteVote$Tape", "value", "I", false)],
  [("KiteVote", "tape", "LKiteVote$Tape;", true), ("KiteVote", "fieldReader", "LKiteVote$FieldReader;", true), ("KiteVote", "lawReader", "LKiteVote$LawReader;", true), ("KiteVote", "field", "LKiteVote$Field;", true), ("KiteVote", "laws", "LKiteVote$Laws;", true), ("KiteVote", "flight", "LKiteVote$Flight;", true), ("KiteVote", "now", "LKiteVote$State;", true), ("KiteVote", "trial", "LKiteVote$State;", true), ("KiteVote", "imaged", "LKiteVote$State;", true), ("KiteVote", "hasImage", "Z", false), ("KiteVote", "acts", "LKiteVote$Acts;", true), ("KiteVote", "seen", "LKiteVote$Seen;", true), ("KiteVote", "gains", "[I", true), ("KiteVote", "gustChance", "I", false)],
  [("KiteVoteModel", "thrown", "I", false), ("KiteVoteModel", "tape", "[I", true), ("KiteVoteModel", "size", "I", false), ("KiteVoteModel", "at", "I", false), ("KiteVoteModel", "wrong", "I", false), ("KiteVoteModel", "deep", "I", false), ("KiteVoteModel", "code", "[I", true), ("KiteVoteModel", "value", "[I", true), ("KiteVoteModel", "codes", "[I", true), ("KiteVoteModel", "clauses", "[I", true), ("KiteVoteModel", "testFrom", "[I", true), ("KiteVoteModel", "sumFrom", "[I", true), ("KiteVoteModel", "sumTo", "[I", true), ("KiteVoteModel", "laws", "I", false), ("KiteVoteModel", "text", "I", false), ("KiteVoteModel", "letters", "[I", true), ("KiteVoteModel", "stack", "[I", true), ("KiteVoteModel", "readField", "[I", true), ("KiteVoteModel", "readKite", "[I", true), ("KiteVoteModel", "readAir", "[I", true), ("KiteVoteModel", "readKites", "I", false), ("KiteVoteModel", "readAirs", "I", false), ("KiteVoteModel", "field", "[I", true), ("KiteVoteModel", "air", "[I", true), ("KiteVoteModel", "kites", "I", false), ("KiteVoteModel", "airs", "I", false), ("KiteVoteModel", "now", "[I", true), ("KiteVoteModel", "liftLaw", "I", false), ("KiteVoteModel", "wearLaw", "I", false), ("KiteVoteModel", "gusty", "I", false), ("KiteVoteModel", "delay", "[I", true), ("KiteVoteModel", "worse", "[I", true), ("KiteVoteModel", "kept", "[I", true), ("KiteVoteModel", "acts", "I", false), ("KiteVoteModel", "draws", "J", false), ("KiteVoteModel", "aside", "[I", true), ("KiteVoteModel", "duels", "[I", true), ("KiteVoteModel", "seenKite", "[I", true), ("KiteVoteModel", "seenBehind", "[I", true), ("KiteVoteModel", "seenHeight", "[I", true), ("KiteVoteModel", "sees", "I", false), ("KiteVoteModel", "image", "[I", true), ("KiteVoteModel", "hasImage", "Z", false)]]
def kv_Ts : List (List FieldType) := [[.array (.object "KiteVote$State"), .int, .int],
  [.long],
  [.int, .int, .int, .int, .int, .int, .array .int, .array .int, .array .int],
  [.object "KiteVote$Tape", .object "KiteVote$Field", .object "KiteVote$State", .array .int, .boolean],
  [.object "KiteVote$Field", .object "KiteVote$Laws", .array .int, .array .int],
  [.array .int, .int],
  [.object "KiteVote$Tape", .object "KiteVote$Law"],
  [.array (.object "KiteVote$Law"), .int, .int, .int],
  [.array .int, .array .int, .array .int, .int],
  [.array .int, .array .int, .int, .int, .int],
  [.array .int, .int, .int, .int],
  [.object "KiteVote$Tape", .object "KiteVote$FieldReader", .object "KiteVote$LawReader", .object "KiteVote$Field", .object "KiteVote$Laws", .object "KiteVote$Flight", .object "KiteVote$State", .object "KiteVote$State", .object "KiteVote$State", .boolean, .object "KiteVote$Acts", .object "KiteVote$Seen", .array .int, .int],
  [.int, .array .int, .int, .int, .int, .int, .array .int, .array .int, .array .int, .array .int, .array .int, .array .int, .array .int, .int, .int, .array .int, .array .int, .array .int, .array .int, .array .int, .int, .int, .array .int, .array .int, .int, .int, .array .int, .int, .int, .int, .array .int, .array .int, .array .int, .int, .long, .array .int, .array .int, .array .int, .array .int, .array .int, .int, .array .int, .boolean]]
def kv_R (c : Nat) : String := kv_Rs.getD c ""
def kv_T (c : Nat) : u_T := fun k => (kv_Fs.getD c []).getD k ("", "", "", false)
def kv_N (c : Nat) : Nat := (kv_Fs.getD c []).length
def kv_Ty (c k : Nat) : FieldType := (kv_Ts.getD c []).getD k .int
def kv_cl : List vw_C := (List.range 13).map (fun c => (kv_R c, kv_T c, kv_N c))
abbrev kv_M : Type := Nat × String × String × ByteArray × Nat × Option FieldType × Nat × Bool
def kv_Ms1 : List kv_M := [(0, "<init>", "()V", prog_2_method_1_code, 2, none, 0, false),
  (0, "keep", "(LKiteVote$State;)V", prog_2_method_2_code, 2, none, 1, false),
  (0, "takeBack", "(LKiteVote$State;)Z", prog_2_method_3_code, 3, (some .boolean), 1, false),
  (0, "forget", "()V", prog_2_method_4_code, 1, none, 0, false),
  (1, "<init>", "(J)V", prog_3_method_1_code, 3, none, 1, false),
  (1, "draw", "(I)I", prog_3_method_2_code, 2, (some .int), 1, false),
  (2, "<init>", "()V", prog_4_method_1_code, 1, none, 0, false),
  (2, "clear", "()V", prog_4_method_2_code, 1, none, 0, false),
  (2, "copyFrom", "(LKiteVote$Field;)V", prog_4_method_3_code, 3, none, 1, false),
  (2, "addAir", "(III)V", prog_4_method_4_code, 4, none, 3, false)]
def kv_Ms2 : List kv_M := [(2, "windAt", "(II)I", prog_4_method_5_code, 4, (some .int), 2, false),
  (2, "isMajority", "(II)Z", prog_4_method_6_code, 3, (some .boolean), 2, false),
  (3, "<init>", "(LKiteVote$Tape;)V", prog_5_method_1_code, 2, none, 1, false),
  (3, "read", "()Z", prog_5_method_2_code, 3, (some .boolean), 0, false),
  (3, "readClause", "()Z", prog_5_method_3_code, 2, (some .boolean), 0, false),
  (3, "readLaw", "()Z", prog_5_method_4_code, 1, (some .boolean), 0, false),
  (3, "readKite", "()Z", prog_5_method_5_code, 2, (some .boolean), 0, false),
  (3, "readAir", "()Z", prog_5_method_6_code, 1, (some .boolean), 0, false),
  (3, "preset", "(IIII)V", prog_5_method_7_code, 6, none, 4, false),
  (3, "readItems", "(Ljava/lang/String;[I[I)Z", prog_5_method_8_code, 8, (some .boolean), 3, false)]
def kv_Ms3 : List kv_M := [(3, "canStand", "()Z", prog_5_method_9_code, 4, (some .boolean), 0, false),
  (4, "<init>", "(LKiteVote$Field;LKiteVote$Laws;)V", prog_6_method_1_code, 3, none, 2, false),
  (4, "pass", "(LKiteVote$State;)V", prog_6_method_2_code, 2, none, 1, false),
  (4, "climb", "(LKiteVote$State;)V", prog_6_method_3_code, 6, none, 1, false),
  (4, "shake", "(LKiteVote$State;LKiteVote$Draws;I)V", prog_6_method_4_code, 6, none, 3, false),
  (4, "rub", "(LKiteVote$State;)V", prog_6_method_5_code, 5, none, 1, false),
  (4, "isUp", "(LKiteVote$State;I)Z", prog_6_method_6_code, 2, (some .boolean), 2, true),
  (4, "liftOf", "(LKiteVote$State;I)I", prog_6_method_7_code, 5, (some .int), 2, false),
  (4, "wearOf", "(LKiteVote$State;II)I", prog_6_method_8_code, 8, (some .int), 3, false),
  (4, "tellLetters", "(LKiteVote$State;I)V", prog_6_method_9_code, 3, none, 2, false)]
def kv_Ms4 : List kv_M := [(4, "resultOf", "(LKiteVote$State;)I", prog_6_method_10_code, 4, (some .int), 1, false),
  (5, "<init>", "()V", prog_7_method_1_code, 1, none, 0, false),
  (5, "copyFrom", "(LKiteVote$Law;)V", prog_7_method_2_code, 2, none, 1, false),
  (5, "add", "(II)V", prog_7_method_3_code, 3, none, 2, false),
  (5, "aimHere", "(I)V", prog_7_method_4_code, 2, none, 1, false),
  (5, "worth", "([I[I)I", prog_7_method_5_code, 9, (some .int), 2, false),
  (5, "joined", "(III)I", prog_7_method_6_code, 5, (some .int), 3, true),
  (5, "judged", "(III)I", prog_7_method_7_code, 3, (some .int), 3, true),
  (6, "<init>", "(LKiteVote$Tape;)V", prog_8_method_1_code, 2, none, 1, false),
  (6, "read", "()Z", prog_8_method_2_code, 3, (some .boolean), 0, false)]
def kv_Ms5 : List kv_M := [(6, "readClause", "()Z", prog_8_method_3_code, 4, (some .boolean), 0, false),
  (6, "readCondition", "(IZ)Z", prog_8_method_4_code, 4, (some .boolean), 2, false),
  (6, "readTruth", "(IZ)Z", prog_8_method_5_code, 4, (some .boolean), 2, false),
  (6, "readUnit", "(IZ)Z", prog_8_method_6_code, 5, (some .boolean), 2, false),
  (6, "readNested", "(II)Z", prog_8_method_7_code, 3, (some .boolean), 2, false),
  (6, "comparison", "()I", prog_8_method_8_code, 1, (some .int), 0, false),
  (6, "readSum", "(I)Z", prog_8_method_9_code, 4, (some .boolean), 1, false),
  (6, "readTerm", "(I)Z", prog_8_method_10_code, 4, (some .boolean), 1, false),
  (6, "readAtom", "(I)Z", prog_8_method_11_code, 4, (some .boolean), 1, false),
  (7, "<init>", "()V", prog_9_method_1_code, 2, none, 0, false)]
def kv_Ms6 : List kv_M := [(7, "keep", "(LKiteVote$Law;)I", prog_9_method_2_code, 2, (some .int), 1, false),
  (7, "at", "(I)LKiteVote$Law;", prog_9_method_3_code, 2, (some (.object "KiteVote$Law")), 1, false),
  (8, "<init>", "()V", prog_10_method_1_code, 1, none, 0, false),
  (8, "add", "(III)V", prog_10_method_2_code, 4, none, 3, false),
  (8, "lastOf", "(I)I", prog_10_method_3_code, 4, (some .int), 1, false),
  (8, "allows", "(III)Z", prog_10_method_4_code, 5, (some .boolean), 3, false),
  (9, "<init>", "()V", prog_11_method_1_code, 1, none, 0, false),
  (9, "clear", "()V", prog_11_method_2_code, 2, none, 0, false),
  (9, "copyFrom", "(LKiteVote$State;)V", prog_11_method_3_code, 2, none, 1, false),
  (9, "get", "(II)I", prog_11_method_4_code, 4, (some .int), 2, false)]
def kv_Ms7 : List kv_M := [(9, "set", "(III)V", prog_11_method_5_code, 5, none, 3, false),
  (9, "flies", "(I)Z", prog_11_method_6_code, 2, (some .boolean), 1, false),
  (9, "flyers", "()I", prog_11_method_7_code, 3, (some .int), 0, false),
  (9, "ground", "(I)V", prog_11_method_8_code, 2, none, 1, false),
  (9, "isHeld", "(I)Z", prog_11_method_9_code, 3, (some .boolean), 1, false),
  (9, "unpaid", "(I)I", prog_11_method_10_code, 2, (some .int), 1, false),
  (9, "bears", "(I)I", prog_11_method_11_code, 2, (some .int), 1, false),
  (9, "heightOf", "(I)I", prog_11_method_12_code, 4, (some .int), 1, false),
  (9, "isLow", "()Z", prog_11_method_13_code, 1, (some .boolean), 0, false),
  (9, "feetFor", "(I)I", prog_11_method_14_code, 4, (some .int), 1, false)]
def kv_Ms8 : List kv_M := [(9, "feetOfClan", "(I)I", prog_11_method_15_code, 4, (some .int), 1, false),
  (9, "booked", "(I)I", prog_11_method_16_code, 2, (some .int), 1, false),
  (9, "putBy", "(I)V", prog_11_method_17_code, 3, none, 1, false),
  (10, "<init>", "()V", prog_12_method_1_code, 1, none, 0, false),
  (10, "bytesIn", "(I)I", prog_12_method_2_code, 3, (some .int), 1, true),
  (10, "add", "(I)V", prog_12_method_3_code, 4, none, 1, false),
  (10, "sign", "()I", prog_12_method_4_code, 1, (some .int), 0, false),
  (10, "digit", "()I", prog_12_method_5_code, 2, (some .int), 0, false),
  (10, "take", "(C)Z", prog_12_method_6_code, 2, (some .boolean), 1, false),
  (10, "number", "(I)Z", prog_12_method_7_code, 4, (some .boolean), 1, false)]
def kv_Ms9 : List kv_M := [(10, "numberWithin", "(III)Z", prog_12_method_8_code, 4, (some .boolean), 3, false),
  (11, "<init>", "()V", prog_1_method_1_code, 4, none, 0, false),
  (11, "feed", "(IIIII)I", prog_1_method_2_code, 7, (some .int), 5, false),
  (11, "end", "(I)Z", prog_1_method_3_code, 2, (some .boolean), 1, false),
  (11, "fault", "(I)I", prog_1_method_4_code, 3, (some .int), 1, false),
  (11, "text", "(I)I", prog_1_method_5_code, 2, (some .int), 1, false),
  (11, "beginField", "()I", prog_1_method_6_code, 1, (some .int), 0, false),
  (11, "law", "(I)I", prog_1_method_8_code, 2, (some .int), 1, false),
  (11, "holds", "(II)Z", prog_1_method_9_code, 3, (some .boolean), 2, false),
  (11, "wind", "(II)I", prog_1_method_10_code, 3, (some .int), 2, false)]
def kv_Ms10 : List kv_M := [(11, "lift", "(I)I", prog_1_method_11_code, 2, (some .int), 1, false),
  (11, "wear", "(II)I", prog_1_method_12_code, 3, (some .int), 2, false),
  (11, "feet", "(I)I", prog_1_method_13_code, 2, (some .int), 1, false),
  (11, "result", "()I", prog_1_method_14_code, 1, (some .int), 0, false),
  (11, "mode", "(II)Z", prog_1_method_15_code, 3, (some .boolean), 2, false),
  (11, "wax", "(I)I", prog_1_method_16_code, 2, (some .int), 1, false),
  (11, "move", "(II)I", prog_1_method_17_code, 4, (some .int), 2, false),
  (11, "splice", "(III)I", prog_1_method_18_code, 5, (some .int), 3, false),
  (11, "talk", "(II)Z", prog_1_method_19_code, 3, (some .boolean), 2, false),
  (11, "change", "(IIII)Z", prog_1_method_20_code, 5, (some .boolean), 4, false)]
def kv_Ms11 : List kv_M := [(11, "go", "(I)I", prog_1_method_21_code, 3, (some .int), 1, false),
  (11, "gust", "(I)Z", prog_1_method_22_code, 2, (some .boolean), 1, false),
  (11, "gusts", "(IJ)I", prog_1_method_23_code, 6, (some .int), 2, false),
  (11, "sit", "()I", prog_1_method_24_code, 2, (some .int), 0, false),
  (11, "book", "(I)I", prog_1_method_25_code, 2, (some .int), 1, false),
  (11, "undo", "()I", prog_1_method_26_code, 1, (some .int), 0, false),
  (11, "ahead", "(III)I", prog_1_method_27_code, 5, (some .int), 3, false),
  (11, "bell", "(I)I", prog_1_method_28_code, 2, (some .int), 1, false),
  (11, "cut", "(I)I", prog_1_method_29_code, 6, (some .int), 1, false),
  (11, "calm", "()I", prog_1_method_30_code, 3, (some .int), 0, false)]
def kv_Ms12 : List kv_M := [(11, "timing", "(II)I", prog_1_method_31_code, 8, (some .int), 2, false),
  (11, "stand", "(II)I", prog_1_method_32_code, 7, (some .int), 2, false),
  (11, "cross", "(II)I", prog_1_method_33_code, 3, (some .int), 2, false),
  (11, "crossing", "(II)I", prog_1_method_34_code, 4, (some .int), 2, false),
  (11, "placeToCross", "(II)I", prog_1_method_35_code, 5, (some .int), 2, false),
  (11, "prey", "(I)I", prog_1_method_36_code, 4, (some .int), 1, false),
  (11, "power", "(I)I", prog_1_method_37_code, 8, (some .int), 1, false),
  (11, "talked", "()I", prog_1_method_38_code, 5, (some .int), 0, false),
  (11, "isCarriedWith", "(I)Z", prog_1_method_39_code, 7, (some .boolean), 1, false),
  (11, "content", "(I)I", prog_1_method_40_code, 3, (some .int), 1, false)]
def kv_Ms13 : List kv_M := [(11, "contentWith", "(I)I", prog_1_method_41_code, 5, (some .int), 1, false),
  (11, "ringer", "(I)I", prog_1_method_42_code, 6, (some .int), 1, false),
  (11, "duel", "(IIII)I", prog_1_method_43_code, 5, (some .int), 4, false),
  (11, "rests", "(III)I", prog_1_method_44_code, 7, (some .int), 3, false),
  (11, "weighDuels", "(II)V", prog_1_method_45_code, 4, none, 2, false),
  (11, "isResting", "(II)Z", prog_1_method_46_code, 5, (some .boolean), 2, false),
  (11, "gainAt", "(II)I", prog_1_method_47_code, 4, (some .int), 2, false),
  (11, "clan", "(II)I", prog_1_method_48_code, 3, (some .int), 2, false),
  (11, "see", "(III)I", prog_1_method_49_code, 4, (some .int), 3, false),
  (11, "weighs", "(I)I", prog_1_method_50_code, 4, (some .int), 1, false)]
def kv_Ms14 : List kv_M := [(11, "isSeenSo", "(II)Z", prog_1_method_51_code, 5, (some .boolean), 2, false),
  (11, "spare", "(I)I", prog_1_method_52_code, 4, (some .int), 1, false),
  (11, "lonely", "()I", prog_1_method_53_code, 4, (some .int), 0, false),
  (11, "highest", "()I", prog_1_method_54_code, 3, (some .int), 0, false),
  (11, "image", "()I", prog_1_method_55_code, 1, (some .int), 0, false),
  (11, "back", "()I", prog_1_method_56_code, 1, (some .int), 0, false),
  (11, "count", "(I)I", prog_1_method_57_code, 2, (some .int), 1, false),
  (11, "hasField", "()Z", prog_1_method_58_code, 1, (some .boolean), 0, false),
  (11, "isKite", "(I)Z", prog_1_method_59_code, 2, (some .boolean), 1, false),
  (11, "isFlying", "(I)Z", prog_1_method_60_code, 2, (some .boolean), 1, false)]
def kv_Ms15 : List kv_M := [(11, "areTwo", "(II)Z", prog_1_method_61_code, 3, (some .boolean), 2, false),
  (11, "isFree", "(I)Z", prog_1_method_62_code, 2, (some .boolean), 1, false),
  (11, "left", "()I", prog_1_method_63_code, 1, (some .int), 0, false),
  (11, "areAhead", "(I)Z", prog_1_method_64_code, 2, (some .boolean), 1, false),
  (11, "flyTrial", "()V", prog_1_method_65_code, 3, none, 0, false),
  (11, "flyStarting", "(IIII)V", prog_1_method_66_code, 7, none, 4, false),
  (11, "lowestOf", "(I)I", prog_1_method_67_code, 2, (some .int), 1, true),
  (11, "isOut", "(II)Z", prog_1_method_68_code, 2, (some .boolean), 2, true),
  (11, "within", "(III)I", prog_1_method_69_code, 3, (some .int), 3, true),
  (12, "in", "(III)Z", prog_14_method_1_code, 3, (some .boolean), 3, true)]
def kv_Ms16 : List kv_M := [(12, "has", "(II)Z", prog_14_method_2_code, 2, (some .boolean), 2, true),
  (12, "<init>", "()V", prog_14_method_3_code, 1, none, 0, false),
  (12, "thrown", "()I", prog_14_method_4_code, 1, (some .int), 0, false),
  (12, "byteOf", "(IIIIII)I", prog_14_method_5_code, 7, (some .int), 6, true),
  (12, "feed", "(IIIII)I", prog_14_method_6_code, 9, (some .int), 5, false),
  (12, "end", "(I)Z", prog_14_method_7_code, 2, (some .boolean), 1, false),
  (12, "here", "()I", prog_14_method_8_code, 1, (some .int), 0, false),
  (12, "look", "()I", prog_14_method_9_code, 1, (some .int), 0, false),
  (12, "bad", "()V", prog_14_method_10_code, 1, none, 0, false),
  (12, "isDigit", "(I)Z", prog_14_method_11_code, 1, (some .boolean), 1, true)]
def kv_Ms17 : List kv_M := [(12, "put", "(II)V", prog_14_method_12_code, 3, none, 2, false),
  (12, "letterOf", "(I)I", prog_14_method_13_code, 1, (some .int), 1, true),
  (12, "opens", "()V", prog_14_method_14_code, 1, none, 0, false),
  (12, "closes", "(I)V", prog_14_method_15_code, 2, none, 1, false),
  (12, "plainNumber", "()I", prog_14_method_16_code, 3, (some .int), 0, false),
  (12, "atom", "()V", prog_14_method_17_code, 2, none, 0, false),
  (12, "term", "()V", prog_14_method_18_code, 2, none, 0, false),
  (12, "sum", "()V", prog_14_method_19_code, 2, none, 0, false),
  (12, "isSign", "(I)Z", prog_14_method_20_code, 1, (some .boolean), 1, true),
  (12, "compare", "()V", prog_14_method_21_code, 2, none, 0, false)]
def kv_Ms18 : List kv_M := [(12, "unit", "()V", prog_14_method_22_code, 2, none, 0, false),
  (12, "goOnAnd", "()V", prog_14_method_23_code, 1, none, 0, false),
  (12, "goOnOr", "()V", prog_14_method_24_code, 1, none, 0, false),
  (12, "condition", "()V", prog_14_method_25_code, 1, none, 0, false),
  (12, "clause", "()V", prog_14_method_26_code, 3, none, 0, false),
  (12, "open", "(I)V", prog_14_method_27_code, 2, none, 1, false),
  (12, "atEnd", "()I", prog_14_method_28_code, 1, (some .int), 0, false),
  (12, "readLaw", "(I)I", prog_14_method_29_code, 2, (some .int), 1, false),
  (12, "bounded", "(J)I", prog_14_method_30_code, 2, (some .int), 1, true),
  (12, "worked", "(IJJ)I", prog_14_method_31_code, 5, (some .int), 3, true)]
def kv_Ms19 : List kv_M := [(12, "workOut", "(III)I", prog_14_method_32_code, 6, (some .int), 3, false),
  (12, "worthOf", "(I)I", prog_14_method_33_code, 3, (some .int), 1, false),
  (12, "number", "(II)I", prog_14_method_34_code, 4, (some .int), 2, false),
  (12, "itemOf", "(II)I", prog_14_method_35_code, 2, (some .int), 2, true),
  (12, "lowest", "(II)I", prog_14_method_36_code, 3, (some .int), 2, true),
  (12, "highest", "(II)I", prog_14_method_37_code, 2, (some .int), 2, true),
  (12, "usual", "(III)I", prog_14_method_38_code, 3, (some .int), 3, true),
  (12, "items", "(I[IIII)V", prog_14_method_39_code, 8, none, 5, false),
  (12, "isWhole", "()Z", prog_14_method_40_code, 4, (some .boolean), 0, false),
  (12, "readAll", "()I", prog_14_method_41_code, 4, (some .int), 0, false)]
def kv_Ms20 : List kv_M := [(12, "fault", "(I)I", prog_14_method_42_code, 2, (some .int), 1, false),
  (12, "takeAll", "()I", prog_14_method_43_code, 3, (some .int), 0, false),
  (12, "text", "(I)I", prog_14_method_44_code, 2, (some .int), 1, false),
  (12, "of", "(II)I", prog_14_method_45_code, 3, (some .int), 2, false),
  (12, "put", "(III)V", prog_14_method_46_code, 4, none, 3, false),
  (12, "isKite", "(I)Z", prog_14_method_47_code, 2, (some .boolean), 1, false),
  (12, "flies", "(I)Z", prog_14_method_48_code, 2, (some .boolean), 1, false),
  (12, "areTwo", "(II)Z", prog_14_method_49_code, 3, (some .boolean), 2, false),
  (12, "flying", "()I", prog_14_method_50_code, 3, (some .int), 0, false),
  (12, "left", "()I", prog_14_method_51_code, 1, (some .int), 0, false)]
def kv_Ms21 : List kv_M := [(12, "kite", "(II)I", prog_14_method_52_code, 3, (some .int), 2, false),
  (12, "law", "(I)I", prog_14_method_53_code, 2, (some .int), 1, false),
  (12, "holds", "(II)Z", prog_14_method_54_code, 3, (some .boolean), 2, false),
  (12, "windAt", "(II)I", prog_14_method_55_code, 5, (some .int), 2, false),
  (12, "wind", "(II)I", prog_14_method_56_code, 3, (some .int), 2, false),
  (12, "tellLetters", "(I)V", prog_14_method_57_code, 2, none, 1, false),
  (12, "liftOf", "(I)I", prog_14_method_58_code, 3, (some .int), 1, false),
  (12, "lift", "(I)I", prog_14_method_59_code, 2, (some .int), 1, false),
  (12, "wearOf", "(II)I", prog_14_method_60_code, 5, (some .int), 2, false),
  (12, "wear", "(II)I", prog_14_method_61_code, 3, (some .int), 2, false)]
def kv_Ms22 : List kv_M := [(12, "nobodyWaits", "()V", prog_14_method_62_code, 2, none, 0, false),
  (12, "modeOf", "(I)I", prog_14_method_63_code, 2, (some .int), 1, false),
  (12, "rise", "()V", prog_14_method_64_code, 4, none, 0, false),
  (12, "bears", "(I)I", prog_14_method_65_code, 2, (some .int), 1, false),
  (12, "rub", "()I", prog_14_method_66_code, 4, (some .int), 0, false),
  (12, "pass", "()I", prog_14_method_67_code, 1, (some .int), 0, false),
  (12, "feetOf", "(I)I", prog_14_method_68_code, 4, (some .int), 1, false),
  (12, "feet", "(I)I", prog_14_method_69_code, 2, (some .int), 1, false),
  (12, "resultNow", "()I", prog_14_method_70_code, 2, (some .int), 0, false),
  (12, "result", "()I", prog_14_method_71_code, 1, (some .int), 0, false)]
def kv_Ms23 : List kv_M := [(12, "keep", "()V", prog_14_method_72_code, 2, none, 0, false),
  (12, "mode", "(II)Z", prog_14_method_73_code, 3, (some .boolean), 2, false),
  (12, "wax", "(I)I", prog_14_method_74_code, 2, (some .int), 1, false),
  (12, "isFree", "(I)Z", prog_14_method_75_code, 3, (some .boolean), 1, false),
  (12, "move", "(II)I", prog_14_method_76_code, 3, (some .int), 2, false),
  (12, "splice", "(III)I", prog_14_method_77_code, 4, (some .int), 3, false),
  (12, "talk", "(II)Z", prog_14_method_78_code, 3, (some .boolean), 2, false),
  (12, "areMinutes", "(I)Z", prog_14_method_79_code, 2, (some .boolean), 1, false),
  (12, "go", "(I)I", prog_14_method_80_code, 3, (some .int), 1, false),
  (12, "gust", "(I)Z", prog_14_method_81_code, 2, (some .boolean), 1, false)]
def kv_Ms24 : List kv_M := [(12, "draw", "(I)I", prog_14_method_82_code, 2, (some .int), 1, false),
  (12, "blow", "(I)V", prog_14_method_83_code, 3, none, 1, false),
  (12, "gusts", "(IJ)I", prog_14_method_84_code, 6, (some .int), 2, false),
  (12, "sit", "()I", prog_14_method_85_code, 3, (some .int), 0, false),
  (12, "book", "(I)I", prog_14_method_86_code, 2, (some .int), 1, false),
  (12, "undo", "()I", prog_14_method_87_code, 2, (some .int), 0, false),
  (12, "putAside", "()V", prog_14_method_88_code, 2, none, 0, false),
  (12, "takeBack", "()V", prog_14_method_89_code, 2, none, 0, false),
  (12, "toBell", "()I", prog_14_method_90_code, 2, (some .int), 0, false),
  (12, "ahead", "(III)I", prog_14_method_91_code, 5, (some .int), 3, false)]
def kv_Ms25 : List kv_M := [(12, "bell", "(I)I", prog_14_method_92_code, 3, (some .int), 1, false),
  (12, "cut", "(I)I", prog_14_method_93_code, 4, (some .int), 1, false),
  (12, "isCalm", "()Z", prog_14_method_94_code, 3, (some .boolean), 0, false),
  (12, "calm", "()I", prog_14_method_95_code, 3, (some .int), 0, false),
  (12, "heightAtBell", "(I)I", prog_14_method_96_code, 3, (some .int), 1, false),
  (12, "timing", "(II)I", prog_14_method_97_code, 8, (some .int), 2, false),
  (12, "stand", "(II)I", prog_14_method_98_code, 7, (some .int), 2, false),
  (12, "crossOf", "(II)I", prog_14_method_99_code, 6, (some .int), 2, false),
  (12, "cross", "(II)I", prog_14_method_100_code, 3, (some .int), 2, false),
  (12, "prey", "(I)I", prog_14_method_101_code, 4, (some .int), 1, false)]
def kv_Ms26 : List kv_M := [(12, "heights", "(I)I", prog_14_method_102_code, 4, (some .int), 1, false),
  (12, "wins", "(I)Z", prog_14_method_103_code, 2, (some .boolean), 1, false),
  (12, "power", "(I)I", prog_14_method_104_code, 5, (some .int), 1, false),
  (12, "talked", "()I", prog_14_method_105_code, 5, (some .int), 0, false),
  (12, "contentWith", "(I)I", prog_14_method_106_code, 7, (some .int), 1, false),
  (12, "content", "(I)I", prog_14_method_107_code, 2, (some .int), 1, false),
  (12, "ringer", "(I)I", prog_14_method_108_code, 6, (some .int), 1, false),
  (12, "duelOf", "(IIII)I", prog_14_method_109_code, 6, (some .int), 4, false),
  (12, "duel", "(IIII)I", prog_14_method_110_code, 5, (some .int), 4, false),
  (12, "isRest", "(II)Z", prog_14_method_111_code, 4, (some .boolean), 2, false)]
def kv_Ms27 : List kv_M := [(12, "rests", "(III)I", prog_14_method_112_code, 6, (some .int), 3, false),
  (12, "clan", "(II)I", prog_14_method_113_code, 5, (some .int), 2, false),
  (12, "see", "(III)I", prog_14_method_114_code, 4, (some .int), 3, false),
  (12, "couldWeigh", "(II)Z", prog_14_method_115_code, 7, (some .boolean), 2, false),
  (12, "weighs", "(I)I", prog_14_method_116_code, 4, (some .int), 1, false),
  (12, "spare", "(I)I", prog_14_method_117_code, 4, (some .int), 1, false),
  (12, "lonely", "()I", prog_14_method_118_code, 4, (some .int), 0, false),
  (12, "highest", "()I", prog_14_method_119_code, 3, (some .int), 0, false),
  (12, "image", "()I", prog_14_method_120_code, 2, (some .int), 0, false),
  (12, "back", "()I", prog_14_method_121_code, 2, (some .int), 0, false)]
def kv_Ms28 : List kv_M := [(12, "count", "(I)I", prog_14_method_122_code, 2, (some .int), 1, false),
  (13, "numberOfTrailingZeros", "(I)I", prog_20_method_48_code, 2, (some .int), 1, true),
  (13, "bitCount", "(I)I", prog_20_method_49_code, 1, (some .int), 1, true),
  (14, "length", "()I", prog_23_method_54_code, 1, (some .int), 0, false),
  (14, "indexOf", "(I)I", prog_23_method_79_code, 2, (some .int), 1, false),
  (14, "indexOf", "(II)I", prog_23_method_80_code, 3, (some .int), 2, false),
  (14, "coder", "()B", prog_23_method_152_code, 1, (some .byte), 0, false),
  (14, "isLatin1", "()Z", prog_23_method_154_code, 1, (some .boolean), 0, false),
  (15, "canEncode", "(I)Z", prog_24_method_4_code, 1, (some .boolean), 1, true),
  (15, "indexOf", "([BIII)I", prog_24_method_22_code, 4, (some .int), 4, true)]
def kv_Ms29 : List kv_M := [(15, "indexOfChar", "([BIII)I", prog_24_method_23_code, 6, (some .int), 4, true)]
def kv_Ms : List kv_M := kv_Ms1 ++ (kv_Ms2 ++ (kv_Ms3 ++ (kv_Ms4 ++ (kv_Ms5 ++ (kv_Ms6 ++ (kv_Ms7 ++ (kv_Ms8 ++ (kv_Ms9 ++ (kv_Ms10 ++ (kv_Ms11 ++ (kv_Ms12 ++ (kv_Ms13 ++ (kv_Ms14 ++ (kv_Ms15 ++ (kv_Ms16 ++ (kv_Ms17 ++ (kv_Ms18 ++ (kv_Ms19 ++ (kv_Ms20 ++ (kv_Ms21 ++ (kv_Ms22 ++ (kv_Ms23 ++ (kv_Ms24 ++ (kv_Ms25 ++ (kv_Ms26 ++ (kv_Ms27 ++ (kv_Ms28 ++ (kv_Ms29))))))))))))))))))))))))))))
def kv_y (q : kv_M) : MethodName := ⟨kv_R q.1, q.2.1, q.2.2.1⟩
def kv_cw (q : kv_M) : Cond := .code (kv_y q) q.2.2.2.1 q.2.2.2.2.1 q.2.2.2.2.2.1
theorem kv_ws_code1 : ∀ q ∈ kv_Ms1, kv_cw q ∈ lw_tbl := fun q h => kv_mem [339, 818, 947, 689, 906, 920, 164, 444, 678, 599] (by decide +kernel) _ (List.mem_map_of_mem (f := kv_cw) h)
theorem kv_ws_code2 : ∀ q ∈ kv_Ms2, kv_cw q ∈ lw_tbl := fun q h => kv_mem [721, 805, 250, 440, 452, 460, 577, 590, 464, 473] (by decide +kernel) _ (List.mem_map_of_mem (f := kv_cw) h)
theorem kv_ws_code3 : ∀ q ∈ kv_Ms3, kv_cw q ∈ lw_tbl := fun q h => kv_mem [607, 318, 866, 870, 916, 879, 882, 742, 783, 755] (by decide +kernel) _ (List.mem_map_of_mem (f := kv_cw) h)
theorem kv_ws_code4 : ∀ q ∈ kv_Ms4, kv_cw q ∈ lw_tbl := fun q h => kv_mem [800, 218, 697, 639, 664, 759, 763, 770, 302, 615] (by decide +kernel) _ (List.mem_map_of_mem (f := kv_cw) h)
theorem kv_ws_code5 : ∀ q ∈ kv_Ms5, kv_cw q ∈ lw_tbl := fun q h => kv_mem [619, 648, 652, 656, 660, 644, 625, 629, 633, 211] (by decide +kernel) _ (List.mem_map_of_mem (f := kv_cw) h)
theorem kv_ws_code6 : ∀ q ∈ kv_Ms6, kv_cw q ∈ lw_tbl := fun q h => kv_mem [693, 748, 359, 1080, 1092, 1097, 258, 448, 682, 611] (by decide +kernel) _ (List.mem_map_of_mem (f := kv_cw) h)
theorem kv_ws_code7 : ∀ q ∈ kv_Ms7, kv_cw q ∈ lw_tbl := fun q h => kv_mem [586, 737, 967, 892, 837, 845, 887, 983, 978, 791] (by decide +kernel) _ (List.mem_map_of_mem (f := kv_cw) h)
theorem kv_ws_code8 : ∀ q ∈ kv_Ms8, kv_cw q ∈ lw_tbl := fun q h => kv_mem [1072, 939, 931, 138, 424, 428, 456, 573, 603, 568] (by decide +kernel) _ (List.mem_map_of_mem (f := kv_cw) h)
theorem kv_ws_code9 : ∀ q ∈ kv_Ms9, kv_cw q ∈ lw_tbl := fun q h => kv_mem [564, 130, 421, 432, 436, 670, 674, 702, 710, 714] (by decide +kernel) _ (List.mem_map_of_mem (f := kv_cw) h)
theorem kv_ws_code10 : ∀ q ∈ kv_Ms10, kv_cw q ∈ lw_tbl := fun q h => kv_mem [725, 775, 787, 796, 809, 825, 829, 841, 850, 813] (by decide +kernel) _ (List.mem_map_of_mem (f := kv_cw) h)
theorem kv_ws_code11 : ∀ q ∈ kv_Ms11, kv_cw q ∈ lw_tbl := fun q h => kv_mem [854, 897, 901, 927, 935, 943, 951, 955, 963, 974] (by decide +kernel) _ (List.mem_map_of_mem (f := kv_cw) h)
theorem kv_ws_code12 : ∀ q ∈ kv_Ms12, kv_cw q ∈ lw_tbl := fun q h => kv_mem [987, 995, 999, 1003, 1007, 1011, 1015, 1021, 1031, 1035] (by decide +kernel) _ (List.mem_map_of_mem (f := kv_cw) h)
theorem kv_ws_code13 : ∀ q ∈ kv_Ms13, kv_cw q ∈ lw_tbl := fun q h => kv_mem [1039, 1043, 1047, 1051, 1055, 1059, 1063, 1067, 1076, 1084] (by decide +kernel) _ (List.mem_map_of_mem (f := kv_cw) h)
theorem kv_ws_code14 : ∀ q ∈ kv_Ms14, kv_cw q ∈ lw_tbl := fun q h => kv_mem [1088, 1101, 1105, 1109, 1113, 1117, 1121, 706, 733, 729] (by decide +kernel) _ (List.mem_map_of_mem (f := kv_cw) h)
theorem kv_ws_code15 : ∀ q ∈ kv_Ms15, kv_cw q ∈ lw_tbl := fun q h => kv_mem [779, 833, 862, 858, 959, 991, 970, 717, 751, 1390] (by decide +kernel) _ (List.mem_map_of_mem (f := kv_cw) h)
theorem kv_ws_code16 : ∀ q ∈ kv_Ms16, kv_cw q ∈ lw_tbl := fun q h => kv_mem [1370, 1195, 1330, 1337, 1334, 1341, 1360, 1356, 1387, 1383] (by decide +kernel) _ (List.mem_map_of_mem (f := kv_cw) h)
theorem kv_ws_code17 : ∀ q ∈ kv_Ms17, kv_cw q ∈ lw_tbl := fun q h => kv_mem [1422, 1445, 1418, 1426, 1442, 1438, 1434, 1430, 1452, 1449] (by decide +kernel) _ (List.mem_map_of_mem (f := kv_cw) h)
theorem kv_ws_code18 : ∀ q ∈ kv_Ms18, kv_cw q ∈ lw_tbl := fun q h => kv_mem [1414, 1456, 1460, 1410, 1406, 1402, 1464, 1398, 1534, 1531] (by decide +kernel) _ (List.mem_map_of_mem (f := kv_cw) h)
theorem kv_ws_code19 : ∀ q ∈ kv_Ms19, kv_cw q ∈ lw_tbl := fun q h => kv_mem [1528, 1524, 1380, 1367, 1373, 1376, 1352, 1364, 1394, 1349] (by decide +kernel) _ (List.mem_map_of_mem (f := kv_cw) h)
theorem kv_ws_code20 : ∀ q ∈ kv_Ms20, kv_cw q ∈ lw_tbl := fun q h => kv_mem [1345, 1472, 1468, 1480, 1476, 1488, 1512, 1553, 1738, 1613] (by decide +kernel) _ (List.mem_map_of_mem (f := kv_cw) h)
theorem kv_ws_code21 : ∀ q ∈ kv_Ms21, kv_cw q ∈ lw_tbl := fun q h => kv_mem [1484, 1492, 1496, 1504, 1500, 1520, 1516, 1508, 1557, 1549] (by decide +kernel) _ (List.mem_map_of_mem (f := kv_cw) h)
theorem kv_ws_code22 : ∀ q ∈ kv_Ms22, kv_cw q ∈ lw_tbl := fun q h => kv_mem [1617, 1629, 1625, 1640, 1633, 1621, 1565, 1561, 1573, 1569] (by decide +kernel) _ (List.mem_map_of_mem (f := kv_cw) h)
theorem kv_ws_code23 : ∀ q ∈ kv_Ms23, kv_cw q ∈ lw_tbl := fun q h => kv_mem [1581, 1577, 1585, 1593, 1589, 1597, 1601, 1609, 1605, 1644] (by decide +kernel) _ (List.mem_map_of_mem (f := kv_cw) h)
theorem kv_ws_code24 : ∀ q ∈ kv_Ms24, kv_cw q ∈ lw_tbl := fun q h => kv_mem [1652, 1658, 1648, 1662, 1666, 1670, 1678, 1682, 1690, 1674] (by decide +kernel) _ (List.mem_map_of_mem (f := kv_cw) h)
theorem kv_ws_code25 : ∀ q ∈ kv_Ms25, kv_cw q ∈ lw_tbl := fun q h => kv_mem [1686, 1694, 1706, 1702, 1714, 1710, 1718, 1726, 1722, 1730] (by decide +kernel) _ (List.mem_map_of_mem (f := kv_cw) h)
theorem kv_ws_code26 : ∀ q ∈ kv_Ms26, kv_cw q ∈ lw_tbl := fun q h => kv_mem [1746, 1742, 1734, 1750, 1759, 1755, 1763, 1771, 1767, 1779] (by decide +kernel) _ (List.mem_map_of_mem (f := kv_cw) h)
theorem kv_ws_code27 : ∀ q ∈ kv_Ms27, kv_cw q ∈ lw_tbl := fun q h => kv_mem [1775, 1783, 1787, 1795, 1791, 1799, 1803, 1807, 1811, 1815] (by decide +kernel) _ (List.mem_map_of_mem (f := kv_cw) h)
theorem kv_ws_code28 : ∀ q ∈ kv_Ms28, kv_cw q ∈ lw_tbl := fun q h => kv_mem [1819, 1697, 1024, 477, 487, 491, 481, 495, 502, 499] (by decide +kernel) _ (List.mem_map_of_mem (f := kv_cw) h)
theorem kv_ws_code29 : ∀ q ∈ kv_Ms29, kv_cw q ∈ lw_tbl := fun q h => kv_mem [511] (by decide +kernel) _ (List.mem_map_of_mem (f := kv_cw) h)
theorem kv_ws_code : ∀ q ∈ kv_Ms, kv_cw q ∈ lw_tbl := List.forall_mem_append.mpr ⟨kv_ws_code1, List.forall_mem_append.mpr ⟨kv_ws_code2, List.forall_mem_append.mpr ⟨kv_ws_code3, List.forall_mem_append.mpr ⟨kv_ws_code4, List.forall_mem_append.mpr ⟨kv_ws_code5, List.forall_mem_append.mpr ⟨kv_ws_code6, List.forall_mem_append.mpr ⟨kv_ws_code7, List.forall_mem_append.mpr ⟨kv_ws_code8, List.forall_mem_append.mpr ⟨kv_ws_code9, List.forall_mem_append.mpr ⟨kv_ws_code10, List.forall_mem_append.mpr ⟨kv_ws_code11, List.forall_mem_append.mpr ⟨kv_ws_code12, List.forall_mem_append.mpr ⟨kv_ws_code13, List.forall_mem_append.mpr ⟨kv_ws_code14, List.forall_mem_append.mpr ⟨kv_ws_code15, List.forall_mem_append.mpr ⟨kv_ws_code16, List.forall_mem_append.mpr ⟨kv_ws_code17, List.forall_mem_append.mpr ⟨kv_ws_code18, List.forall_mem_append.mpr ⟨kv_ws_code19, List.forall_mem_append.mpr ⟨kv_ws_code20, List.forall_mem_append.mpr ⟨kv_ws_code21, List.forall_mem_append.mpr ⟨kv_ws_code22, List.forall_mem_append.mpr ⟨kv_ws_code23, List.forall_mem_append.mpr ⟨kv_ws_code24, List.forall_mem_append.mpr ⟨kv_ws_code25, List.forall_mem_append.mpr ⟨kv_ws_code26, List.forall_mem_append.mpr ⟨kv_ws_code27, List.forall_mem_append.mpr ⟨kv_ws_code28, kv_ws_code29⟩⟩⟩⟩⟩⟩⟩⟩⟩⟩⟩⟩⟩⟩⟩⟩⟩⟩⟩⟩⟩⟩⟩⟩⟩⟩⟩⟩
theorem kv_ws_init : ∀ w ∈ kv_Rs.map (fun n => Cond.initialized n), w ∈ lw_tbl := kv_mem [110, 124, 103, 106, 109, 105, 108, 104, 111, 107, 102, 101, 112, 125, 113, 114] (by decide +kernel)
theorem kv_ws_static : ∀ w ∈ (kv_Ms.filter (fun q => q.2.2.2.2.2.2.2)).map (fun q => Cond.static (kv_y q)), w ∈ lw_tbl := kv_mem [881, 762, 769, 423, 969, 716, 750, 1389, 1369, 1336, 1382, 1444, 1451, 1533, 1530, 1366, 1372, 1375, 1351, 1696, 1023, 501, 498, 510] (by decide +kernel)
theorem kv_ws_inst : ∀ w ∈ (kv_Ms.filter (fun q => !q.2.2.2.2.2.2.2)).map (fun q => Cond.instanceMethod (kv_y q)), w ∈ lw_tbl := kv_mem [338, 816, 945, 687, 905, 918, 163, 442, 676, 597, 719, 803, 249, 438, 451, 459, 576, 589, 463, 472, 606, 317, 864, 868, 914, 877, 740, 781, 754, 798, 217, 695, 637, 662, 757, 301, 613, 618, 647, 651, 655, 659, 643, 624, 628, 632, 210, 691, 746, 358, 1078, 1090, 1095, 257, 446, 680, 609, 584, 735, 965, 890, 835, 843, 885, 981, 976, 789, 1070, 937, 929, 137, 426, 454, 572, 601, 566, 562, 129, 419, 430, 434, 668, 673, 700, 708, 712, 723, 773, 785, 794, 807, 823, 827, 839, 848, 812, 852, 895, 899, 925, 933, 941, 949, 953, 961, 972, 985, 993, 997, 1002, 1006, 1009, 1013, 1019, 1030, 1033, 1038, 1041, 1045, 1049, 1054, 1058, 1062, 1065, 1074, 1082, 1087, 1099, 1103, 1107, 1111, 1115, 1119, 705, 732, 728, 778, 832, 861, 857, 958, 990, 1194, 1328, 1332, 1339, 1359, 1355, 1386, 1421, 1417, 1425, 1441, 1437, 1433, 1429, 1448, 1413, 1455, 1459, 1409, 1405, 1401, 1463, 1397, 1527, 1523, 1379, 1363, 1393, 1348, 1343, 1471, 1466, 1479, 1475, 1487, 1511, 1552, 1737, 1612, 1482, 1490, 1494, 1503, 1498, 1519, 1515, 1506, 1556, 1547, 1616, 1628, 1624, 1639, 1632, 1620, 1564, 1559, 1572, 1567, 1580, 1575, 1583, 1592, 1587, 1595, 1599, 1608, 1603, 1642, 1651, 1657, 1646, 1660, 1664, 1668, 1677, 1681, 1689, 1672, 1684, 1692, 1705, 1700, 1713, 1708, 1716, 1725, 1720, 1728, 1745, 1741, 1732, 1748, 1758, 1753, 1761, 1770, 1765, 1778, 1773, 1781, 1785, 1794, 1789, 1797, 1801, 1805, 1809, 1813, 1817, 475, 485, 489, 479, 493] (by decide +kernel)
theorem kv_ws_sel : ∀ w ∈ (kv_Ms.filter (fun q => !q.2.2.2.2.2.2.2 && !(q.2.1 == "<init>"))).map (fun q => Cond.selects (kv_R q.1) (kv_y q) (kv_y q)), w ∈ lw_tbl := kv_mem [817, 946, 688, 919, 443, 677, 598, 720, 804, 439, 0, 1, 5, 6, 2, 3, 7, 865, 869, 915, 878, 741, 782, 21, 799, 696, 638, 663, 758, 614, 8, 13, 14, 15, 16, 12, 9, 10, 11, 692, 747, 1079, 1091, 1096, 447, 681, 610, 585, 736, 966, 891, 836, 844, 886, 982, 977, 790, 1071, 938, 930, 427, 455, 4, 602, 567, 563, 420, 431, 435, 669, 17, 701, 709, 713, 724, 774, 786, 795, 808, 824, 828, 840, 849, 23, 853, 896, 900, 926, 934, 942, 950, 954, 962, 973, 986, 994, 998, 29, 30, 1010, 1014, 1020, 31, 1034, 32, 1042, 1046, 1050, 33, 34, 35, 1066, 1075, 1083, 36, 1100, 1104, 1108, 1112, 1116, 1120, 18, 20, 19, 22, 24, 26, 25, 27, 28, 1329, 1333, 1340, 40, 39, 43, 51, 50, 52, 56, 55, 54, 53, 57, 49, 58, 59, 48, 47, 46, 60, 45, 70, 69, 42, 41, 44, 38, 1344, 61, 1467, 63, 62, 64, 66, 71, 93, 78, 1483, 1491, 1495, 65, 1499, 68, 67, 1507, 72, 1548, 79, 82, 81, 84, 83, 80, 73, 1560, 74, 1568, 75, 1576, 1584, 76, 1588, 1596, 1600, 77, 1604, 1643, 85, 86, 1647, 1661, 1665, 1669, 87, 88, 89, 1673, 1685, 1693, 90, 1701, 91, 1709, 1717, 92, 1721, 1729, 95, 94, 1733, 1749, 96, 1754, 1762, 97, 1766, 98, 1774, 1782, 1786, 99, 1790, 1798, 1802, 1806, 1810, 1814, 1818, 476, 486, 490, 480, 494] (by decide +kernel)
theorem kv_ws_lay : ∀ w ∈ (List.range 13).flatMap (fun c => u_ws (kv_R c) (kv_T c) (kv_N c)), w ∈ lw_tbl := kv_mem [348, 350, 352, 909, 188, 190, 192, 194, 196, 198, 200, 202, 204, 287, 289, 291, 293, 295, 324, 326, 328, 330, 223, 225, 309, 311, 237, 239, 241, 243, 366, 368, 370, 372, 269, 271, 273, 275, 277, 150, 152, 154, 156, 389, 391, 393, 395, 397, 399, 401, 403, 405, 407, 409, 411, 413, 415, 1240, 1242, 1244, 1246, 1248, 1250, 1252, 1254, 1256, 1258, 1260, 1262, 1264, 1266, 1268, 1270, 1272, 1274, 1276, 1278, 1280, 1282, 1284, 1286, 1288, 1290, 1292, 1294, 1296, 1298, 1300, 1302, 1304, 1306, 1308, 1310, 1312, 1314, 1316, 1318, 1320, 1322, 1324] (by decide +kernel)
theorem kv_ws_ins : ∀ w ∈ (List.range 13).map (fun c => Cond.instantiable (kv_R c) (kv_N c)), w ∈ lw_tbl := kv_mem [336, 903, 161, 247, 315, 215, 299, 208, 356, 255, 135, 127, 1192] (by decide +kernel)
def kv_LF : List (Nat × Nat × Nat × Nat × Nat) := [(10, 9, 10, 0, 0), (11, 90, 10, 1, 1), (10, 15, 10, 1, 0), (3, 33, 10, 2, 1), (6, 22, 10, 2, 1), (10, 19, 10, 2, 0), (11, 103, 10, 2, 1), (10, 29, 10, 3, 0), (3, 141, 10, 3, 1), (6, 89, 10, 3, 1), (2, 21, 2, 0, 0), (3, 93, 2, 0, 1), (11, 157, 2, 0, 1), (2, 25, 2, 1, 0), (3, 96, 2, 1, 1), (11, 160, 2, 1, 1), (2, 28, 2, 2, 0), (3, 99, 2, 2, 1), (11, 163, 2, 2, 1), (2, 31, 2, 3, 0), (4, 43, 2, 3, 1), (3, 102, 2, 3, 1), (11, 166, 2, 3, 1), (2, 34, 2, 4, 0), (3, 65, 2, 4, 1), (11, 140, 2, 4, 1), (2, 37, 2, 5, 0), (3, 71, 2, 5, 1), (11, 342, 2, 5, 1), (2, 9, 2, 6, 0), (2, 15, 2, 7, 0), (2, 18, 2, 8, 0), (5, 9, 5, 0, 0), (6, 28, 5, 1, 1), (5, 19, 5, 1, 0), (7, 11, 7, 0, 0), (7, 25, 7, 1, 0), (11, 110, 7, 1, 1), (7, 17, 7, 2, 0), (4, 96, 7, 2, 1), (11, 169, 7, 2, 1), (7, 21, 7, 3, 0), (4, 115, 7, 3, 1), (11, 172, 7, 3, 1), (9, 9, 9, 0, 0), (9, 15, 9, 1, 0), (9, 18, 9, 2, 0), (11, 255, 9, 2, 1), (9, 22, 9, 3, 0), (4, 90, 9, 3, 1), (11, 231, 9, 3, 1), (9, 25, 9, 4, 0), (11, 345, 9, 4, 1), (3, 15, 3, 0, 0), (3, 22, 3, 1, 0), (11, 121, 3, 1, 1), (3, 29, 3, 2, 0), (11, 126, 3, 2, 1), (3, 9, 3, 3, 0), (3, 43, 3, 4, 0), (6, 9, 6, 0, 0), (6, 18, 6, 1, 0), (11, 113, 6, 1, 1), (4, 18, 4, 0, 0), (4, 22, 4, 1, 0), (4, 9, 4, 2, 0), (4, 15, 4, 3, 0), (0, 11, 0, 0, 0), (0, 18, 0, 1, 0), (0, 26, 0, 2, 0), (11, 268, 0, 2, 1), (8, 9, 8, 0, 0), (8, 15, 8, 1, 0), (8, 18, 8, 2, 0), (8, 21, 8, 3, 0), (11, 139, 8, 3, 1), (11, 16, 11, 0, 0), (11, 35, 11, 1, 0), (11, 42, 11, 2, 0), (11, 22, 11, 3, 0), (11, 26, 11, 4, 0), (11, 51, 11, 5, 0), (11, 58, 11, 6, 0), (11, 62, 11, 7, 0), (11, 65, 11, 8, 0), (11, 132, 11, 9, 0), (11, 71, 11, 10, 0), (11, 78, 11, 11, 0), (11, 82, 11, 12, 0), (11, 234, 11, 13, 0), (1, 7, 1, 0, 0), (12, 92, 12, 0, 0), (12, 9, 12, 1, 0), (12, 99, 12, 2, 0), (12, 102, 12, 3, 0), (12, 109, 12, 4, 0), (12, 115, 12, 5, 0), (12, 13, 12, 6, 0), (12, 16, 12, 7, 0), (12, 19, 12, 8, 0), (12, 22, 12, 9, 0), (12, 25, 12, 10, 0), (12, 28, 12, 11, 0), (12, 31, 12, 12, 0), (12, 276, 12, 13, 0), (12, 112, 12, 14, 0), (12, 34, 12, 15, 0), (12, 37, 12, 16, 0), (12, 40, 12, 17, 0), (12, 43, 12, 18, 0), (12, 46, 12, 19, 0), (12, 231, 12, 20, 0), (12, 234, 12, 21, 0), (12, 49, 12, 22, 0), (12, 52, 12, 23, 0), (12, 251, 12, 24, 0), (12, 254, 12, 25, 0), (12, 55, 12, 26, 0), (12, 58, 12, 27, 0), (12, 62, 12, 28, 0), (12, 347, 12, 29, 0), (12, 65, 12, 30, 0), (12, 68, 12, 31, 0), (12, 71, 12, 32, 0), (12, 266, 12, 33, 0), (12, 350, 12, 34, 0), (12, 74, 12, 35, 0), (12, 77, 12, 36, 0), (12, 80, 12, 37, 0), (12, 83, 12, 38, 0), (12, 86, 12, 39, 0), (12, 263, 12, 40, 0), (12, 89, 12, 41, 0), (12, 269, 12, 42, 0)]
def kv_LFw (q : Nat × Nat × Nat × Nat × Nat) : Cond := if q.2.2.2.2 = 0 then .fieldLink (kv_R q.1) q.2.1 (kv_R q.2.2.1) (kv_T q.2.2.1 q.2.2.2.1).2.1 (kv_T q.2.2.1 q.2.2.2.1).2.2.1 else .fieldLinkNest (kv_R q.1) q.2.1 (kv_R q.2.2.1) (kv_T q.2.2.1 q.2.2.2.1).2.1 (kv_T q.2.2.1 q.2.2.2.1).2.2.1 "KiteVote"
theorem kv_ws_LF : ∀ w ∈ kv_LF.map kv_LFw, w ∈ lw_tbl := kv_mem [140, 141, 142, 143, 144, 145, 146, 147, 148, 149, 166, 167, 168, 169, 170, 171, 172, 173, 174, 175, 176, 177, 178, 179, 180, 181, 182, 183, 184, 185, 186, 187, 220, 221, 222, 228, 229, 230, 231, 232, 233, 234, 235, 236, 260, 261, 262, 263, 264, 265, 266, 267, 268, 280, 281, 282, 283, 284, 285, 286, 306, 307, 308, 320, 321, 322, 323, 344, 345, 346, 347, 361, 362, 363, 364, 365, 375, 376, 377, 378, 379, 380, 381, 382, 383, 384, 385, 386, 387, 388, 908, 1197, 1198, 1199, 1200, 1201, 1202, 1203, 1204, 1205, 1206, 1207, 1208, 1209, 1210, 1211, 1212, 1213, 1214, 1215, 1216, 1217, 1218, 1219, 1220, 1221, 1222, 1223, 1224, 1225, 1226, 1227, 1228, 1229, 1230, 1231, 1232, 1233, 1234, 1235, 1236, 1237, 1238, 1239] (by decide +kernel)
def kv_LM : List (Nat × Nat × Nat × Nat × Nat) := [(11, 9, 73, 2, 1), (11, 12, 6, 2, 1), (11, 15, 49, 2, 0), (7, 24, 31, 2, 1), (11, 32, 12, 2, 0), (3, 21, 6, 2, 1), (3, 28, 56, 2, 1), (11, 41, 38, 2, 0), (6, 17, 31, 2, 1), (11, 48, 21, 2, 0), (11, 57, 56, 2, 1), (11, 70, 0, 2, 0), (0, 17, 56, 2, 1), (11, 77, 52, 2, 1), (11, 86, 74, 0, 0), (11, 94, 75, 1, 0), (11, 98, 13, 1, 0), (3, 39, 7, 1, 0), (3, 42, 57, 1, 0), (3, 47, 14, 1, 0), (3, 55, 76, 1, 0), (3, 62, 15, 1, 0), (3, 77, 18, 1, 0), (3, 89, 19, 1, 0), (3, 128, 273, 1, 0), (14, 335, 276, 1, 0), (3, 133, 274, 1, 0), (14, 633, 275, 1, 0), (14, 492, 277, 1, 0), (14, 505, 273, 1, 0), (14, 637, 279, 0, 0), (15, 88, 278, 0, 0), (15, 95, 280, 0, 0), (3, 137, 80, 1, 0), (10, 32, 79, 1, 0), (10, 22, 76, 1, 0), (10, 26, 77, 1, 0), (3, 68, 16, 1, 0), (3, 113, 60, 1, 0), (3, 74, 17, 1, 0), (3, 125, 9, 1, 0), (3, 51, 78, 1, 0), (3, 59, 20, 1, 0), (3, 144, 59, 1, 0), (11, 102, 39, 1, 0), (6, 31, 40, 1, 0), (6, 35, 78, 1, 0), (6, 39, 76, 1, 0), (6, 43, 46, 1, 0), (6, 72, 47, 1, 0), (6, 75, 48, 1, 0), (6, 80, 274, 1, 0), (6, 50, 33, 1, 0), (6, 86, 79, 1, 0), (6, 47, 45, 1, 0), (6, 54, 41, 1, 0), (6, 62, 42, 1, 0), (6, 65, 43, 1, 0), (6, 68, 44, 1, 0), (6, 58, 34, 1, 0), (11, 106, 86, 1, 0), (11, 122, 8, 1, 0), (11, 129, 58, 1, 0), (11, 136, 3, 1, 0), (11, 117, 50, 1, 0), (7, 28, 32, 1, 0), (11, 154, 137, 1, 0), (11, 175, 147, 0, 0), (11, 179, 10, 1, 0), (11, 182, 139, 1, 0), (11, 143, 138, 1, 0), (11, 291, 61, 1, 0), (9, 34, 59, 1, 0), (11, 185, 27, 1, 0), (4, 39, 59, 1, 0), (4, 93, 10, 1, 0), (4, 101, 51, 1, 0), (4, 65, 148, 0, 1), (4, 105, 29, 1, 0), (4, 109, 35, 1, 0), (5, 25, 36, 0, 0), (5, 29, 37, 0, 0), (11, 190, 140, 1, 0), (11, 193, 28, 1, 0), (11, 197, 69, 1, 0), (9, 38, 61, 1, 0), (11, 200, 30, 1, 0), (4, 118, 69, 1, 0), (4, 121, 11, 1, 0), (11, 204, 99, 1, 0), (11, 150, 59, 1, 0), (11, 208, 1, 1, 0), (0, 22, 58, 1, 0), (11, 210, 60, 1, 0), (11, 214, 141, 1, 0), (11, 339, 64, 1, 0), (11, 217, 65, 1, 0), (11, 225, 143, 1, 0), (11, 252, 142, 1, 0), (11, 228, 22, 1, 0), (4, 26, 23, 1, 0), (4, 33, 61, 1, 0), (4, 57, 60, 1, 0), (4, 61, 27, 1, 0), (4, 30, 25, 1, 0), (4, 75, 26, 0, 0), (4, 79, 28, 1, 0), (4, 83, 66, 1, 0), (4, 86, 63, 1, 0), (9, 42, 60, 1, 0), (11, 239, 4, 2, 0), (11, 242, 23, 1, 0), (11, 245, 24, 1, 0), (4, 69, 5, 1, 0), (11, 249, 25, 1, 0), (11, 258, 72, 1, 0), (11, 261, 71, 1, 0), (11, 264, 2, 1, 0), (11, 269, 144, 1, 0), (11, 272, 62, 1, 0), (11, 275, 146, 0, 0), (11, 278, 68, 1, 0), (9, 51, 62, 1, 0), (9, 55, 67, 1, 0), (11, 281, 145, 1, 0), (11, 285, 113, 1, 0), (11, 288, 114, 1, 0), (11, 294, 67, 1, 0), (11, 297, 11, 1, 0), (11, 300, 272, 0, 0), (11, 305, 118, 1, 0), (11, 308, 120, 1, 0), (11, 311, 124, 1, 0), (11, 315, 125, 1, 0), (11, 318, 126, 1, 0), (11, 321, 63, 1, 0), (11, 324, 70, 1, 0), (11, 327, 53, 1, 0), (11, 329, 130, 1, 0), (11, 332, 54, 1, 0), (11, 335, 55, 1, 0), (12, 95, 153, 0, 0), (12, 245, 189, 1, 0), (12, 211, 186, 0, 0), (12, 121, 157, 1, 0), (12, 105, 156, 1, 0), (12, 237, 187, 1, 0), (12, 214, 183, 0, 0), (12, 218, 150, 0, 0), (12, 222, 184, 0, 0), (12, 225, 185, 0, 0), (12, 228, 182, 1, 0), (12, 124, 159, 0, 0), (12, 118, 158, 1, 0), (12, 207, 149, 0, 0), (12, 241, 188, 1, 0), (12, 248, 177, 1, 0), (12, 173, 175, 1, 0), (12, 176, 174, 1, 0), (12, 161, 173, 1, 0), (12, 158, 170, 1, 0), (12, 139, 162, 1, 0), (12, 131, 160, 1, 0), (12, 145, 163, 1, 0), (12, 142, 167, 1, 0), (12, 152, 166, 1, 0), (12, 149, 165, 1, 0), (12, 128, 164, 1, 0), (12, 135, 161, 0, 0), (12, 164, 169, 1, 0), (12, 155, 168, 0, 0), (12, 167, 171, 1, 0), (12, 170, 172, 1, 0), (12, 179, 176, 1, 0), (12, 273, 191, 1, 0), (12, 257, 194, 1, 0), (12, 260, 193, 1, 0), (12, 279, 195, 1, 0), (12, 285, 203, 1, 0), (12, 282, 196, 1, 0), (12, 298, 206, 1, 0), (12, 288, 205, 1, 0), (12, 291, 181, 1, 0), (12, 203, 180, 1, 0), (12, 199, 179, 0, 0), (12, 195, 178, 0, 0), (12, 302, 197, 1, 0), (12, 305, 208, 1, 0), (12, 323, 216, 1, 0), (12, 326, 218, 1, 0), (12, 329, 220, 1, 0), (12, 332, 223, 1, 0), (12, 338, 227, 1, 0), (12, 335, 199, 1, 0), (12, 341, 210, 1, 0), (12, 344, 215, 1, 0), (12, 317, 212, 1, 0), (12, 308, 211, 1, 0), (12, 320, 214, 1, 0), (12, 314, 213, 1, 0), (12, 358, 230, 1, 0), (12, 361, 231, 1, 0), (12, 364, 236, 1, 0), (12, 367, 237, 1, 0), (12, 370, 238, 1, 0), (12, 373, 271, 0, 0), (12, 378, 242, 1, 0), (12, 381, 244, 1, 0), (12, 384, 247, 1, 0), (12, 390, 198, 1, 0), (12, 393, 251, 1, 0), (12, 387, 250, 1, 0), (12, 396, 272, 0, 0), (12, 399, 254, 1, 0), (12, 402, 257, 1, 0), (12, 406, 259, 1, 0), (12, 409, 263, 1, 0)]
def kv_dM : kv_M := (0, "", "", ByteArray.mk #[], 0, none, 0, false)
def kv_LMw (q : Nat × Nat × Nat × Nat × Nat) : Cond := if q.2.2.2.2 = 0 then .methodLink (kv_R q.1) q.2.1 (kv_y (kv_Ms.getD q.2.2.1 kv_dM)) else .methodLinkNest (kv_R q.1) q.2.1 (kv_y (kv_Ms.getD q.2.2.1 kv_dM)) "KiteVote"
theorem kv_ws_LM : ∀ w ∈ kv_LM.map kv_LMw, w ∈ lw_tbl := kv_mem [136, 162, 209, 216, 248, 253, 256, 300, 305, 316, 334, 337, 343, 357, 422, 425, 437, 441, 445, 449, 453, 457, 461, 470, 474, 478, 484, 488, 492, 496, 497, 500, 509, 561, 565, 569, 570, 574, 583, 587, 596, 600, 604, 608, 612, 616, 620, 621, 622, 626, 630, 635, 636, 640, 641, 645, 649, 653, 657, 661, 671, 675, 679, 686, 690, 694, 703, 715, 718, 726, 730, 734, 738, 739, 743, 744, 745, 749, 752, 756, 761, 768, 776, 780, 788, 792, 797, 801, 802, 810, 814, 815, 819, 821, 830, 834, 842, 855, 859, 863, 867, 871, 874, 875, 876, 880, 883, 884, 889, 893, 904, 912, 913, 917, 923, 928, 936, 944, 956, 964, 968, 975, 979, 980, 988, 1000, 1004, 1016, 1017, 1022, 1028, 1036, 1052, 1056, 1060, 1068, 1069, 1077, 1085, 1089, 1094, 1335, 1346, 1350, 1353, 1357, 1361, 1365, 1368, 1371, 1374, 1377, 1381, 1384, 1388, 1391, 1395, 1399, 1403, 1407, 1411, 1415, 1419, 1423, 1427, 1431, 1435, 1439, 1443, 1446, 1450, 1453, 1457, 1461, 1469, 1473, 1477, 1485, 1501, 1509, 1513, 1517, 1521, 1525, 1529, 1532, 1550, 1554, 1562, 1570, 1578, 1590, 1606, 1610, 1614, 1618, 1622, 1626, 1630, 1637, 1649, 1655, 1675, 1679, 1687, 1695, 1703, 1711, 1723, 1735, 1739, 1743, 1751, 1756, 1768, 1776, 1792] (by decide +kernel)
def kv_LO : List (Nat × Nat) := [(11, 1), (10, 3), (2, 3), (7, 3), (5, 1), (3, 3), (9, 3), (6, 3), (4, 3), (0, 3), (8, 3), (1, 1), (12, 3)]
theorem kv_ws_LO : ∀ w ∈ kv_LO.map (fun q => Cond.methodLink (kv_R q.1) q.2 Lib.objectInit), w ∈ lw_tbl := kv_mem [131, 139, 165, 212, 219, 251, 259, 303, 319, 340, 360, 907, 1196] (by decide +kernel)
def kv_LK : List (Nat × Nat) := [(9, 28), (5, 13)]
theorem kv_ws_LK : ∀ w ∈ kv_LK.map (fun q => Cond.methodLink (kv_R q.1) q.2 arraycopyName), w ∈ lw_tbl := kv_mem [683, 698] (by decide +kernel)
def kv_LX : List (Nat × Nat × Nat) := [(15, 92, 0), (15, 38, 1), (0, 29, 1), (11, 220, 1), (4, 49, 1), (4, 54, 0), (9, 46, 0), (8, 25, 0), (12, 186, 4), (12, 192, 3), (12, 294, 1), (12, 296, 0), (12, 311, 2)]
def kv_Xs : List MethodName := [Lib.Math.max.name, Lib.Math.min.name, Lib.Math.abs.name, Lib.MathLoose.max_long.x, Lib.MathLoose.min_long.x]
theorem kv_ws_LX : ∀ w ∈ kv_LX.map (fun q => Cond.methodLink (kv_R q.1) q.2.1 (kv_Xs.getD q.2.2 Lib.Math.max.name)), w ∈ lw_tbl := kv_mem [503, 506, 820, 846, 872, 873, 888, 1093, 1537, 1540, 1543, 1544, 1634] (by decide +kernel)
def kv_LC : List (Nat × Nat × Int32) := [(5, 23, 786432), (5, 24, 65535), (5, 34, 1000000), (5, 37, -1000000), (11, 189, -1000000), (13, 265, 1431655765), (13, 266, 858993459), (13, 267, 252645135), (12, 301, -1000000), (13, 264, 65536)]
theorem kv_ws_LC : ∀ w ∈ kv_LC.map (fun q => Cond.constant (kv_R q.1) q.2.1 q.2.2), w ∈ lw_tbl := kv_mem [665, 760, 765, 767, 771, 1025, 1026, 1027, 1545, 1698] (by decide +kernel)
def kv_LL : List (Nat × Nat × Int64) := [(5, 32, 1000000), (5, 35, -1000000), (1, 13, 6364136223846793005), (1, 15, 1442695040888963407), (12, 182, -1000000), (12, 184, 1000000), (12, 354, 6364136223846793005), (12, 356, 1442695040888963407)]
theorem kv_ws_LL : ∀ w ∈ kv_LL.map (fun q => Cond.constantLong (kv_R q.1) q.2.1 q.2.2), w ∈ lw_tbl := kv_mem [764, 766, 921, 922, 1535, 1536, 1653, 1654] (by decide +kernel)
def kv_LS : List (Nat × Nat × Nat) := [(3, 81, 0), (3, 105, 1), (3, 117, 2), (6, 78, 3)]
def kv_Str : List String := ["wbmr", "pwlhoxgm", "fns", "swhpabdt"]
theorem kv_ws_LS : ∀ w ∈ kv_LS.map (fun q => Cond.stringRef (kv_R q.1) q.2.1 (kv_Str.getD q.2.2 "")), w ∈ lw_tbl := kv_mem [465, 578, 591, 634] (by decide +kernel)
def kv_GS : List (Nat × Nat × Nat) := [(3, 83, 0), (3, 86, 1), (14, 38, 6), (3, 107, 2), (3, 110, 3), (3, 119, 4), (3, 122, 5)]
def kv_Sts : List (String × String × String) := [("KiteVote$FieldReader", "LAW_LEAST", "[I"), ("KiteVote$FieldReader", "LAW_MOST", "[I"), ("KiteVote$FieldReader", "KITE_LEAST", "[I"), ("KiteVote$FieldReader", "KITE_MOST", "[I"), ("KiteVote$FieldReader", "AIR_LEAST", "[I"), ("KiteVote$FieldReader", "AIR_MOST", "[I"), ("java/lang/String", "COMPACT_STRINGS", "Z")]
def kv_GSw (q : Nat × Nat × Nat) : Cond := .fieldLink (kv_R q.1) q.2.1 (kv_Sts.getD q.2.2 ("", "", "")).1 (kv_Sts.getD q.2.2 ("", "", "")).2.1 (kv_Sts.getD q.2.2 ("", "", "")).2.2
theorem kv_ws_GS : ∀ w ∈ kv_GS.map kv_GSw, w ∈ lw_tbl := kv_mem [466, 468, 482, 579, 581, 592, 594] (by decide +kernel)
def kv_NC : List (Nat × Nat × Nat) := [(11, 7, 10), (11, 10, 2), (11, 13, 7), (7, 9, 5), (11, 30, 3), (3, 19, 2), (3, 26, 9), (11, 39, 6), (6, 15, 5), (11, 46, 4), (11, 55, 9), (11, 68, 0), (0, 9, 9), (11, 75, 8), (11, 237, 1)]
theorem kv_ws_NC : ∀ w ∈ kv_NC.map (fun q => Cond.classLink (kv_R q.1) q.2.1 (kv_R q.2.2)), w ∈ lw_tbl := kv_mem [134, 160, 207, 213, 246, 252, 254, 298, 304, 314, 333, 335, 341, 355, 902] (by decide +kernel)
def kv_AN : List (Nat × Nat × Nat) := [(7, 9, 5), (0, 9, 9)]
theorem kv_ws_AN : ∀ w ∈ kv_AN.map (fun q => Cond.classLink (kv_R q.1) q.2.1 (kv_R q.2.2)), w ∈ lw_tbl := kv_mem [213, 341] (by decide +kernel)
def kv_SF : List (Nat × Nat × Nat) := [(14, 9, 0), (14, 15, 1)]
def kv_SFw (q : Nat × Nat × Nat) : Cond := if q.2.2 = 0 then .fieldLink (kv_R q.1) q.2.1 "java/lang/String" "value" "[B" else .fieldLink (kv_R q.1) q.2.1 "java/lang/String" "coder" "B"
theorem kv_ws_SF : ∀ w ∈ kv_SF.map kv_SFw, w ∈ lw_tbl := kv_mem [1839, 1840] (by decide +kernel)
theorem kv_ws_one : ∀ w ∈ ([.code Lib.objectInit ⟨#[0xb1]⟩ 1 none, .instanceMethod Lib.objectInit, .native arraycopyName, .static arraycopyName, .initialized "java/lang/System", .arrayClass .int, .arrayOver (.object "KiteVote$State"), .arrayOver (.object "KiteVote$Law"), .initialized "java/lang/Math"] ++ kv_Xs.map (fun y => Cond.static y) : List Cond), w ∈ lw_tbl := kv_mem [133, 132, 685, 684, 119, 159, 342, 214, 115, 504, 507, 1635, 1541, 1538] (by decide +kernel)
theorem kv_ws_math : ∀ w ∈ ([.code Lib.Math.max.name Lib.Math.max.code 2 (some .int), .code Lib.Math.min.name Lib.Math.min.code 2 (some .int), .code Lib.Math.abs.name Lib.Math.abs.code 1 (some .int), .code Lib.MathLoose.max_long.x Lib.MathLoose.max_long.code 4 (some .long), .code Lib.MathLoose.min_long.x Lib.MathLoose.min_long.code 4 (some .long)] : List Cond), w ∈ lw_tbl := kv_mem [505, 508, 1636, 1542, 1539] (by decide +kernel)
theorem kv_ty_ok : ∀ c, c < 13 → ∀ k, k < kv_N c → parseFieldDescriptor (kv_T c k).2.2.1 = some (kv_Ty c k) := by decide +kernel
theorem kv_nm_ok : ∀ c, c < 13 → ∀ a, a < kv_N c → ∀ b, b < kv_N c → a ≠ b → (kv_T c a).2.1 ≠ (kv_T c b).2.1 := by decide +kernel
theorem kv_desc_ok : ∀ q ∈ kv_Ms, (kv_y q).cls ≠ "java/lang/invoke/MethodHandle" ∧ (kv_y q).cls ≠ "java/lang/invoke/VarHandle" ∧ (parseMethodDescriptor (kv_y q).desc).map (fun d => d.parameters.length) = some q.2.2.2.2.2.2.1 := by decide +kernel
theorem kv_plain : ∀ n ∈ kv_Rs, plainName n = true := by decide +kernel
