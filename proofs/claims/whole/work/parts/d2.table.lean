/-! the table of calls, and gusts -/
/-- a call of ints: how many, where it begins, the links, the way to the end, the methods -/
abbrev kz_Row : Type := Nat × Nat × Nat × Nat × Int × Nat × Nat
def kz_Tb : List (Option kz_Row) := [some (5, 240, 19, 23, 1361, 82, 154), some (1, 313, 24, 28, 1336, 83, 155), some (1, 338, 29, 33, 1311, 84, 190), some (1, 363, 34, 37, 1286, 85, 192), none, some (1, 456, 48, 51, 1193, 87, 201), some (2, 481, 52, 56, 1156, 88, 202), some (2, 518, 57, 60, 1119, 89, 204), some (1, 555, 61, 64, 1094, 90, 207), some (2, 580, 65, 68, 1057, 91, 209), some (1, 617, 69, 72, 1032, 92, 217), some (0, 642, 73, 76, 1019, 93, 219), some (2, 655, 77, 80, 982, 94, 221), some (1, 692, 81, 84, 957, 95, 222), some (2, 717, 85, 88, 920, 96, 224), some (3, 754, 89, 93, 871, 97, 225), some (2, 803, 94, 97, 834, 98, 226), some (1, 840, 98, 101, 809, 100, 228), some (1, 865, 102, 105, 784, 101, 229), none, some (0, 959, 113, 116, 702, 103, 233), some (1, 972, 117, 120, 677, 104, 234), some (0, 997, 121, 124, 664, 105, 235), some (3, 1010, 125, 128, 615, 106, 239), some (1, 1059, 129, 132, 590, 107, 240), some (1, 1084, 133, 136, 565, 108, 241), some (0, 1109, 137, 140, 552, 109, 243), some (2, 1122, 141, 144, 515, 110, 245), some (2, 1159, 145, 148, 478, 111, 246), some (2, 1196, 149, 152, 441, 112, 248), some (1, 1233, 153, 156, 416, 115, 249), some (1, 1258, 157, 160, 391, 116, 252), some (0, 1283, 161, 164, 378, 117, 253), some (1, 1296, 165, 168, 353, 119, 255), some (1, 1321, 169, 172, 328, 121, 256), some (4, 1346, 173, 177, 267, 122, 258), some (3, 1407, 178, 181, 218, 123, 260), some (2, 1456, 182, 185, 181, 127, 261), some (3, 1493, 186, 189, 132, 128, 262), some (1, 1542, 190, 193, 107, 129, 264), some (1, 1567, 194, 197, 82, 131, 265), some (0, 1592, 198, 201, 69, 132, 266), some (0, 1605, 202, 205, 56, 133, 267), some (0, 1618, 206, 209, 43, 134, 268), some (0, 1631, 210, 213, 30, 135, 269), some (1, 1644, 214, 217, 5, 136, 270)]
def kz_K : List (Nat × Nat) := [(19, 82), (24, 83), (29, 84), (34, 85), (48, 87), (52, 88), (57, 89), (61, 90), (65, 91), (69, 92), (73, 93), (77, 94), (81, 95), (85, 96), (89, 97), (94, 98), (98, 100), (102, 101), (113, 103), (117, 104), (121, 105), (125, 106), (129, 107), (133, 108), (137, 109), (141, 110), (145, 111), (149, 112), (153, 115), (157, 116), (161, 117), (165, 119), (169, 121), (173, 122), (178, 123), (182, 127), (186, 128), (190, 129), (194, 131), (198, 132), (202, 133), (206, 134), (210, 135), (214, 136), (23, 154), (28, 155), (33, 190), (37, 192), (51, 201), (56, 202), (60, 204), (64, 207), (68, 209), (72, 217), (76, 219), (80, 221), (84, 222), (88, 224), (93, 225), (97, 226), (101, 228), (105, 229), (116, 233), (120, 234), (124, 235), (128, 239), (132, 240), (136, 241), (140, 243), (144, 245), (148, 246), (152, 248), (156, 249), (160, 252), (164, 253), (168, 255), (172, 256), (177, 258), (181, 260), (185, 261), (189, 262), (193, 264), (197, 265), (201, 266), (205, 267), (209, 268), (213, 269), (217, 270), (108, 102), (112, 232), (43, 200), (44, 152)]
theorem kz_K_in : ∀ w ∈ kz_K.map (fun q => Cond.methodLink R_law q.1 (kv_y (kv_Ms.getD q.2 kv_dM))), w ∈ lw_tbl := kv_mem [418, 429, 433, 667, 699, 707, 711, 722, 772, 784, 793, 806, 822, 826, 838, 847, 851, 894, 924, 932, 940, 948, 952, 960, 971, 984, 992, 996, 1008, 1012, 1018, 1032, 1040, 1044, 1048, 1064, 1073, 1081, 1098, 1102, 1106, 1110, 1114, 1118, 1331, 1338, 1342, 1465, 1489, 1493, 1497, 1505, 1546, 1558, 1566, 1574, 1582, 1586, 1594, 1598, 1602, 1641, 1659, 1663, 1667, 1671, 1683, 1691, 1699, 1707, 1715, 1719, 1727, 1731, 1747, 1752, 1760, 1764, 1772, 1780, 1784, 1788, 1796, 1800, 1804, 1808, 1812, 1816, 898, 1645, 1481, 1327] (by decide +kernel)
theorem kz_lk {i j : Nat} (h : (i, j) ∈ kz_K) : Cond.methodLink R_law i (kv_y (kv_Ms.getD j kv_dM)) ∈ lw_tbl := kz_K_in _ (List.mem_map_of_mem (f := fun q : Nat × Nat => Cond.methodLink R_law q.1 (kv_y (kv_Ms.getD q.2 kv_dM))) h)
abbrev kz_okR (v : Nat) (t : kz_Row) : Prop := kz_offs[v]? = some ((t.2.1 : Int) - 40) ∧ kz_ch t.1 t.2.1 t.2.2.1 t.2.2.2.1 t.2.2.2.2.1 ∧ (t.2.2.1, t.2.2.2.2.2.1) ∈ kz_K ∧ (t.2.2.2.1, t.2.2.2.2.2.2) ∈ kz_K ∧ t.2.2.2.2.2.1 < kv_Ms.length ∧ t.2.2.2.2.2.2 < kv_Ms.length ∧ kz_qd (kv_Ms.getD t.2.2.2.2.2.1 kv_dM) 11 t.1 ∧ kz_qd (kv_Ms.getD t.2.2.2.2.2.2 kv_dM) 12 t.1 ∧ t.1 ≤ 5
theorem kz_r0 : kz_okR 0 (5, 240, 19, 23, 1361, 82, 154) := ⟨by decide +kernel, ⟨by decide +kernel, by decide +kernel, by decide +kernel, by decide +kernel, by decide +kernel, by decide +kernel, by decide +kernel, by decide +kernel⟩, by decide +kernel, by decide +kernel, by decide +kernel, by decide +kernel, by decide +kernel, by decide +kernel, by decide +kernel⟩
theorem kz_r1 : kz_okR 1 (1, 313, 24, 28, 1336, 83, 155) := ⟨by decide +kernel, ⟨by decide +kernel, by decide +kernel, by decide +kernel, by decide +kernel, by decide +kernel, by decide +kernel, by decide +kernel, by decide +kernel⟩, by decide +kernel, by decide +kernel, by decide +kernel, by decide +kernel, by decide +kernel, by decide +kernel, by decide +kernel⟩
theorem kz_r2 : kz_okR 2 (1, 338, 29, 33, 1311, 84, 190) := ⟨by decide +kernel, ⟨by decide +kernel, by decide +kernel, by decide +kernel, by decide +kernel, by decide +kernel, by decide +kernel, by decide +kernel, by decide +kernel⟩, by decide +kernel, by decide +kernel, by decide +kernel, by decide +kernel, by decide +kernel, by decide +kernel, by decide +kernel⟩
theorem kz_r3 : kz_okR 3 (1, 363, 34, 37, 1286, 85, 192) := ⟨by decide +kernel, ⟨by decide +kernel, by decide +kernel, by decide +kernel, by decide +kernel, by decide +kernel, by decide +kernel, by decide +kernel, by decide +kernel⟩, by decide +kernel, by decide +kernel, by decide +kernel, by decide +kernel, by decide +kernel, by decide +kernel, by decide +kernel⟩
theorem kz_r5 : kz_okR 5 (1, 456, 48, 51, 1193, 87, 201) := ⟨by decide +kernel, ⟨by decide +kernel, by decide +kernel, by decide +kernel, by decide +kernel, by decide +kernel, by decide +kernel, by decide +kernel, by decide +kernel⟩, by decide +kernel, by decide +kernel, by decide +kernel, by decide +kernel, by decide +kernel, by decide +kernel, by decide +kernel⟩
theorem kz_r6 : kz_okR 6 (2, 481, 52, 56, 1156, 88, 202) := ⟨by decide +kernel, ⟨by decide +kernel, by decide +kernel, by decide +kernel, by decide +kernel, by decide +kernel, by decide +kernel, by decide +kernel, by decide +kernel⟩, by decide +kernel, by decide +kernel, by decide +kernel, by decide +kernel, by decide +kernel, by decide +kernel, by decide +kernel⟩
theorem kz_r7 : kz_okR 7 (2, 518, 57, 60, 1119, 89, 204) := ⟨by decide +kernel, ⟨by decide +kernel, by decide +kernel, by decide +kernel, by decide +kernel, by decide +kernel, by decide +kernel, by decide +kernel, by decide +kernel⟩, by decide +kernel, by decide +kernel, by decide +kernel, by decide +kernel, by decide +kernel, by decide +kernel, by decide +kernel⟩
theorem kz_r8 : kz_okR 8 (1, 555, 61, 64, 1094, 90, 207) := ⟨by decide +kernel, ⟨by decide +kernel, by decide +kernel, by decide +kernel, by decide +kernel, by decide +kernel, by decide +kernel, by decide +kernel, by decide +kernel⟩, by decide +kernel, by decide +kernel, by decide +kernel, by decide +kernel, by decide +kernel, by decide +kernel, by decide +kernel⟩
theorem kz_r9 : kz_okR 9 (2, 580, 65, 68, 1057, 91, 209) := ⟨by decide +kernel, ⟨by decide +kernel, by decide +kernel, by decide +kernel, by decide +kernel, by decide +kernel, by decide +kernel, by decide +kernel, by decide +kernel⟩, by decide +kernel, by decide +kernel, by decide +kernel, by decide +kernel, by decide +kernel, by decide +kernel, by decide +kernel⟩
theorem kz_r10 : kz_okR 10 (1, 617, 69, 72, 1032, 92, 217) := ⟨by decide +kernel, ⟨by decide +kernel, by decide +kernel, by decide +kernel, by decide +kernel, by decide +kernel, by decide +kernel, by decide +kernel, by decide +kernel⟩, by decide +kernel, by decide +kernel, by decide +kernel, by decide +kernel, by decide +kernel, by decide +kernel, by decide +kernel⟩
theorem kz_r11 : kz_okR 11 (0, 642, 73, 76, 1019, 93, 219) := ⟨by decide +kernel, ⟨by decide +kernel, by decide +kernel, by decide +kernel, by decide +kernel, by decide +kernel, by decide +kernel, by decide +kernel, by decide +kernel⟩, by decide +kernel, by decide +kernel, by decide +kernel, by decide +kernel, by decide +kernel, by decide +kernel, by decide +kernel⟩
theorem kz_r12 : kz_okR 12 (2, 655, 77, 80, 982, 94, 221) := ⟨by decide +kernel, ⟨by decide +kernel, by decide +kernel, by decide +kernel, by decide +kernel, by decide +kernel, by decide +kernel, by decide +kernel, by decide +kernel⟩, by decide +kernel, by decide +kernel, by decide +kernel, by decide +kernel, by decide +kernel, by decide +kernel, by decide +kernel⟩
theorem kz_r13 : kz_okR 13 (1, 692, 81, 84, 957, 95, 222) := ⟨by decide +kernel, ⟨by decide +kernel, by decide +kernel, by decide +kernel, by decide +kernel, by decide +kernel, by decide +kernel, by decide +kernel, by decide +kernel⟩, by decide +kernel, by decide +kernel, by decide +kernel, by decide +kernel, by decide +kernel, by decide +kernel, by decide +kernel⟩
theorem kz_r14 : kz_okR 14 (2, 717, 85, 88, 920, 96, 224) := ⟨by decide +kernel, ⟨by decide +kernel, by decide +kernel, by decide +kernel, by decide +kernel, by decide +kernel, by decide +kernel, by decide +kernel, by decide +kernel⟩, by decide +kernel, by decide +kernel, by decide +kernel, by decide +kernel, by decide +kernel, by decide +kernel, by decide +kernel⟩
theorem kz_r15 : kz_okR 15 (3, 754, 89, 93, 871, 97, 225) := ⟨by decide +kernel, ⟨by decide +kernel, by decide +kernel, by decide +kernel, by decide +kernel, by decide +kernel, by decide +kernel, by decide +kernel, by decide +kernel⟩, by decide +kernel, by decide +kernel, by decide +kernel, by decide +kernel, by decide +kernel, by decide +kernel, by decide +kernel⟩
theorem kz_r16 : kz_okR 16 (2, 803, 94, 97, 834, 98, 226) := ⟨by decide +kernel, ⟨by decide +kernel, by decide +kernel, by decide +kernel, by decide +kernel, by decide +kernel, by decide +kernel, by decide +kernel, by decide +kernel⟩, by decide +kernel, by decide +kernel, by decide +kernel, by decide +kernel, by decide +kernel, by decide +kernel, by decide +kernel⟩
theorem kz_r17 : kz_okR 17 (1, 840, 98, 101, 809, 100, 228) := ⟨by decide +kernel, ⟨by decide +kernel, by decide +kernel, by decide +kernel, by decide +kernel, by decide +kernel, by decide +kernel, by decide +kernel, by decide +kernel⟩, by decide +kernel, by decide +kernel, by decide +kernel, by decide +kernel, by decide +kernel, by decide +kernel, by decide +kernel⟩
theorem kz_r18 : kz_okR 18 (1, 865, 102, 105, 784, 101, 229) := ⟨by decide +kernel, ⟨by decide +kernel, by decide +kernel, by decide +kernel, by decide +kernel, by decide +kernel, by decide +kernel, by decide +kernel, by decide +kernel⟩, by decide +kernel, by decide +kernel, by decide +kernel, by decide +kernel, by decide +kernel, by decide +kernel, by decide +kernel⟩
theorem kz_r20 : kz_okR 20 (0, 959, 113, 116, 702, 103, 233) := ⟨by decide +kernel, ⟨by decide +kernel, by decide +kernel, by decide +kernel, by decide +kernel, by decide +kernel, by decide +kernel, by decide +kernel, by decide +kernel⟩, by decide +kernel, by decide +kernel, by decide +kernel, by decide +kernel, by decide +kernel, by decide +kernel, by decide +kernel⟩
theorem kz_r21 : kz_okR 21 (1, 972, 117, 120, 677, 104, 234) := ⟨by decide +kernel, ⟨by decide +kernel, by decide +kernel, by decide +kernel, by decide +kernel, by decide +kernel, by decide +kernel, by decide +kernel, by decide +kernel⟩, by decide +kernel, by decide +kernel, by decide +kernel, by decide +kernel, by decide +kernel, by decide +kernel, by decide +kernel⟩
theorem kz_r22 : kz_okR 22 (0, 997, 121, 124, 664, 105, 235) := ⟨by decide +kernel, ⟨by decide +kernel, by decide +kernel, by decide +kernel, by decide +kernel, by decide +kernel, by decide +kernel, by decide +kernel, by decide +kernel⟩, by decide +kernel, by decide +kernel, by decide +kernel, by decide +kernel, by decide +kernel, by decide +kernel, by decide +kernel⟩
theorem kz_r23 : kz_okR 23 (3, 1010, 125, 128, 615, 106, 239) := ⟨by decide +kernel, ⟨by decide +kernel, by decide +kernel, by decide +kernel, by decide +kernel, by decide +kernel, by decide +kernel, by decide +kernel, by decide +kernel⟩, by decide +kernel, by decide +kernel, by decide +kernel, by decide +kernel, by decide +kernel, by decide +kernel, by decide +kernel⟩
theorem kz_r24 : kz_okR 24 (1, 1059, 129, 132, 590, 107, 240) := ⟨by decide +kernel, ⟨by decide +kernel, by decide +kernel, by decide +kernel, by decide +kernel, by decide +kernel, by decide +kernel, by decide +kernel, by decide +kernel⟩, by decide +kernel, by decide +kernel, by decide +kernel, by decide +kernel, by decide +kernel, by decide +kernel, by decide +kernel⟩
theorem kz_r25 : kz_okR 25 (1, 1084, 133, 136, 565, 108, 241) := ⟨by decide +kernel, ⟨by decide +kernel, by decide +kernel, by decide +kernel, by decide +kernel, by decide +kernel, by decide +kernel, by decide +kernel, by decide +kernel⟩, by decide +kernel, by decide +kernel, by decide +kernel, by decide +kernel, by decide +kernel, by decide +kernel, by decide +kernel⟩
theorem kz_r26 : kz_okR 26 (0, 1109, 137, 140, 552, 109, 243) := ⟨by decide +kernel, ⟨by decide +kernel, by decide +kernel, by decide +kernel, by decide +kernel, by decide +kernel, by decide +kernel, by decide +kernel, by decide +kernel⟩, by decide +kernel, by decide +kernel, by decide +kernel, by decide +kernel, by decide +kernel, by decide +kernel, by decide +kernel⟩
theorem kz_r27 : kz_okR 27 (2, 1122, 141, 144, 515, 110, 245) := ⟨by decide +kernel, ⟨by decide +kernel, by decide +kernel, by decide +kernel, by decide +kernel, by decide +kernel, by decide +kernel, by decide +kernel, by decide +kernel⟩, by decide +kernel, by decide +kernel, by decide +kernel, by decide +kernel, by decide +kernel, by decide +kernel, by decide +kernel⟩
theorem kz_r28 : kz_okR 28 (2, 1159, 145, 148, 478, 111, 246) := ⟨by decide +kernel, ⟨by decide +kernel, by decide +kernel, by decide +kernel, by decide +kernel, by decide +kernel, by decide +kernel, by decide +kernel, by decide +kernel⟩, by decide +kernel, by decide +kernel, by decide +kernel, by decide +kernel, by decide +kernel, by decide +kernel, by decide +kernel⟩
theorem kz_r29 : kz_okR 29 (2, 1196, 149, 152, 441, 112, 248) := ⟨by decide +kernel, ⟨by decide +kernel, by decide +kernel, by decide +kernel, by decide +kernel, by decide +kernel, by decide +kernel, by decide +kernel, by decide +kernel⟩, by decide +kernel, by decide +kernel, by decide +kernel, by decide +kernel, by decide +kernel, by decide +kernel, by decide +kernel⟩
theorem kz_r30 : kz_okR 30 (1, 1233, 153, 156, 416, 115, 249) := ⟨by decide +kernel, ⟨by decide +kernel, by decide +kernel, by decide +kernel, by decide +kernel, by decide +kernel, by decide +kernel, by decide +kernel, by decide +kernel⟩, by decide +kernel, by decide +kernel, by decide +kernel, by decide +kernel, by decide +kernel, by decide +kernel, by decide +kernel⟩
theorem kz_r31 : kz_okR 31 (1, 1258, 157, 160, 391, 116, 252) := ⟨by decide +kernel, ⟨by decide +kernel, by decide +kernel, by decide +kernel, by decide +kernel, by decide +kernel, by decide +kernel, by decide +kernel, by decide +kernel⟩, by decide +kernel, by decide +kernel, by decide +kernel, by decide +kernel, by decide +kernel, by decide +kernel, by decide +kernel⟩
theorem kz_r32 : kz_okR 32 (0, 1283, 161, 164, 378, 117, 253) := ⟨by decide +kernel, ⟨by decide +kernel, by decide +kernel, by decide +kernel, by decide +kernel, by decide +kernel, by decide +kernel, by decide +kernel, by decide +kernel⟩, by decide +kernel, by decide +kernel, by decide +kernel, by decide +kernel, by decide +kernel, by decide +kernel, by decide +kernel⟩
theorem kz_r33 : kz_okR 33 (1, 1296, 165, 168, 353, 119, 255) := ⟨by decide +kernel, ⟨by decide +kernel, by decide +kernel, by decide +kernel, by decide +kernel, by decide +kernel, by decide +kernel, by decide +kernel, by decide +kernel⟩, by decide +kernel, by decide +kernel, by decide +kernel, by decide +kernel, by decide +kernel, by decide +kernel, by decide +kernel⟩
theorem kz_r34 : kz_okR 34 (1, 1321, 169, 172, 328, 121, 256) := ⟨by decide +kernel, ⟨by decide +kernel, by decide +kernel, by decide +kernel, by decide +kernel, by decide +kernel, by decide +kernel, by decide +kernel, by decide +kernel⟩, by decide +kernel, by decide +kernel, by decide +kernel, by decide +kernel, by decide +kernel, by decide +kernel, by decide +kernel⟩
theorem kz_r35 : kz_okR 35 (4, 1346, 173, 177, 267, 122, 258) := ⟨by decide +kernel, ⟨by decide +kernel, by decide +kernel, by decide +kernel, by decide +kernel, by decide +kernel, by decide +kernel, by decide +kernel, by decide +kernel⟩, by decide +kernel, by decide +kernel, by decide +kernel, by decide +kernel, by decide +kernel, by decide +kernel, by decide +kernel⟩
theorem kz_r36 : kz_okR 36 (3, 1407, 178, 181, 218, 123, 260) := ⟨by decide +kernel, ⟨by decide +kernel, by decide +kernel, by decide +kernel, by decide +kernel, by decide +kernel, by decide +kernel, by decide +kernel, by decide +kernel⟩, by decide +kernel, by decide +kernel, by decide +kernel, by decide +kernel, by decide +kernel, by decide +kernel, by decide +kernel⟩
theorem kz_r37 : kz_okR 37 (2, 1456, 182, 185, 181, 127, 261) := ⟨by decide +kernel, ⟨by decide +kernel, by decide +kernel, by decide +kernel, by decide +kernel, by decide +kernel, by decide +kernel, by decide +kernel, by decide +kernel⟩, by decide +kernel, by decide +kernel, by decide +kernel, by decide +kernel, by decide +kernel, by decide +kernel, by decide +kernel⟩
theorem kz_r38 : kz_okR 38 (3, 1493, 186, 189, 132, 128, 262) := ⟨by decide +kernel, ⟨by decide +kernel, by decide +kernel, by decide +kernel, by decide +kernel, by decide +kernel, by decide +kernel, by decide +kernel, by decide +kernel⟩, by decide +kernel, by decide +kernel, by decide +kernel, by decide +kernel, by decide +kernel, by decide +kernel, by decide +kernel⟩
theorem kz_r39 : kz_okR 39 (1, 1542, 190, 193, 107, 129, 264) := ⟨by decide +kernel, ⟨by decide +kernel, by decide +kernel, by decide +kernel, by decide +kernel, by decide +kernel, by decide +kernel, by decide +kernel, by decide +kernel⟩, by decide +kernel, by decide +kernel, by decide +kernel, by decide +kernel, by decide +kernel, by decide +kernel, by decide +kernel⟩
theorem kz_r40 : kz_okR 40 (1, 1567, 194, 197, 82, 131, 265) := ⟨by decide +kernel, ⟨by decide +kernel, by decide +kernel, by decide +kernel, by decide +kernel, by decide +kernel, by decide +kernel, by decide +kernel, by decide +kernel⟩, by decide +kernel, by decide +kernel, by decide +kernel, by decide +kernel, by decide +kernel, by decide +kernel, by decide +kernel⟩
theorem kz_r41 : kz_okR 41 (0, 1592, 198, 201, 69, 132, 266) := ⟨by decide +kernel, ⟨by decide +kernel, by decide +kernel, by decide +kernel, by decide +kernel, by decide +kernel, by decide +kernel, by decide +kernel, by decide +kernel⟩, by decide +kernel, by decide +kernel, by decide +kernel, by decide +kernel, by decide +kernel, by decide +kernel, by decide +kernel⟩
theorem kz_r42 : kz_okR 42 (0, 1605, 202, 205, 56, 133, 267) := ⟨by decide +kernel, ⟨by decide +kernel, by decide +kernel, by decide +kernel, by decide +kernel, by decide +kernel, by decide +kernel, by decide +kernel, by decide +kernel⟩, by decide +kernel, by decide +kernel, by decide +kernel, by decide +kernel, by decide +kernel, by decide +kernel, by decide +kernel⟩
theorem kz_r43 : kz_okR 43 (0, 1618, 206, 209, 43, 134, 268) := ⟨by decide +kernel, ⟨by decide +kernel, by decide +kernel, by decide +kernel, by decide +kernel, by decide +kernel, by decide +kernel, by decide +kernel, by decide +kernel⟩, by decide +kernel, by decide +kernel, by decide +kernel, by decide +kernel, by decide +kernel, by decide +kernel, by decide +kernel⟩
theorem kz_r44 : kz_okR 44 (0, 1631, 210, 213, 30, 135, 269) := ⟨by decide +kernel, ⟨by decide +kernel, by decide +kernel, by decide +kernel, by decide +kernel, by decide +kernel, by decide +kernel, by decide +kernel, by decide +kernel⟩, by decide +kernel, by decide +kernel, by decide +kernel, by decide +kernel, by decide +kernel, by decide +kernel, by decide +kernel⟩
theorem kz_r45 : kz_okR 45 (1, 1644, 214, 217, 5, 136, 270) := ⟨by decide +kernel, ⟨by decide +kernel, by decide +kernel, by decide +kernel, by decide +kernel, by decide +kernel, by decide +kernel, by decide +kernel, by decide +kernel⟩, by decide +kernel, by decide +kernel, by decide +kernel, by decide +kernel, by decide +kernel, by decide +kernel, by decide +kernel⟩
theorem kz_okT {v : Nat} {t : kz_Row} (h : kz_Tb[v]? = some (some t)) : kz_okR v t := by
  have hv : v < 46 := (List.getElem?_eq_some_iff.mp h).1
  match v, h with
  | 0, h => cases h; exact kz_r0
  | 1, h => cases h; exact kz_r1
  | 2, h => cases h; exact kz_r2
  | 3, h => cases h; exact kz_r3
  | 4, h => cases h
  | 5, h => cases h; exact kz_r5
  | 6, h => cases h; exact kz_r6
  | 7, h => cases h; exact kz_r7
  | 8, h => cases h; exact kz_r8
  | 9, h => cases h; exact kz_r9
  | 10, h => cases h; exact kz_r10
  | 11, h => cases h; exact kz_r11
  | 12, h => cases h; exact kz_r12
  | 13, h => cases h; exact kz_r13
  | 14, h => cases h; exact kz_r14
  | 15, h => cases h; exact kz_r15
  | 16, h => cases h; exact kz_r16
  | 17, h => cases h; exact kz_r17
  | 18, h => cases h; exact kz_r18
  | 19, h => cases h
  | 20, h => cases h; exact kz_r20
  | 21, h => cases h; exact kz_r21
  | 22, h => cases h; exact kz_r22
  | 23, h => cases h; exact kz_r23
  | 24, h => cases h; exact kz_r24
  | 25, h => cases h; exact kz_r25
  | 26, h => cases h; exact kz_r26
  | 27, h => cases h; exact kz_r27
  | 28, h => cases h; exact kz_r28
  | 29, h => cases h; exact kz_r29
  | 30, h => cases h; exact kz_r30
  | 31, h => cases h; exact kz_r31
  | 32, h => cases h; exact kz_r32
  | 33, h => cases h; exact kz_r33
  | 34, h => cases h; exact kz_r34
  | 35, h => cases h; exact kz_r35
  | 36, h => cases h; exact kz_r36
  | 37, h => cases h; exact kz_r37
  | 38, h => cases h; exact kz_r38
  | 39, h => cases h; exact kz_r39
  | 40, h => cases h; exact kz_r40
  | 41, h => cases h; exact kz_r41
  | 42, h => cases h; exact kz_r42
  | 43, h => cases h; exact kz_r43
  | 44, h => cases h; exact kz_r44
  | 45, h => cases h; exact kz_r45
  | v + 46, _ => omega

theorem kz_d890 : decode code 890 = .ok (.aload_n 1, 1) := by decide +kernel
theorem kz_d891 : kz_ar 891 1 ∧ kz_ar 897 2 ∧ kz_ar 907 3 ∧ kz_ar 923 1 ∧ kz_ar 929 2 ∧ kz_ar 939 3 := ⟨by decide +kernel, by decide +kernel, by decide +kernel, by decide +kernel, by decide +kernel, by decide +kernel⟩
theorem kz_d903 : decode code 903 = .ok (.i2l, 1) := by decide +kernel
theorem kz_d904 : decode code 904 = .ok (.bipush 32, 2) := by decide +kernel
theorem kz_d906 : decode code 906 = .ok (.lshl, 1) := by decide +kernel
theorem kz_d913 : decode code 913 = .ok (.i2l, 1) := by decide +kernel
theorem kz_d914 : decode code 914 = .ok (.ldc2_w 106, 3) := by decide +kernel
theorem kz_d917 : decode code 917 = .ok (.land, 1) := by decide +kernel
theorem kz_d918 : decode code 918 = .ok (.lor, 1) := by decide +kernel
theorem kz_d919 : decode code 919 = .ok (.invokevirtual 108, 3) := by decide +kernel
theorem kz_d922 : decode code 922 = .ok (.aload_n 2, 1) := by decide +kernel
theorem kz_d935 : decode code 935 = .ok (.i2l, 1) := by decide +kernel
theorem kz_d936 : decode code 936 = .ok (.bipush 32, 2) := by decide +kernel
theorem kz_d938 : decode code 938 = .ok (.lshl, 1) := by decide +kernel
theorem kz_d945 : decode code 945 = .ok (.i2l, 1) := by decide +kernel
theorem kz_d946 : decode code 946 = .ok (.ldc2_w 106, 3) := by decide +kernel
theorem kz_d949 : decode code 949 = .ok (.land, 1) := by decide +kernel
theorem kz_d950 : decode code 950 = .ok (.lor, 1) := by decide +kernel
theorem kz_d951 : decode code 951 = .ok (.invokevirtual 112, 3) := by decide +kernel
theorem kz_d954 : decode code 954 = .ok (.if_icmp .eq 715, 3) := by decide +kernel
theorem kz_c106 : Cond.constantLong R_law 106 4294967295 ∈ lw_tbl := List.mem_of_getElem? (i := 1820) (by decide +kernel)
theorem kz_q102 : kz_qd (kv_Ms.getD 102 kv_dM) 11 2 ∧ 4 ≤ (kv_Ms.getD 102 kv_dM).2.2.2.2.1 := by decide +kernel
theorem kz_q232 : kz_qd (kv_Ms.getD 232 kv_dM) 12 2 ∧ 4 ≤ (kv_Ms.getD 232 kv_dM).2.2.2.2.1 := by decide +kernel
theorem kz_g102 : kv_Ms[102]? = some (kv_Ms.getD 102 kv_dM) := by rw [List.getD_eq_getElem?_getD, List.getElem?_eq_getElem (by decide +kernel)]; rfl
theorem kz_g232 : kv_Ms[232]? = some (kv_Ms.getD 232 kv_dM) := by rw [List.getD_eq_getElem?_getD, List.getElem?_eq_getElem (by decide +kernel)]; rfl
section
variable {p : Program} {l : Launch} {e : Env} {s : State} {m : MethodId} {below : List Frame} {meth : Method} {c : Code} {H : Heap} {locs : List Loc} {cells slots : Nat} {Q : State → Prop}
variable {pc b L oa i : Nat} {xs : Nat → Int32} {ls : Array Slot} {rest : List Value} {D : va_G} {adK adM : Nat → Nat} {k : kv_K} {oc : ClassId}
/-- gusts: an int and a long made of two ints -/
theorem kz_gust {S : (Nat → Nat → Int32) → (Nat → Nat → Int32) → Prop} {zK zM : Nat → Nat → Int32} {zlK zlM : Nat → Nat → Int64} {out : Nat → Int64} (hSc : kz_cutS S) (F : kz_L p s m meth c b L xs adK adM oa D k oc)
    (hH : kz_H adK adM oa D k oc zK zM zlK zlM out H) (hS : va_S (fun q : Nat => s.heap.size ≤ q) s.heap H locs) (hl : lv_has ls 7 [(0, .ref b), (1, .ref (adK 0)), (2, .ref (adM 0)), (3, .ref oa), (4, .int (Int32.ofNat i))]) (hi : i + 3 < L)
    (run : ∀ (x : Int32) (V : Int64), kz_A2 S 102 232 [.int x, .long V] zK zM zlK zlM) (hC : cells + 2 ≤ 601024 ∧ slots + 2 ≤ 7293034)
    (kk : ∀ (zK' zM' : Nat → Nat → Int32) (zlK' zlM' : Nat → Nat → Int64) (H1 : Heap) (locs1 : List Loc), S zK' zM' → kz_H adK adM oa D k oc zK' zM' zlK' zlM' out H1 → va_S (fun q : Nat => s.heap.size ≤ q) s.heap H1 locs1 → W p l e room_1 s m #[Value.ref b] below meth c H1 locs1 (cells + 2) (slots + 2) Q (F0 m 1669 ls [])) :
    W p l e room_1 s m #[Value.ref b] below meth c H locs cells slots Q (F0 m 890 ls []) := by
  have F' := F
  obtain ⟨⟨hx, hb, hml, hown, hr, hlk⟩, hts, ⟨hX, hbl, hL⟩, hB, hg, hdd, hKo⟩ := F'
  obtain ⟨a1, a2, a3, a4, a5, a6⟩ := kz_d891
  have hcl := hts _ kz_c106
  obtain ⟨V, hV⟩ : ∃ V : Int64, V = ((xs (i + 2)).toInt64 <<< ((32 : Int32).toInt64 &&& 63)) ||| ((xs (i + 3)).toInt64 &&& 4294967295) := ⟨_, rfl⟩
  obtain ⟨r, e', zK', zl', zM', zlM', ⟨r1, r2⟩, hR, he1, he2⟩ := run (xs (i + 1)) V
  obtain ⟨⟨k1, k2, k3, k4, k5⟩, k6⟩ := kz_q102
  obtain ⟨⟨n1, n2, n3, n4, n5⟩, n6⟩ := kz_q232
  refine lv_aload_n hx hb kz_d890 rfl (lv_at hl 1 rfl) ?_
  refine kz_arg F hS a1 hl (by omega) ?_
  refine kz_arg F hS a2 hl (by omega) ?_
  refine lv_i2l hx hb kz_d903 rfl ?_
  refine lv_bipush (v := 32) hx hb kz_d904 (by decide) ?_
  refine lv_lshl hx hb kz_d906 rfl ?_
  refine kz_arg F hS a3 hl (by omega) ?_
  refine lv_i2l hx hb kz_d913 rfl ?_
  refine lv_ldc2 hx hb hown hcl kz_d914 ?_
  refine lv_land hx hb kz_d917 ?_
  refine lv_lor hx hb kz_d918 ?_
  rw [← hV]
  refine kz_callK (as' := [.int (xs (i + 1)), .long V]) F (kz_lk (j := 102) (by decide)) kz_g102 ⟨k2, k3, k4, k6⟩ k1 (fun f => rfl) hH hS r1 ⟨he1, he2⟩ hl.1 (by decide) kz_d919 ⟨by omega, by omega⟩ (fun H1 locs1 w1 w2 => ?_)
  refine lv_aload_n hx hb kz_d922 rfl (lv_at hl 2 rfl) ?_
  refine kz_arg F w2 a4 hl (by omega) ?_
  refine kz_arg F w2 a5 hl (by omega) ?_
  refine lv_i2l hx hb kz_d935 rfl ?_
  refine lv_bipush (v := 32) hx hb kz_d936 (by decide) ?_
  refine lv_lshl hx hb kz_d938 rfl ?_
  refine kz_arg F w2 a6 hl (by omega) ?_
  refine lv_i2l hx hb kz_d945 rfl ?_
  refine lv_ldc2 hx hb hown hcl kz_d946 ?_
  refine lv_land hx hb kz_d949 ?_
  refine lv_lor hx hb kz_d950 ?_
  rw [← hV]
  refine kz_callM (as' := [.int (xs (i + 1)), .long V]) F (kz_lk (j := 232) (by decide)) kz_g232 ⟨n2, n3, n4, n6⟩ n1 (fun f => rfl) w1 w2 r2 hl.1 (Nat.le_of_ble_eq_true rfl) kz_d951 ⟨by omega, by omega⟩ (fun H2 locs2 w3 w4 => ?_)
  refine lv_icmp_eq (tgt := 1669) hx hb kz_d954 (by decide) (fun h9 => ?_) (fun h9 => absurd rfl h9)
  exact kk _ _ _ _ H2 locs2 (hSc _ _ _ _ hR (fun c hc => if_pos hc) (fun c hc => if_pos hc)) w3 w4
end
