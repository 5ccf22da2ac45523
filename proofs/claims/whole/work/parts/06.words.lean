/-! the words of the tables by their places, and the check of every instruction; written by wip/gen/gen2.py -/
def zcn : List String := [RX0, RX1, RX2, RX3, RX4, RX5, RX6, RX7, RX8, RX9, RX10, RJ6, RJ9, RJ7]
def gT : List Cond := lw_tbl.filter goodWord
theorem gT_at {i : Nat} {w : Cond} (h : lw_tbl[i]? = some w ∧ goodWord w = true) : w ∈ gT := List.mem_filter.mpr ⟨List.mem_of_getElem? h.1, h.2⟩
def znm (y : Nat) : MethodName := match zmi[y]? with | some q => q.1 | none => ⟨"", "", ""⟩
def zby (y : Nat) : ByteArray := match zmi[y]? with | some q => q.2.1 | none => ⟨#[]⟩
def zret (y : Nat) : Option FieldType := match zmi[y]? with | some q => q.2.2.2.1 | none => none
def zrc (y : Nat) : Nat := match zmi[y]? with | some q => q.2.2.2.2.1 | none => 99
def zdp (y : Nat) : Nat := match zmi[y]? with | some q => q.2.2.2.2.2.1 | none => 0
def znp (y : Nat) : Nat := match zmi[y]? with | some q => q.2.2.2.2.2.2 | none => 0
def zowL : List Nat := [0, 0, 0, 0, 0, 0, 1, 2, 2, 2, 2, 3, 4, 4, 4, 4, 5, 5, 5, 5, 5, 6, 6, 6, 6, 7, 7, 7, 7, 8, 8, 9, 9, 9, 9, 9, 9, 10, 10, 10, 10, 10, 10, 10, 10, 10, 10, 10, 10, 10, 10, 10, 10, 10, 10, 10, 10, 11, 13, 1, 1, 2, 2, 3, 3, 3, 5, 5, 6, 6, 6, 7, 8, 8, 8, 8, 8, 8, 9, 9, 9, 9, 9, 9, 9, 9, 9, 9, 9, 10, 10, 10, 10, 10, 10, 10, 10, 10, 10, 10, 10, 10, 10, 10, 10, 10, 10, 10, 10, 10, 4, 4, 5, 5, 5, 5, 6, 6, 6, 8, 8, 8, 9, 9, 9, 9, 9, 9, 9, 9, 9, 9, 9, 9, 9, 9, 9, 9, 9, 10, 10, 10, 10, 10, 10, 10, 10, 10, 10, 10, 2, 2, 4, 5, 6, 8, 8, 8, 9, 9, 9, 9, 10, 10, 10, 10, 10, 10, 10, 10, 10, 10, 2, 2, 2, 2, 5, 9, 9, 9, 9, 9, 9, 10, 10, 10, 10, 10, 10, 10, 10, 9, 9, 9, 9, 9, 9, 10, 10, 10, 10, 10, 10, 10, 10, 10, 10, 10, 10, 10, 10, 10, 10, 10, 10, 10]
def zow (y : Nat) : Nat := zowL.getD y 99
def zcs (c : Nat) : vw_C := vwCl.getD c ("", fun _ => ("", "", "", false), 0)
def zFL : List (((Nat × Nat) × (Nat × Nat)) × Nat) := [(((5, 9), (5, 0)), 99), (((5, 15), (5, 1)), 100), (((9, 92), (5, 1)), 101), (((5, 19), (5, 2)), 102), (((5, 22), (5, 3)), 103), (((5, 25), (5, 4)), 104), (((9, 117), (5, 4)), 105), (((0, 27), (0, 0)), 124), (((6, 25), (0, 0)), 125), (((5, 41), (0, 0)), 126), (((9, 120), (0, 0)), 127), (((0, 31), (0, 1)), 128), (((9, 114), (0, 1)), 129), (((8, 71), (0, 1)), 130), (((5, 71), (0, 1)), 131), (((6, 57), (0, 1)), 132), (((2, 90), (0, 1)), 133), (((4, 67), (0, 1)), 134), (((2, 37), (0, 2)), 135), (((0, 34), (0, 2)), 136), (((5, 74), (0, 2)), 137), (((9, 123), (0, 2)), 138), (((7, 37), (0, 3)), 139), (((0, 37), (0, 3)), 140), (((5, 48), (0, 3)), 141), (((2, 102), (0, 3)), 142), (((8, 143), (0, 3)), 143), (((0, 40), (0, 4)), 144), (((5, 44), (0, 4)), 145), (((0, 9), (0, 5)), 146), (((6, 30), (0, 5)), 147), (((0, 15), (0, 6)), 148), (((7, 51), (0, 6)), 149), (((0, 18), (0, 7)), 150), (((7, 58), (0, 7)), 151), (((0, 21), (0, 8)), 152), (((2, 72), (0, 8)), 153), (((9, 195), (0, 8)), 154), (((0, 24), (0, 9)), 155), (((2, 111), (0, 9)), 156), (((9, 198), (0, 9)), 157), (((7, 33), (7, 0)), 185), (((6, 19), (7, 0)), 186), (((9, 126), (7, 0)), 187), (((2, 108), (7, 0)), 188), (((7, 42), (7, 1)), 189), (((9, 137), (7, 1)), 190), (((2, 105), (7, 1)), 191), (((8, 140), (7, 1)), 192), (((2, 42), (7, 2)), 193), (((7, 45), (7, 2)), 194), (((9, 144), (7, 2)), 195), (((7, 48), (7, 3)), 196), (((2, 56), (7, 3)), 197), (((9, 147), (7, 3)), 198), (((7, 9), (7, 4)), 199), (((6, 38), (7, 4)), 200), (((4, 46), (7, 4)), 201), (((9, 178), (7, 4)), 202), (((8, 130), (7, 4)), 203), (((7, 15), (7, 5)), 204), (((6, 60), (7, 5)), 205), (((9, 182), (7, 5)), 206), (((8, 108), (7, 5)), 207), (((7, 18), (7, 6)), 208), (((6, 41), (7, 6)), 209), (((2, 93), (7, 6)), 210), (((9, 189), (7, 6)), 211), (((8, 123), (7, 6)), 212), (((7, 21), (7, 7)), 213), (((2, 53), (7, 7)), 214), (((9, 205), (7, 7)), 215), (((7, 65), (7, 8)), 216), (((9, 156), (7, 8)), 217), (((7, 68), (7, 9)), 218), (((7, 24), (7, 10)), 219), (((7, 27), (7, 11)), 220), (((7, 30), (7, 12)), 221), (((6, 9), (6, 0)), 255), (((6, 15), (6, 1)), 256), (((2, 25), (2, 0)), 268), (((2, 29), (2, 1)), 269), (((2, 33), (2, 2)), 270), (((2, 9), (2, 3)), 271), (((2, 15), (2, 4)), 272), (((2, 18), (2, 5)), 273), (((9, 247), (2, 5)), 274), (((2, 22), (2, 6)), 275), (((9, 250), (2, 6)), 276), (((8, 40), (8, 0)), 298), (((8, 44), (8, 1)), 299), (((8, 48), (8, 2)), 300), (((8, 9), (8, 3)), 301), (((8, 15), (8, 4)), 302), (((8, 18), (8, 5)), 303), (((8, 21), (8, 6)), 304), (((8, 24), (8, 7)), 305), (((9, 268), (8, 7)), 306), (((8, 27), (8, 8)), 307), (((8, 31), (8, 9)), 308), (((8, 34), (8, 10)), 309), (((8, 37), (8, 11)), 310), (((4, 34), (4, 0)), 342), (((4, 38), (4, 1)), 343), (((4, 42), (4, 2)), 344), (((4, 9), (4, 3)), 345), (((4, 15), (4, 4)), 346), (((4, 18), (4, 5)), 347), (((9, 159), (4, 5)), 348), (((4, 22), (4, 6)), 349), (((4, 25), (4, 7)), 350), (((4, 28), (4, 8)), 351), (((9, 162), (4, 8)), 352), (((4, 31), (4, 9)), 353), (((1, 11), (1, 0)), 384), (((1, 17), (1, 1)), 385), (((9, 165), (1, 1)), 386), (((1, 21), (1, 2)), 387), (((3, 11), (3, 0)), 403), (((3, 17), (3, 1)), 404), (((9, 328), (3, 1)), 405), (((3, 21), (3, 2)), 406), (((9, 12), (9, 0)), 414), (((9, 19), (9, 1)), 415), (((9, 23), (9, 2)), 416), (((9, 29), (9, 3)), 417), (((9, 38), (9, 4)), 418), (((9, 47), (9, 5)), 419), (((9, 54), (9, 6)), 420), (((9, 61), (9, 7)), 421), (((9, 68), (9, 8)), 422), (((9, 75), (9, 9)), 423), (((9, 79), (9, 10)), 424), (((10, 7), (10, 0)), 1018), (((10, 13), (10, 1)), 1019), (((10, 17), (10, 2)), 1020), (((10, 20), (10, 3)), 1021), (((10, 23), (10, 4)), 1022), (((10, 26), (10, 5)), 1023), (((10, 29), (10, 6)), 1024), (((10, 144), (10, 7)), 1025), (((10, 102), (10, 8)), 1026), (((10, 141), (10, 9)), 1027), (((10, 109), (10, 10)), 1028), (((10, 147), (10, 11)), 1029), (((10, 112), (10, 12)), 1030), (((10, 150), (10, 13)), 1031), (((10, 119), (10, 14)), 1032), (((10, 115), (10, 15)), 1033), (((10, 32), (10, 16)), 1034), (((10, 73), (10, 17)), 1035), (((10, 77), (10, 18)), 1036), (((10, 87), (10, 19)), 1037), (((10, 80), (10, 20)), 1038), (((10, 35), (10, 21)), 1039), (((10, 159), (10, 22)), 1040), (((10, 39), (10, 23)), 1041), (((10, 42), (10, 24)), 1042), (((10, 45), (10, 25)), 1043), (((10, 48), (10, 26)), 1044), (((10, 51), (10, 27)), 1045), (((10, 54), (10, 28)), 1046), (((10, 57), (10, 29)), 1047), (((10, 153), (10, 30)), 1048), (((10, 60), (10, 31)), 1049), (((10, 63), (10, 32)), 1050), (((10, 156), (10, 33)), 1051)]
def zFw (q : (Nat × Nat) × (Nat × Nat)) : Cond := .fieldLink (zcn.getD q.1.1 "") q.1.2 (zcs q.2.1).1 ((zcs q.2.1).2.1 q.2.2).2.1 ((zcs q.2.1).2.1 q.2.2).2.2.1
theorem zFL_ok : ∀ q ∈ zFL, (lw_tbl[q.2]? = some (zFw q.1) ∧ goodWord (zFw q.1) = true) ∧ ((zcs q.1.2.1).2.1 q.1.2.2).1 = (zcs q.1.2.1).1 ∧ q.1.2.2 < (zcs q.1.2.1).2.2 := by decide +kernel
def zML : List (((Nat × Nat) × (Nat × Nat)) × Nat) := [(((9, 83), (35, 0)), 452), (((9, 88), (16, 2)), 456), (((9, 96), (176, 2)), 465), (((5, 28), (0, 2)), 469), (((5, 33), (19, 2)), 473), (((5, 37), (153, 2)), 477), (((5, 51), (17, 2)), 481), (((5, 55), (18, 2)), 485), (((5, 59), (112, 2)), 489), (((5, 77), (66, 2)), 493), (((5, 97), (20, 0)), 497), (((5, 81), (2, 2)), 504), (((5, 85), (67, 2)), 508), (((5, 62), (113, 2)), 512), (((5, 88), (3, 2)), 516), (((5, 65), (114, 2)), 520), (((5, 91), (4, 2)), 524), (((5, 68), (115, 2)), 528), (((5, 94), (5, 2)), 532), (((9, 100), (1, 2)), 536), (((9, 104), (71, 2)), 543), (((7, 59), (58, 0)), 548), (((9, 107), (12, 2)), 551), (((9, 110), (6, 2)), 555), (((9, 113), (11, 2)), 559), (((9, 129), (33, 2)), 571), (((9, 133), (116, 2)), 575), (((6, 63), (68, 2)), 579), (((6, 34), (21, 2)), 583), (((6, 44), (22, 0)), 587), (((6, 66), (23, 0)), 594), (((9, 140), (150, 2)), 597), (((2, 63), (116, 2)), 601), (((2, 68), (62, 2)), 602), (((2, 59), (36, 1)), 606), (((9, 150), (24, 2)), 609), (((9, 153), (7, 2)), 613), (((9, 168), (86, 2)), 621), (((9, 171), (21, 2)), 626), (((9, 174), (84, 2)), 631), (((9, 185), (68, 2)), 636), (((9, 192), (85, 2)), 641), (((9, 201), (36, 0)), 645), (((9, 208), (27, 2)), 650), (((9, 211), (87, 2)), 658), (((9, 214), (59, 2)), 662), (((1, 25), (25, 2)), 666), (((9, 218), (172, 2)), 671), (((2, 75), (21, 2)), 675), (((2, 78), (150, 2)), 676), (((2, 82), (8, 2)), 677), (((2, 47), (57, 0)), 683), (((2, 86), (26, 2)), 689), (((9, 221), (61, 2)), 695), (((9, 225), (57, 0)), 723), (((9, 230), (88, 2)), 728), (((9, 331), (34, 2)), 732), (((9, 233), (60, 2)), 745), (((9, 237), (173, 2)), 757), (((2, 118), (151, 2)), 761), (((2, 122), (9, 2)), 765), (((2, 126), (10, 2)), 769), (((9, 240), (174, 2)), 777), (((9, 243), (175, 2)), 785), (((9, 253), (138, 2)), 793), (((9, 256), (155, 2)), 797), (((8, 67), (116, 2)), 801), (((8, 58), (21, 2)), 802), (((9, 259), (119, 2)), 806), (((8, 52), (68, 2)), 810), (((9, 262), (156, 2)), 815), (((8, 76), (119, 2)), 820), (((9, 265), (157, 2)), 825), (((8, 79), (120, 2)), 829), (((8, 95), (58, 0)), 833), (((8, 82), (72, 2)), 834), (((8, 101), (23, 0)), 838), (((8, 91), (73, 2)), 840), (((8, 104), (29, 2)), 844), (((9, 271), (121, 2)), 852), (((8, 113), (74, 2)), 856), (((8, 126), (22, 0)), 860), (((8, 117), (75, 2)), 862), (((9, 274), (76, 2)), 870), (((8, 133), (36, 1)), 874), (((9, 277), (77, 2)), 876), (((9, 280), (30, 2)), 880), (((9, 283), (154, 2)), 888), (((6, 72), (118, 2)), 892), (((9, 286), (118, 2)), 897), (((9, 289), (70, 2)), 902), (((9, 292), (117, 2)), 910), (((9, 295), (28, 2)), 918), (((9, 302), (13, 2)), 933), (((9, 305), (110, 2)), 941), (((4, 51), (69, 2)), 945), (((9, 308), (152, 2)), 953), (((4, 57), (110, 2)), 957), (((4, 61), (57, 0)), 958), (((4, 72), (111, 2)), 959), (((4, 75), (58, 0)), 963), (((4, 81), (36, 1)), 964), (((9, 311), (14, 2)), 970), (((9, 314), (15, 2)), 978), (((9, 317), (64, 2)), 994), (((3, 30), (25, 2)), 998), (((9, 321), (63, 2)), 1003), (((3, 26), (36, 1)), 1007), (((9, 324), (65, 2)), 1008), (((10, 68), (37, 0)), 1127), (((10, 83), (43, 2)), 1136), (((10, 135), (183, 2)), 1140), (((10, 94), (44, 2)), 1144), (((10, 122), (162, 2)), 1148), (((10, 105), (139, 2)), 1152), (((10, 99), (90, 2)), 1156), (((10, 126), (163, 2)), 1163), (((10, 129), (164, 2)), 1167), (((10, 132), (165, 2)), 1171), (((10, 138), (45, 2)), 1175), (((10, 189), (184, 2)), 1187), (((10, 182), (166, 2)), 1191), (((10, 175), (94, 2)), 1195), (((10, 162), (47, 2)), 1199), (((10, 178), (140, 0)), 1203), (((10, 172), (95, 0)), 1206), (((10, 166), (38, 0)), 1209), (((10, 169), (39, 0)), 1212), (((10, 200), (198, 2)), 1215), (((10, 192), (96, 2)), 1219), (((10, 185), (42, 0)), 1223), (((10, 196), (41, 0)), 1226), (((10, 203), (97, 2)), 1229), (((10, 206), (48, 2)), 1233), (((10, 212), (91, 2)), 1247), (((10, 217), (92, 2)), 1256), (((10, 233), (101, 2)), 1269), (((10, 236), (100, 2)), 1274), (((10, 222), (49, 2)), 1278), (((10, 239), (199, 2)), 1282), (((10, 227), (50, 2)), 1287), (((10, 242), (102, 2)), 1291), (((10, 245), (144, 2)), 1307), (((10, 260), (203, 2)), 1328), (((10, 257), (51, 2)), 1332), (((10, 263), (204, 2)), 1348), (((10, 266), (205, 2)), 1364), (((10, 269), (52, 2)), 1368), (((10, 275), (206, 2)), 1376), (((10, 272), (40, 0)), 1380), (((10, 283), (207, 2)), 1392), (((10, 286), (104, 2)), 1396), (((10, 279), (53, 0)), 1400), (((10, 289), (170, 2)), 1407), (((10, 292), (93, 2)), 1415), (((10, 297), (105, 2)), 1428), (((10, 304), (171, 2)), 1454), (((10, 307), (189, 2)), 1462), (((10, 310), (190, 2)), 1463)]
def zMw (q : (Nat × Nat) × (Nat × Nat)) : Cond := if q.2.2 = 1 then .methodLinkNest (zcn.getD q.1.1 "") q.1.2 (znm q.2.1) RX9 else .methodLink (zcn.getD q.1.1 "") q.1.2 (znm q.2.1)
theorem zML_ok : ∀ q ∈ zML, lw_tbl[q.2]? = some (zMw q.1) ∧ (q.1.2.2 = 1 ∨ goodWord (zMw q.1) = true) := by decide +kernel
def zAL : List ((Nat × Nat) × Nat) := [((0, 44), 540), ((7, 52), 547), ((8, 85), 839)]
theorem zAL_ok : ∀ q ∈ zAL, lw_tbl[q.2]? = some (.methodLink (zcn.getD q.1.1 "") q.1.2 arraycopyName) ∧ goodWord (.methodLink (zcn.getD q.1.1 "") q.1.2 arraycopyName) = true := by decide +kernel
theorem zac1 : Cond.native arraycopyName ∈ gT := gT_at (i := 542) (by decide +kernel)
theorem zac2 : Cond.static arraycopyName ∈ gT := gT_at (i := 541) (by decide +kernel)
theorem zac3 : Cond.initialized "java/lang/System" ∈ gT := gT_at (i := 82) (by decide +kernel)
def zCL : List (((Nat × Nat) × Int32) × Nat) := [(((9, 87), (-1000000002)), 455), (((9, 95), (-1000000004)), 460), (((5, 101), nI 1000000), 500), (((9, 224), (-1000000003)), 625), (((9, 177), (-1000000001)), 635), (((2, 114), nI 999999), 681), (((11, 265), nI 1431655765), 686), (((11, 266), nI 858993459), 687), (((11, 267), nI 252645135), 688), (((9, 342), nI 1103515245), 736), (((9, 343), nI 2147483647), 737), (((9, 344), nI 65536), 738), (((8, 70), nI 1000000), 819), (((10, 72), (-1000000002)), 1130), (((10, 76), (-1000000004)), 1131), (((10, 98), nI 99999), 1162), (((10, 211), (-1000000003)), 1242), (((10, 216), (-1000000001)), 1251), (((10, 226), nI 999999), 1286), (((10, 256), nI 65536), 1339), (((10, 278), nI 99999999), 1387)]
theorem zCL_ok : ∀ q ∈ zCL, lw_tbl[q.2]? = some (.constant (zcn.getD q.1.1.1 "") q.1.1.2 q.1.2) ∧ goodWord (.constant (zcn.getD q.1.1.1 "") q.1.1.2 q.1.2) = true := by decide +kernel
def zDL : List (((Nat × Nat) × Int64) × Nat) := [(((9, 298), lN 1000000000), 927), (((9, 300), lN 100), 928), (((10, 66), lN 255), 1126), (((10, 90), lN 48), 1160), (((10, 92), lN 57), 1161), (((10, 209), lN 60), 1241), (((10, 220), lN 2), 1264), (((10, 231), lN 30), 1273), (((10, 248), lN 9), 1315), (((10, 250), lN 1103515245), 1336), (((10, 252), lN 12345), 1337), (((10, 254), lN 2147483648), 1338), (((10, 295), lN 12), 1427), (((10, 300), lN 100), 1444), (((10, 302), lN 1000000000), 1445), (((10, 313), lN 10), 1471)]
theorem zDL_ok : ∀ q ∈ zDL, lw_tbl[q.2]? = some (.constantLong (zcn.getD q.1.1.1 "") q.1.1.2 q.1.2) ∧ goodWord (.constantLong (zcn.getD q.1.1.1 "") q.1.1.2 q.1.2) = true := by decide +kernel
set_option maxRecDepth 20000 in
theorem zk0 : lw_tbl[472]? = some (.code yX0_clear cX0_clear 1 none) := rfl
set_option maxRecDepth 20000 in
theorem zk1 : lw_tbl[539]? = some (.code yX0_copyFrom cX0_copyFrom 2 none) := rfl
set_option maxRecDepth 20000 in
theorem zk2 : lw_tbl[507]? = some (.code yX0_addWeather cX0_addWeather 2 none) := rfl
set_option maxRecDepth 20000 in
theorem zk3 : lw_tbl[519]? = some (.code yX0_addGlass cX0_addGlass 3 none) := rfl
set_option maxRecDepth 20000 in
theorem zk4 : lw_tbl[527]? = some (.code yX0_addBoat cX0_addBoat 3 none) := rfl
set_option maxRecDepth 20000 in
theorem zk5 : lw_tbl[535]? = some (.code yX0_tellDrinks cX0_tellDrinks 2 none) := rfl
set_option maxRecDepth 20000 in
theorem zk6 : lw_tbl[558]? = some (.code yX1_forget cX1_forget 1 none) := rfl
set_option maxRecDepth 20000 in
theorem zk7 : lw_tbl[616]? = some (.code yX2_caughtInAll cX2_caughtInAll 3 (some .int)) := rfl
set_option maxRecDepth 20000 in
theorem zk8 : lw_tbl[680]? = some (.code yX2_sail cX2_sail 3 none) := rfl
set_option maxRecDepth 20000 in
theorem zk9 : lw_tbl[768]? = some (.code yX2_safeDays cX2_safeDays 5 (some .int)) := rfl
set_option maxRecDepth 20000 in
theorem zk10 : lw_tbl[772]? = some (.code yX2_haul cX2_haul 6 (some .int)) := rfl
set_option maxRecDepth 20000 in
theorem zk11 : lw_tbl[562]? = some (.code yX3_forget cX3_forget 1 none) := rfl
set_option maxRecDepth 20000 in
theorem zk12 : lw_tbl[554]? = some (.code yX4_clear cX4_clear 1 none) := rfl
set_option maxRecDepth 20000 in
theorem zk13 : lw_tbl[936]? = some (.code yX4_addTap cX4_addTap 3 (some .boolean)) := rfl
set_option maxRecDepth 20000 in
theorem zk14 : lw_tbl[973]? = some (.code yX4_addEntry cX4_addEntry 3 (some .boolean)) := rfl
set_option maxRecDepth 20000 in
theorem zk15 : lw_tbl[981]? = some (.code yX4_firstWrong cX4_firstWrong 2 (some .int)) := rfl
set_option maxRecDepth 20000 in
theorem zk16 : lw_tbl[459]? = some (.code yX5_add cX5_add 2 (some .boolean)) := rfl
set_option maxRecDepth 20000 in
theorem zk17 : lw_tbl[484]? = some (.code yX5_wordFault cX5_wordFault 3 (some .int)) := rfl
set_option maxRecDepth 20000 in
theorem zk18 : lw_tbl[488]? = some (.code yX5_fail cX5_fail 3 none) := rfl
set_option maxRecDepth 20000 in
theorem zk19 : lw_tbl[476]? = some (.code yX5_nextSign cX5_nextSign 1 (some .int)) := rfl
set_option maxRecDepth 20000 in
theorem zk20 : lw_tbl[499]? = some (.code yX5_isFigure cX5_isFigure 1 (some .boolean)) := rfl
set_option maxRecDepth 20000 in
theorem zk21 : lw_tbl[586]? = some (.code yX6_weatherAhead cX6_weatherAhead 3 (some .int)) := rfl
set_option maxRecDepth 20000 in
theorem zk22 : lw_tbl[589]? = some (.code yX6_clearReading cX6_clearReading 3 (some .int)) := rfl
set_option maxRecDepth 20000 in
theorem zk23 : lw_tbl[596]? = some (.code yX6_tellingOf cX6_tellingOf 2 (some .int)) := rfl
set_option maxRecDepth 20000 in
theorem zk24 : lw_tbl[612]? = some (.code yX6_gladSet cX6_gladSet 3 (some .int)) := rfl
set_option maxRecDepth 20000 in
theorem zk25 : lw_tbl[669]? = some (.code yX7_copyFrom cX7_copyFrom 2 none) := rfl
set_option maxRecDepth 20000 in
theorem zk26 : lw_tbl[692]? = some (.code yX7_addToLog cX7_addToLog 4 none) := rfl
set_option maxRecDepth 20000 in
theorem zk27 : lw_tbl[653]? = some (.code yX7_logEntry cX7_logEntry 4 (some .int)) := rfl
set_option maxRecDepth 20000 in
theorem zk28 : lw_tbl[921]? = some (.code yX7_rulesThatHold cX7_rulesThatHold 5 (some .int)) := rfl
set_option maxRecDepth 20000 in
theorem zk29 : lw_tbl[847]? = some (.code yX8_addWeight cX8_addWeight 4 none) := rfl
set_option maxRecDepth 20000 in
theorem zk30 : lw_tbl[883]? = some (.code yX8_daysToGive cX8_daysToGive 4 (some .int)) := rfl
set_option maxRecDepth 20000 in
theorem zk31 : lw_tbl[566]? = some (.code yX9_fault cX9_fault 1 (some .int)) := rfl
set_option maxRecDepth 20000 in
theorem zk32 : lw_tbl[989]? = some (.code yX9_seed cX9_seed 3 (some .int)) := rfl
set_option maxRecDepth 20000 in
theorem zk33 : lw_tbl[574]? = some (.code yX9_noCoast cX9_noCoast 1 (some .boolean)) := rfl
set_option maxRecDepth 20000 in
theorem zk34 : lw_tbl[735]? = some (.code yX9_draw cX9_draw 2 (some .int)) := rfl
set_option maxRecDepth 20000 in
theorem zk35 : lw_tbl[454]? = some (.code yX9_isOut cX9_isOut 3 (some .boolean)) := rfl
set_option maxRecDepth 20000 in
theorem zk36 : lw_tbl[608]? = some (.code yX9_hasBit cX9_hasBit 2 (some .boolean)) := rfl
set_option maxRecDepth 20000 in
theorem zk37 : lw_tbl[1129]? = some (.code yX10_in cX10_in 6 (some .boolean)) := rfl
set_option maxRecDepth 20000 in
theorem zk38 : lw_tbl[1211]? = some (.code yX10_least cX10_least 2 (some .int)) := rfl
set_option maxRecDepth 20000 in
theorem zk39 : lw_tbl[1214]? = some (.code yX10_most cX10_most 2 (some .int)) := rfl
set_option maxRecDepth 20000 in
theorem zk40 : lw_tbl[1382]? = some (.code yX10_apart cX10_apart 2 (some .int)) := rfl
set_option maxRecDepth 20000 in
theorem zk41 : lw_tbl[1228]? = some (.code yX10_one cX10_one 1 (some .int)) := rfl
set_option maxRecDepth 20000 in
theorem zk42 : lw_tbl[1225]? = some (.code yX10_has cX10_has 2 (some .boolean)) := rfl
set_option maxRecDepth 20000 in
theorem zk43 : lw_tbl[1139]? = some (.code yX10_here cX10_here 1 (some .int)) := rfl
set_option maxRecDepth 20000 in
theorem zk44 : lw_tbl[1147]? = some (.code yX10_want cX10_want 4 (some .boolean)) := rfl
set_option maxRecDepth 20000 in
theorem zk45 : lw_tbl[1178]? = some (.code yX10_take cX10_take 3 none) := rfl
set_option maxRecDepth 20000 in
theorem zk46 : lw_tbl[1182]? = some (.code yX10_fault cX10_fault 1 (some .int)) := rfl
set_option maxRecDepth 20000 in
theorem zk47 : lw_tbl[1202]? = some (.code yX10_weatherOf cX10_weatherOf 2 (some .int)) := rfl
set_option maxRecDepth 20000 in
theorem zk48 : lw_tbl[1236]? = some (.code yX10_caught cX10_caught 3 (some .int)) := rfl
set_option maxRecDepth 20000 in
theorem zk49 : lw_tbl[1281]? = some (.code yX10_copy cX10_copy 4 none) := rfl
set_option maxRecDepth 20000 in
theorem zk50 : lw_tbl[1290]? = some (.code yX10_log cX10_log 6 none) := rfl
set_option maxRecDepth 20000 in
theorem zk51 : lw_tbl[1335]? = some (.code yX10_draw cX10_draw 2 (some .int)) := rfl
set_option maxRecDepth 20000 in
theorem zk52 : lw_tbl[1371]? = some (.code yX10_caughtBy cX10_caughtBy 5 (some .int)) := rfl
set_option maxRecDepth 20000 in
theorem zk53 : lw_tbl[1402]? = some (.code yX10_weightOf cX10_weightOf 5 (some .int)) := rfl
set_option maxRecDepth 20000 in
theorem zk54 : lw_tbl[1475]? = some (.code yX10_judge cX10_judge 2 (some .int)) := rfl
set_option maxRecDepth 20000 in
theorem zk55 : lw_tbl[1479]? = some (.code yX10_tear cX10_tear 2 (some .int)) := rfl
set_option maxRecDepth 20000 in
theorem zk56 : lw_tbl[1483]? = some (.code yX10_seed cX10_seed 3 (some .int)) := rfl
set_option maxRecDepth 20000 in
theorem zk57 : lw_tbl[685]? = some (.code yJ6_bitCount_0f7a4 cJ6_bitCount_0f7a4 1 (some .int)) := rfl
set_option maxRecDepth 20000 in
theorem zk58 : lw_tbl[550]? = some (.code yJ7_fill_53178 cJ7_fill_53178 4 none) := rfl
set_option maxRecDepth 20000 in
theorem zk59 : lw_tbl[665]? = some (.code yX1_remember cX1_remember 2 none) := rfl
set_option maxRecDepth 20000 in
theorem zk60 : lw_tbl[748]? = some (.code yX1_takeBack cX1_takeBack 3 (some .boolean)) := rfl
set_option maxRecDepth 20000 in
theorem zk61 : lw_tbl[698]? = some (.code yX2_homeCount cX2_homeCount 1 (some .int)) := rfl
set_option maxRecDepth 20000 in
theorem zk62 : lw_tbl[605]? = some (.code yX2_isReady cX2_isReady 2 (some .boolean)) := rfl
set_option maxRecDepth 20000 in
theorem zk63 : lw_tbl[1006]? = some (.code yX3_has cX3_has 2 (some .boolean)) := rfl
set_option maxRecDepth 20000 in
theorem zk64 : lw_tbl[997]? = some (.code yX3_take cX3_take 4 none) := rfl
set_option maxRecDepth 20000 in
theorem zk65 : lw_tbl[1011]? = some (.code yX3_give cX3_give 3 none) := rfl
set_option maxRecDepth 20000 in
theorem zk66 : lw_tbl[496]? = some (.code yX5_readNumber cX5_readNumber 5 (some .int)) := rfl
set_option maxRecDepth 20000 in
theorem zk67 : lw_tbl[511]? = some (.code yX5_readEnd cX5_readEnd 1 none) := rfl
set_option maxRecDepth 20000 in
theorem zk68 : lw_tbl[582]? = some (.code yX6_reading cX6_reading 3 (some .int)) := rfl
set_option maxRecDepth 20000 in
theorem zk69 : lw_tbl[948]? = some (.code yX6_readingBy cX6_readingBy 3 (some .int)) := rfl
set_option maxRecDepth 20000 in
theorem zk70 : lw_tbl[905]? = some (.code yX6_firstFair cX6_firstFair 5 (some .int)) := rfl
set_option maxRecDepth 20000 in
theorem zk71 : lw_tbl[546]? = some (.code yX7_begin cX7_begin 2 none) := rfl
set_option maxRecDepth 20000 in
theorem zk72 : lw_tbl[837]? = some (.code yX8_triedError cX8_triedError 4 (some .int)) := rfl
set_option maxRecDepth 20000 in
theorem zk73 : lw_tbl[843]? = some (.code yX8_nextWeighing cX8_nextWeighing 2 (some .boolean)) := rfl
set_option maxRecDepth 20000 in
theorem zk74 : lw_tbl[859]? = some (.code yX8_countStepsToReads cX8_countStepsToReads 5 none) := rfl
set_option maxRecDepth 20000 in
theorem zk75 : lw_tbl[865]? = some (.code yX8_addToSums cX8_addToSums 7 none) := rfl
set_option maxRecDepth 20000 in
theorem zk76 : lw_tbl[873]? = some (.code yX8_drinksShort cX8_drinksShort 4 (some .int)) := rfl
set_option maxRecDepth 20000 in
theorem zk77 : lw_tbl[879]? = some (.code yX8_drinksOver cX8_drinksOver 4 (some .int)) := rfl
set_option maxRecDepth 20000 in
theorem zk78 : lw_tbl[451]? = some (.code yX9_feed cX9_feed 2 (some .int)) := rfl
set_option maxRecDepth 20000 in
theorem zk79 : lw_tbl[649]? = some (.code yX9_logged cX9_logged 3 (some .int)) := rfl
set_option maxRecDepth 20000 in
theorem zk80 : lw_tbl[917]? = some (.code yX9_holds cX9_holds 2 (some .int)) := rfl
set_option maxRecDepth 20000 in
theorem zk81 : lw_tbl[926]? = some (.code yX9_homeBy cX9_homeBy 6 (some .int)) := rfl
set_option maxRecDepth 20000 in
theorem zk82 : lw_tbl[977]? = some (.code yX9_judge cX9_judge 1 (some .int)) := rfl
set_option maxRecDepth 20000 in
theorem zk83 : lw_tbl[985]? = some (.code yX9_tear cX9_tear 2 (some .int)) := rfl
set_option maxRecDepth 20000 in
theorem zk84 : lw_tbl[634]? = some (.code yX9_noGlass cX9_noGlass 2 (some .boolean)) := rfl
set_option maxRecDepth 20000 in
theorem zk85 : lw_tbl[644]? = some (.code yX9_noBoat cX9_noBoat 2 (some .boolean)) := rfl
set_option maxRecDepth 20000 in
theorem zk86 : lw_tbl[624]? = some (.code yX9_refuseAhead cX9_refuseAhead 2 (some .int)) := rfl
set_option maxRecDepth 20000 in
theorem zk87 : lw_tbl[661]? = some (.code yX9_refuseDays cX9_refuseDays 2 (some .int)) := rfl
set_option maxRecDepth 20000 in
theorem zk88 : lw_tbl[731]? = some (.code yX9_moveByDraw cX9_moveByDraw 2 none) := rfl
set_option maxRecDepth 20000 in
theorem zk89 : lw_tbl[1125]? = some (.code yX10_feed cX10_feed 2 (some .int)) := rfl
set_option maxRecDepth 20000 in
theorem zk90 : lw_tbl[1159]? = some (.code yX10_takeNumber cX10_takeNumber 4 (some .int)) := rfl
set_option maxRecDepth 20000 in
theorem zk91 : lw_tbl[1250]? = some (.code yX10_isGlass cX10_isGlass 2 (some .boolean)) := rfl
set_option maxRecDepth 20000 in
theorem zk92 : lw_tbl[1259]? = some (.code yX10_isBoat cX10_isBoat 2 (some .boolean)) := rfl
set_option maxRecDepth 20000 in
theorem zk93 : lw_tbl[1418]? = some (.code yX10_isAll cX10_isAll 2 (some .boolean)) := rfl
set_option maxRecDepth 20000 in
theorem zk94 : lw_tbl[1198]? = some (.code yX10_tomorrow cX10_tomorrow 2 (some .int)) := rfl
set_option maxRecDepth 20000 in
theorem zk95 : lw_tbl[1208]? = some (.code yX10_held cX10_held 1 (some .int)) := rfl
set_option maxRecDepth 20000 in
theorem zk96 : lw_tbl[1222]? = some (.code yX10_sails cX10_sails 4 (some .boolean)) := rfl
set_option maxRecDepth 20000 in
theorem zk97 : lw_tbl[1232]? = some (.code yX10_gladOnes cX10_gladOnes 3 (some .int)) := rfl
set_option maxRecDepth 20000 in
theorem zk98 : lw_tbl[1240]? = some (.code yX10_weather cX10_weather 2 (some .int)) := rfl
set_option maxRecDepth 20000 in
theorem zk99 : lw_tbl[1263]? = some (.code yX10_logged cX10_logged 3 (some .int)) := rfl
set_option maxRecDepth 20000 in
theorem zk100 : lw_tbl[1277]? = some (.code yX10_remember cX10_remember 2 none) := rfl
set_option maxRecDepth 20000 in
theorem zk101 : lw_tbl[1272]? = some (.code yX10_refusedDays cX10_refusedDays 2 (some .int)) := rfl
set_option maxRecDepth 20000 in
theorem zk102 : lw_tbl[1294]? = some (.code yX10_homes cX10_homes 3 (some .int)) := rfl
set_option maxRecDepth 20000 in
theorem zk103 : lw_tbl[1343]? = some (.code yX10_undo cX10_undo 3 (some .int)) := rfl
set_option maxRecDepth 20000 in
theorem zk104 : lw_tbl[1399]? = some (.code yX10_errorBy cX10_errorBy 8 (some .int)) := rfl
set_option maxRecDepth 20000 in
theorem zk105 : lw_tbl[1431]? = some (.code yX10_isFair cX10_isFair 6 (some .boolean)) := rfl
set_option maxRecDepth 20000 in
theorem zk106 : lw_tbl[1439]? = some (.code yX10_holds cX10_holds 6 (some .int)) := rfl
set_option maxRecDepth 20000 in
theorem zk107 : lw_tbl[1443]? = some (.code yX10_homeBy cX10_homeBy 6 (some .int)) := rfl
set_option maxRecDepth 20000 in
theorem zk108 : lw_tbl[1487]? = some (.code yX10_keep cX10_keep 2 (some .int)) := rfl
set_option maxRecDepth 20000 in
theorem zk109 : lw_tbl[1491]? = some (.code yX10_goBack cX10_goBack 2 (some .int)) := rfl
set_option maxRecDepth 20000 in
theorem zk110 : lw_tbl[944]? = some (.code yX4_fitting cX4_fitting 4 (some .int)) := rfl
set_option maxRecDepth 20000 in
theorem zk111 : lw_tbl[962]? = some (.code yX4_greatestPart cX4_greatestPart 6 (some .int)) := rfl
set_option maxRecDepth 20000 in
theorem zk112 : lw_tbl[492]? = some (.code yX5_readWeathers cX5_readWeathers 4 none) := rfl
set_option maxRecDepth 20000 in
theorem zk113 : lw_tbl[515]? = some (.code yX5_readGlass cX5_readGlass 4 none) := rfl
set_option maxRecDepth 20000 in
theorem zk114 : lw_tbl[523]? = some (.code yX5_readBoat cX5_readBoat 4 none) := rfl
set_option maxRecDepth 20000 in
theorem zk115 : lw_tbl[531]? = some (.code yX5_readDrinks cX5_readDrinks 3 none) := rfl
set_option maxRecDepth 20000 in
theorem zk116 : lw_tbl[578]? = some (.code yX6_telling cX6_telling 5 (some .int)) := rfl
set_option maxRecDepth 20000 in
theorem zk117 : lw_tbl[913]? = some (.code yX6_falseSet cX6_falseSet 4 (some .int)) := rfl
set_option maxRecDepth 20000 in
theorem zk118 : lw_tbl[895]? = some (.code yX6_apart cX6_apart 3 (some .int)) := rfl
set_option maxRecDepth 20000 in
theorem zk119 : lw_tbl[809]? = some (.code yX8_glassError cX8_glassError 4 (some .int)) := rfl
set_option maxRecDepth 20000 in
theorem zk120 : lw_tbl[832]? = some (.code yX8_startWeighing cX8_startWeighing 3 none) := rfl
set_option maxRecDepth 20000 in
theorem zk121 : lw_tbl[855]? = some (.code yX8_fewestSteps cX8_fewestSteps 5 (some .int)) := rfl
set_option maxRecDepth 20000 in
theorem zk122 : lw_tbl[620]? = some (.code yX9_weather cX9_weather 3 (some .int)) := rfl
set_option maxRecDepth 20000 in
theorem zk123 : lw_tbl[630]? = some (.code yX9_glass cX9_glass 3 (some .int)) := rfl
set_option maxRecDepth 20000 in
theorem zk124 : lw_tbl[640]? = some (.code yX9_boat cX9_boat 3 (some .int)) := rfl
set_option maxRecDepth 20000 in
theorem zk125 : lw_tbl[702]? = some (.code yX9_drink cX9_drink 2 (some .int)) := rfl
set_option maxRecDepth 20000 in
theorem zk126 : lw_tbl[706]? = some (.code yX9_keepFrom cX9_keepFrom 2 (some .int)) := rfl
set_option maxRecDepth 20000 in
theorem zk127 : lw_tbl[710]? = some (.code yX9_glad cX9_glad 4 (some .int)) := rfl
set_option maxRecDepth 20000 in
theorem zk128 : lw_tbl[714]? = some (.code yX9_weigh cX9_weigh 4 (some .int)) := rfl
set_option maxRecDepth 20000 in
theorem zk129 : lw_tbl[718]? = some (.code yX9_hold cX9_hold 4 (some .int)) := rfl
set_option maxRecDepth 20000 in
theorem zk130 : lw_tbl[722]? = some (.code yX9_find cX9_find 2 (some .int)) := rfl
set_option maxRecDepth 20000 in
theorem zk131 : lw_tbl[744]? = some (.code yX9_undo cX9_undo 2 (some .int)) := rfl
set_option maxRecDepth 20000 in
theorem zk132 : lw_tbl[869]? = some (.code yX9_allTrue cX9_allTrue 3 (some .int)) := rfl
set_option maxRecDepth 20000 in
theorem zk133 : lw_tbl[901]? = some (.code yX9_fair cX9_fair 3 (some .int)) := rfl
set_option maxRecDepth 20000 in
theorem zk134 : lw_tbl[932]? = some (.code yX9_tap cX9_tap 3 (some .int)) := rfl
set_option maxRecDepth 20000 in
theorem zk135 : lw_tbl[969]? = some (.code yX9_write cX9_write 3 (some .int)) := rfl
set_option maxRecDepth 20000 in
theorem zk136 : lw_tbl[993]? = some (.code yX9_keep cX9_keep 2 (some .int)) := rfl
set_option maxRecDepth 20000 in
theorem zk137 : lw_tbl[1002]? = some (.code yX9_goBack cX9_goBack 2 (some .int)) := rfl
set_option maxRecDepth 20000 in
theorem zk138 : lw_tbl[796]? = some (.code yX9_refuseGlassOrRow cX9_refuseGlassOrRow 2 (some .int)) := rfl
set_option maxRecDepth 20000 in
theorem zk139 : lw_tbl[1155]? = some (.code yX10_takeIn cX10_takeIn 5 (some .int)) := rfl
set_option maxRecDepth 20000 in
theorem zk140 : lw_tbl[1205]? = some (.code yX10_reading cX10_reading 3 (some .int)) := rfl
set_option maxRecDepth 20000 in
theorem zk141 : lw_tbl[1255]? = some (.code yX10_boat cX10_boat 3 (some .int)) := rfl
set_option maxRecDepth 20000 in
theorem zk142 : lw_tbl[1298]? = some (.code yX10_drink cX10_drink 2 (some .int)) := rfl
set_option maxRecDepth 20000 in
theorem zk143 : lw_tbl[1302]? = some (.code yX10_keepFrom cX10_keepFrom 2 (some .int)) := rfl
set_option maxRecDepth 20000 in
theorem zk144 : lw_tbl[1310]? = some (.code yX10_changed cX10_changed 4 (some .int)) := rfl
set_option maxRecDepth 20000 in
theorem zk145 : lw_tbl[1323]? = some (.code yX10_find cX10_find 2 (some .int)) := rfl
set_option maxRecDepth 20000 in
theorem zk146 : lw_tbl[1414]? = some (.code yX10_allTrue cX10_allTrue 6 (some .int)) := rfl
set_option maxRecDepth 20000 in
theorem zk147 : lw_tbl[1426]? = some (.code yX10_fair cX10_fair 4 (some .int)) := rfl
set_option maxRecDepth 20000 in
theorem zk148 : lw_tbl[1449]? = some (.code yX10_tap cX10_tap 3 (some .int)) := rfl
set_option maxRecDepth 20000 in
theorem zk149 : lw_tbl[1470]? = some (.code yX10_write cX10_write 3 (some .int)) := rfl
set_option maxRecDepth 20000 in
theorem zk150 : lw_tbl[600]? = some (.code yX2_sailing cX2_sailing 4 (some .int)) := rfl
set_option maxRecDepth 20000 in
theorem zk151 : lw_tbl[764]? = some (.code yX2_lookAhead cX2_lookAhead 3 none) := rfl
set_option maxRecDepth 20000 in
theorem zk152 : lw_tbl[956]? = some (.code yX4_bestToTap cX4_bestToTap 6 (some .int)) := rfl
set_option maxRecDepth 20000 in
theorem zk153 : lw_tbl[480]? = some (.code yX5_readClause cX5_readClause 4 none) := rfl
set_option maxRecDepth 20000 in
theorem zk154 : lw_tbl[891]? = some (.code yX6_mostUnlike cX6_mostUnlike 6 (some .int)) := rfl
set_option maxRecDepth 20000 in
theorem zk155 : lw_tbl[800]? = some (.code yX8_rowError cX8_rowError 3 (some .int)) := rfl
set_option maxRecDepth 20000 in
theorem zk156 : lw_tbl[818]? = some (.code yX8_glassOfLeastError cX8_glassOfLeastError 5 (some .int)) := rfl
set_option maxRecDepth 20000 in
theorem zk157 : lw_tbl[828]? = some (.code yX8_weighBest cX8_weighBest 5 (some .int)) := rfl
set_option maxRecDepth 20000 in
theorem zk158 : lw_tbl[752]? = some (.code yX9_tells cX9_tells 3 (some .int)) := rfl
set_option maxRecDepth 20000 in
theorem zk159 : lw_tbl[851]? = some (.code yX9_steps cX9_steps 2 (some .int)) := rfl
set_option maxRecDepth 20000 in
theorem zk160 : lw_tbl[909]? = some (.code yX9_falseOnes cX9_falseOnes 1 (some .int)) := rfl
set_option maxRecDepth 20000 in
theorem zk161 : lw_tbl[940]? = some (.code yX9_could cX9_could 1 (some .int)) := rfl
set_option maxRecDepth 20000 in
theorem zk162 : lw_tbl[1151]? = some (.code yX10_takeWeather cX10_takeWeather 3 none) := rfl
set_option maxRecDepth 20000 in
theorem zk163 : lw_tbl[1166]? = some (.code yX10_takeGlass cX10_takeGlass 2 none) := rfl
set_option maxRecDepth 20000 in
theorem zk164 : lw_tbl[1170]? = some (.code yX10_takeBoat cX10_takeBoat 2 none) := rfl
set_option maxRecDepth 20000 in
theorem zk165 : lw_tbl[1174]? = some (.code yX10_takeDrinks cX10_takeDrinks 2 none) := rfl
set_option maxRecDepth 20000 in
theorem zk166 : lw_tbl[1194]? = some (.code yX10_reads cX10_reads 3 (some .int)) := rfl
set_option maxRecDepth 20000 in
theorem zk167 : lw_tbl[1306]? = some (.code yX10_glad cX10_glad 3 (some .int)) := rfl
set_option maxRecDepth 20000 in
theorem zk168 : lw_tbl[1314]? = some (.code yX10_weigh cX10_weigh 3 (some .int)) := rfl
set_option maxRecDepth 20000 in
theorem zk169 : lw_tbl[1319]? = some (.code yX10_hold cX10_hold 5 (some .int)) := rfl
set_option maxRecDepth 20000 in
theorem zk170 : lw_tbl[1410]? = some (.code yX10_layGlass cX10_layGlass 5 none) := rfl
set_option maxRecDepth 20000 in
theorem zk171 : lw_tbl[1457]? = some (.code yX10_wouldRead cX10_wouldRead 3 (some .int)) := rfl
set_option maxRecDepth 20000 in
theorem zk172 : lw_tbl[674]? = some (.code yX2_passDay cX2_passDay 5 none) := rfl
set_option maxRecDepth 20000 in
theorem zk173 : lw_tbl[760]? = some (.code yX2_catchWithin cX2_catchWithin 4 (some .int)) := rfl
set_option maxRecDepth 20000 in
theorem zk174 : lw_tbl[780]? = some (.code yX2_lostWithin cX2_lostWithin 4 (some .int)) := rfl
set_option maxRecDepth 20000 in
theorem zk175 : lw_tbl[788]? = some (.code yX2_tryLimits cX2_tryLimits 5 none) := rfl
set_option maxRecDepth 20000 in
theorem zk176 : lw_tbl[468]? = some (.code yX5_read cX5_read 3 (some .int)) := rfl
set_option maxRecDepth 20000 in
theorem zk177 : lw_tbl[570]? = some (.code yX9_told cX9_told 2 (some .int)) := rfl
set_option maxRecDepth 20000 in
theorem zk178 : lw_tbl[792]? = some (.code yX9_error cX9_error 3 (some .int)) := rfl
set_option maxRecDepth 20000 in
theorem zk179 : lw_tbl[814]? = some (.code yX9_truest cX9_truest 3 (some .int)) := rfl
set_option maxRecDepth 20000 in
theorem zk180 : lw_tbl[824]? = some (.code yX9_bestWeights cX9_bestWeights 4 (some .int)) := rfl
set_option maxRecDepth 20000 in
theorem zk181 : lw_tbl[887]? = some (.code yX9_differ cX9_differ 3 (some .int)) := rfl
set_option maxRecDepth 20000 in
theorem zk182 : lw_tbl[952]? = some (.code yX9_tapNext cX9_tapNext 1 (some .int)) := rfl
set_option maxRecDepth 20000 in
theorem zk183 : lw_tbl[1143]? = some (.code yX10_takeClause cX10_takeClause 4 none) := rfl
set_option maxRecDepth 20000 in
theorem zk184 : lw_tbl[1190]? = some (.code yX10_rowTells cX10_rowTells 5 (some .int)) := rfl
set_option maxRecDepth 20000 in
theorem zk185 : lw_tbl[1246]? = some (.code yX10_glass cX10_glass 3 (some .int)) := rfl
set_option maxRecDepth 20000 in
theorem zk186 : lw_tbl[1406]? = some (.code yX10_steps cX10_steps 5 (some .int)) := rfl
set_option maxRecDepth 20000 in
theorem zk187 : lw_tbl[1422]? = some (.code yX10_differ cX10_differ 7 (some .int)) := rfl
set_option maxRecDepth 20000 in
theorem zk188 : lw_tbl[1435]? = some (.code yX10_falseOnes cX10_falseOnes 3 (some .int)) := rfl
set_option maxRecDepth 20000 in
theorem zk189 : lw_tbl[1453]? = some (.code yX10_could cX10_could 5 (some .int)) := rfl
set_option maxRecDepth 20000 in
theorem zk190 : lw_tbl[1466]? = some (.code yX10_greatestPart cX10_greatestPart 7 (some .int)) := rfl
set_option maxRecDepth 20000 in
theorem zk191 : lw_tbl[464]? = some (.code yX9_coast cX9_coast 2 (some .int)) := rfl
set_option maxRecDepth 20000 in
theorem zk192 : lw_tbl[657]? = some (.code yX9_day cX9_day 4 (some .int)) := rfl
set_option maxRecDepth 20000 in
theorem zk193 : lw_tbl[727]? = some (.code yX9_drift cX9_drift 4 (some .int)) := rfl
set_option maxRecDepth 20000 in
theorem zk194 : lw_tbl[756]? = some (.code yX9_catches cX9_catches 3 (some .int)) := rfl
set_option maxRecDepth 20000 in
theorem zk195 : lw_tbl[776]? = some (.code yX9_loses cX9_loses 2 (some .int)) := rfl
set_option maxRecDepth 20000 in
theorem zk196 : lw_tbl[784]? = some (.code yX9_bestLimit cX9_bestLimit 3 (some .int)) := rfl
set_option maxRecDepth 20000 in
theorem zk197 : lw_tbl[1135]? = some (.code yX10_coast cX10_coast 1 (some .int)) := rfl
set_option maxRecDepth 20000 in
theorem zk198 : lw_tbl[1218]? = some (.code yX10_sailing cX10_sailing 4 (some .int)) := rfl
set_option maxRecDepth 20000 in
theorem zk199 : lw_tbl[1285]? = some (.code yX10_dayIn cX10_dayIn 7 none) := rfl
set_option maxRecDepth 20000 in
theorem zk200 : lw_tbl[1461]? = some (.code yX10_tapNext cX10_tapNext 6 (some .int)) := rfl
set_option maxRecDepth 20000 in
theorem zk201 : lw_tbl[1186]? = some (.code yX10_told cX10_told 2 (some .int)) := rfl
set_option maxRecDepth 20000 in
theorem zk202 : lw_tbl[1268]? = some (.code yX10_day cX10_day 4 (some .int)) := rfl
set_option maxRecDepth 20000 in
theorem zk203 : lw_tbl[1331]? = some (.code yX10_dayByDraws cX10_dayByDraws 3 none) := rfl
set_option maxRecDepth 20000 in
theorem zk204 : lw_tbl[1351]? = some (.code yX10_goOn cX10_goOn 3 none) := rfl
set_option maxRecDepth 20000 in
theorem zk205 : lw_tbl[1367]? = some (.code yX10_layDays cX10_layDays 3 none) := rfl
set_option maxRecDepth 20000 in
theorem zk206 : lw_tbl[1379]? = some (.code yX10_errorOf cX10_errorOf 5 (some .int)) := rfl
set_option maxRecDepth 20000 in
theorem zk207 : lw_tbl[1395]? = some (.code yX10_layReadings cX10_layReadings 3 none) := rfl
set_option maxRecDepth 20000 in
theorem zk208 : lw_tbl[1327]? = some (.code yX10_drift cX10_drift 4 (some .int)) := rfl
set_option maxRecDepth 20000 in
theorem zk209 : lw_tbl[1347]? = some (.code yX10_tells cX10_tells 2 (some .int)) := rfl
set_option maxRecDepth 20000 in
theorem zk210 : lw_tbl[1355]? = some (.code yX10_catches cX10_catches 3 (some .int)) := rfl
set_option maxRecDepth 20000 in
theorem zk211 : lw_tbl[1359]? = some (.code yX10_loses cX10_loses 2 (some .int)) := rfl
set_option maxRecDepth 20000 in
theorem zk212 : lw_tbl[1363]? = some (.code yX10_bestLimit cX10_bestLimit 7 (some .int)) := rfl
set_option maxRecDepth 20000 in
theorem zk213 : lw_tbl[1375]? = some (.code yX10_error cX10_error 2 (some .int)) := rfl
set_option maxRecDepth 20000 in
theorem zk214 : lw_tbl[1386]? = some (.code yX10_truest cX10_truest 6 (some .int)) := rfl
set_option maxRecDepth 20000 in
theorem zk215 : lw_tbl[1391]? = some (.code yX10_bestWeights cX10_bestWeights 7 (some .int)) := rfl
def zmi0 : List zI := [(yX0_clear, cX0_clear, 1, none, 0, 1, 0), (yX0_copyFrom, cX0_copyFrom, 2, none, 0, 1, 1), (yX0_addWeather, cX0_addWeather, 2, none, 0, 1, 1), (yX0_addGlass, cX0_addGlass, 3, none, 0, 1, 2), (yX0_addBoat, cX0_addBoat, 3, none, 0, 1, 2), (yX0_tellDrinks, cX0_tellDrinks, 2, none, 0, 1, 1), (yX1_forget, cX1_forget, 1, none, 1, 1, 0), (yX2_caughtInAll, cX2_caughtInAll, 3, (some .int), 2, 1, 0), (yX2_sail, cX2_sail, 3, none, 2, 1, 2), (yX2_safeDays, cX2_safeDays, 5, (some .int), 2, 1, 3), (yX2_haul, cX2_haul, 6, (some .int), 2, 1, 3), (yX3_forget, cX3_forget, 1, none, 3, 1, 0), (yX4_clear, cX4_clear, 1, none, 4, 1, 0), (yX4_addTap, cX4_addTap, 3, (some .boolean), 4, 1, 2), (yX4_addEntry, cX4_addEntry, 3, (some .boolean), 4, 1, 2), (yX4_firstWrong, cX4_firstWrong, 2, (some .int), 4, 1, 0), (yX5_add, cX5_add, 2, (some .boolean), 5, 1, 1), (yX5_wordFault, cX5_wordFault, 3, (some .int), 5, 1, 2), (yX5_fail, cX5_fail, 3, none, 5, 1, 2), (yX5_nextSign, cX5_nextSign, 1, (some .int), 5, 1, 0), (yX5_isFigure, cX5_isFigure, 1, (some .boolean), 99, 1, 1), (yX6_weatherAhead, cX6_weatherAhead, 3, (some .int), 6, 1, 1), (yX6_clearReading, cX6_clearReading, 3, (some .int), 99, 1, 2), (yX6_tellingOf, cX6_tellingOf, 2, (some .int), 99, 1, 2)]
theorem zmi0_ok : ∀ q ∈ zmi0, Cond.code q.1 q.2.1 q.2.2.1 q.2.2.2.1 ∈ gT := List.forall_mem_cons.mpr ⟨gT_at ⟨zk0, rfl⟩, List.forall_mem_cons.mpr ⟨gT_at ⟨zk1, rfl⟩, List.forall_mem_cons.mpr ⟨gT_at ⟨zk2, rfl⟩, List.forall_mem_cons.mpr ⟨gT_at ⟨zk3, rfl⟩, List.forall_mem_cons.mpr ⟨gT_at ⟨zk4, rfl⟩, List.forall_mem_cons.mpr ⟨gT_at ⟨zk5, rfl⟩, List.forall_mem_cons.mpr ⟨gT_at ⟨zk6, rfl⟩, List.forall_mem_cons.mpr ⟨gT_at ⟨zk7, rfl⟩, List.forall_mem_cons.mpr ⟨gT_at ⟨zk8, rfl⟩, List.forall_mem_cons.mpr ⟨gT_at ⟨zk9, rfl⟩, List.forall_mem_cons.mpr ⟨gT_at ⟨zk10, rfl⟩, List.forall_mem_cons.mpr ⟨gT_at ⟨zk11, rfl⟩, List.forall_mem_cons.mpr ⟨gT_at ⟨zk12, rfl⟩, List.forall_mem_cons.mpr ⟨gT_at ⟨zk13, rfl⟩, List.forall_mem_cons.mpr ⟨gT_at ⟨zk14, rfl⟩, List.forall_mem_cons.mpr ⟨gT_at ⟨zk15, rfl⟩, List.forall_mem_cons.mpr ⟨gT_at ⟨zk16, rfl⟩, List.forall_mem_cons.mpr ⟨gT_at ⟨zk17, rfl⟩, List.forall_mem_cons.mpr ⟨gT_at ⟨zk18, rfl⟩, List.forall_mem_cons.mpr ⟨gT_at ⟨zk19, rfl⟩, List.forall_mem_cons.mpr ⟨gT_at ⟨zk20, rfl⟩, List.forall_mem_cons.mpr ⟨gT_at ⟨zk21, rfl⟩, List.forall_mem_cons.mpr ⟨gT_at ⟨zk22, rfl⟩, List.forall_mem_cons.mpr ⟨gT_at ⟨zk23, rfl⟩, fun _ h => absurd h List.not_mem_nil⟩⟩⟩⟩⟩⟩⟩⟩⟩⟩⟩⟩⟩⟩⟩⟩⟩⟩⟩⟩⟩⟩⟩⟩
def zmi1 : List zI := [(yX6_gladSet, cX6_gladSet, 3, (some .int), 6, 1, 0), (yX7_copyFrom, cX7_copyFrom, 2, none, 7, 1, 1), (yX7_addToLog, cX7_addToLog, 4, none, 7, 1, 3), (yX7_logEntry, cX7_logEntry, 4, (some .int), 7, 1, 2), (yX7_rulesThatHold, cX7_rulesThatHold, 5, (some .int), 7, 1, 1), (yX8_addWeight, cX8_addWeight, 4, none, 8, 1, 2), (yX8_daysToGive, cX8_daysToGive, 4, (some .int), 8, 1, 1), (yX9_fault, cX9_fault, 1, (some .int), 9, 1, 0), (yX9_seed, cX9_seed, 3, (some .int), 9, 1, 1), (yX9_noCoast, cX9_noCoast, 1, (some .boolean), 9, 1, 0), (yX9_draw, cX9_draw, 2, (some .int), 9, 1, 1), (yX9_isOut, cX9_isOut, 3, (some .boolean), 99, 1, 3), (yX9_hasBit, cX9_hasBit, 2, (some .boolean), 99, 1, 2), (yX10_in, cX10_in, 6, (some .boolean), 99, 1, 3), (yX10_least, cX10_least, 2, (some .int), 99, 1, 2), (yX10_most, cX10_most, 2, (some .int), 99, 1, 2), (yX10_apart, cX10_apart, 2, (some .int), 99, 1, 2), (yX10_one, cX10_one, 1, (some .int), 99, 1, 1), (yX10_has, cX10_has, 2, (some .boolean), 99, 1, 2), (yX10_here, cX10_here, 1, (some .int), 10, 1, 0), (yX10_want, cX10_want, 4, (some .boolean), 10, 1, 3), (yX10_take, cX10_take, 3, none, 10, 1, 0), (yX10_fault, cX10_fault, 1, (some .int), 10, 1, 0), (yX10_weatherOf, cX10_weatherOf, 2, (some .int), 10, 1, 1)]
theorem zmi1_ok : ∀ q ∈ zmi1, Cond.code q.1 q.2.1 q.2.2.1 q.2.2.2.1 ∈ gT := List.forall_mem_cons.mpr ⟨gT_at ⟨zk24, rfl⟩, List.forall_mem_cons.mpr ⟨gT_at ⟨zk25, rfl⟩, List.forall_mem_cons.mpr ⟨gT_at ⟨zk26, rfl⟩, List.forall_mem_cons.mpr ⟨gT_at ⟨zk27, rfl⟩, List.forall_mem_cons.mpr ⟨gT_at ⟨zk28, rfl⟩, List.forall_mem_cons.mpr ⟨gT_at ⟨zk29, rfl⟩, List.forall_mem_cons.mpr ⟨gT_at ⟨zk30, rfl⟩, List.forall_mem_cons.mpr ⟨gT_at ⟨zk31, rfl⟩, List.forall_mem_cons.mpr ⟨gT_at ⟨zk32, rfl⟩, List.forall_mem_cons.mpr ⟨gT_at ⟨zk33, rfl⟩, List.forall_mem_cons.mpr ⟨gT_at ⟨zk34, rfl⟩, List.forall_mem_cons.mpr ⟨gT_at ⟨zk35, rfl⟩, List.forall_mem_cons.mpr ⟨gT_at ⟨zk36, rfl⟩, List.forall_mem_cons.mpr ⟨gT_at ⟨zk37, rfl⟩, List.forall_mem_cons.mpr ⟨gT_at ⟨zk38, rfl⟩, List.forall_mem_cons.mpr ⟨gT_at ⟨zk39, rfl⟩, List.forall_mem_cons.mpr ⟨gT_at ⟨zk40, rfl⟩, List.forall_mem_cons.mpr ⟨gT_at ⟨zk41, rfl⟩, List.forall_mem_cons.mpr ⟨gT_at ⟨zk42, rfl⟩, List.forall_mem_cons.mpr ⟨gT_at ⟨zk43, rfl⟩, List.forall_mem_cons.mpr ⟨gT_at ⟨zk44, rfl⟩, List.forall_mem_cons.mpr ⟨gT_at ⟨zk45, rfl⟩, List.forall_mem_cons.mpr ⟨gT_at ⟨zk46, rfl⟩, List.forall_mem_cons.mpr ⟨gT_at ⟨zk47, rfl⟩, fun _ h => absurd h List.not_mem_nil⟩⟩⟩⟩⟩⟩⟩⟩⟩⟩⟩⟩⟩⟩⟩⟩⟩⟩⟩⟩⟩⟩⟩⟩
def zmi2 : List zI := [(yX10_caught, cX10_caught, 3, (some .int), 10, 1, 0), (yX10_copy, cX10_copy, 4, none, 10, 1, 2), (yX10_log, cX10_log, 6, none, 10, 1, 4), (yX10_draw, cX10_draw, 2, (some .int), 10, 1, 1), (yX10_caughtBy, cX10_caughtBy, 5, (some .int), 10, 1, 2), (yX10_weightOf, cX10_weightOf, 5, (some .int), 99, 1, 3), (yX10_judge, cX10_judge, 2, (some .int), 10, 1, 0), (yX10_tear, cX10_tear, 2, (some .int), 10, 1, 0), (yX10_seed, cX10_seed, 3, (some .int), 10, 1, 1), (yJ6_bitCount_0f7a4, cJ6_bitCount_0f7a4, 1, (some .int), 99, 1, 1), (yJ7_fill_53178, cJ7_fill_53178, 4, none, 99, 1, 2), (yX1_remember, cX1_remember, 2, none, 1, 2, 1), (yX1_takeBack, cX1_takeBack, 3, (some .boolean), 1, 2, 2), (yX2_homeCount, cX2_homeCount, 1, (some .int), 2, 2, 0), (yX2_isReady, cX2_isReady, 2, (some .boolean), 2, 2, 1), (yX3_has, cX3_has, 2, (some .boolean), 3, 2, 1), (yX3_take, cX3_take, 4, none, 3, 2, 3), (yX3_give, cX3_give, 3, none, 3, 2, 2), (yX5_readNumber, cX5_readNumber, 5, (some .int), 5, 2, 1), (yX5_readEnd, cX5_readEnd, 1, none, 5, 2, 0), (yX6_reading, cX6_reading, 3, (some .int), 6, 2, 2), (yX6_readingBy, cX6_readingBy, 3, (some .int), 6, 2, 2), (yX6_firstFair, cX6_firstFair, 5, (some .int), 6, 2, 2), (yX7_begin, cX7_begin, 2, none, 7, 2, 1)]
theorem zmi2_ok : ∀ q ∈ zmi2, Cond.code q.1 q.2.1 q.2.2.1 q.2.2.2.1 ∈ gT := List.forall_mem_cons.mpr ⟨gT_at ⟨zk48, rfl⟩, List.forall_mem_cons.mpr ⟨gT_at ⟨zk49, rfl⟩, List.forall_mem_cons.mpr ⟨gT_at ⟨zk50, rfl⟩, List.forall_mem_cons.mpr ⟨gT_at ⟨zk51, rfl⟩, List.forall_mem_cons.mpr ⟨gT_at ⟨zk52, rfl⟩, List.forall_mem_cons.mpr ⟨gT_at ⟨zk53, rfl⟩, List.forall_mem_cons.mpr ⟨gT_at ⟨zk54, rfl⟩, List.forall_mem_cons.mpr ⟨gT_at ⟨zk55, rfl⟩, List.forall_mem_cons.mpr ⟨gT_at ⟨zk56, rfl⟩, List.forall_mem_cons.mpr ⟨gT_at ⟨zk57, rfl⟩, List.forall_mem_cons.mpr ⟨gT_at ⟨zk58, rfl⟩, List.forall_mem_cons.mpr ⟨gT_at ⟨zk59, rfl⟩, List.forall_mem_cons.mpr ⟨gT_at ⟨zk60, rfl⟩, List.forall_mem_cons.mpr ⟨gT_at ⟨zk61, rfl⟩, List.forall_mem_cons.mpr ⟨gT_at ⟨zk62, rfl⟩, List.forall_mem_cons.mpr ⟨gT_at ⟨zk63, rfl⟩, List.forall_mem_cons.mpr ⟨gT_at ⟨zk64, rfl⟩, List.forall_mem_cons.mpr ⟨gT_at ⟨zk65, rfl⟩, List.forall_mem_cons.mpr ⟨gT_at ⟨zk66, rfl⟩, List.forall_mem_cons.mpr ⟨gT_at ⟨zk67, rfl⟩, List.forall_mem_cons.mpr ⟨gT_at ⟨zk68, rfl⟩, List.forall_mem_cons.mpr ⟨gT_at ⟨zk69, rfl⟩, List.forall_mem_cons.mpr ⟨gT_at ⟨zk70, rfl⟩, List.forall_mem_cons.mpr ⟨gT_at ⟨zk71, rfl⟩, fun _ h => absurd h List.not_mem_nil⟩⟩⟩⟩⟩⟩⟩⟩⟩⟩⟩⟩⟩⟩⟩⟩⟩⟩⟩⟩⟩⟩⟩⟩
def zmi3 : List zI := [(yX8_triedError, cX8_triedError, 4, (some .int), 8, 2, 1), (yX8_nextWeighing, cX8_nextWeighing, 2, (some .boolean), 8, 2, 0), (yX8_countStepsToReads, cX8_countStepsToReads, 5, none, 8, 2, 1), (yX8_addToSums, cX8_addToSums, 7, none, 8, 2, 2), (yX8_drinksShort, cX8_drinksShort, 4, (some .int), 8, 2, 1), (yX8_drinksOver, cX8_drinksOver, 4, (some .int), 8, 2, 1), (yX9_feed, cX9_feed, 2, (some .int), 9, 2, 1), (yX9_logged, cX9_logged, 3, (some .int), 9, 2, 2), (yX9_holds, cX9_holds, 2, (some .int), 9, 2, 1), (yX9_homeBy, cX9_homeBy, 6, (some .int), 9, 2, 2), (yX9_judge, cX9_judge, 1, (some .int), 9, 2, 0), (yX9_tear, cX9_tear, 2, (some .int), 9, 2, 0), (yX9_noGlass, cX9_noGlass, 2, (some .boolean), 9, 2, 1), (yX9_noBoat, cX9_noBoat, 2, (some .boolean), 9, 2, 1), (yX9_refuseAhead, cX9_refuseAhead, 2, (some .int), 9, 2, 1), (yX9_refuseDays, cX9_refuseDays, 2, (some .int), 9, 2, 1), (yX9_moveByDraw, cX9_moveByDraw, 2, none, 9, 2, 0), (yX10_feed, cX10_feed, 2, (some .int), 10, 2, 1), (yX10_takeNumber, cX10_takeNumber, 4, (some .int), 10, 2, 0), (yX10_isGlass, cX10_isGlass, 2, (some .boolean), 10, 2, 1), (yX10_isBoat, cX10_isBoat, 2, (some .boolean), 10, 2, 1), (yX10_isAll, cX10_isAll, 2, (some .boolean), 10, 2, 1), (yX10_tomorrow, cX10_tomorrow, 2, (some .int), 10, 2, 1), (yX10_held, cX10_held, 1, (some .int), 99, 2, 1)]
theorem zmi3_ok : ∀ q ∈ zmi3, Cond.code q.1 q.2.1 q.2.2.1 q.2.2.2.1 ∈ gT := List.forall_mem_cons.mpr ⟨gT_at ⟨zk72, rfl⟩, List.forall_mem_cons.mpr ⟨gT_at ⟨zk73, rfl⟩, List.forall_mem_cons.mpr ⟨gT_at ⟨zk74, rfl⟩, List.forall_mem_cons.mpr ⟨gT_at ⟨zk75, rfl⟩, List.forall_mem_cons.mpr ⟨gT_at ⟨zk76, rfl⟩, List.forall_mem_cons.mpr ⟨gT_at ⟨zk77, rfl⟩, List.forall_mem_cons.mpr ⟨gT_at ⟨zk78, rfl⟩, List.forall_mem_cons.mpr ⟨gT_at ⟨zk79, rfl⟩, List.forall_mem_cons.mpr ⟨gT_at ⟨zk80, rfl⟩, List.forall_mem_cons.mpr ⟨gT_at ⟨zk81, rfl⟩, List.forall_mem_cons.mpr ⟨gT_at ⟨zk82, rfl⟩, List.forall_mem_cons.mpr ⟨gT_at ⟨zk83, rfl⟩, List.forall_mem_cons.mpr ⟨gT_at ⟨zk84, rfl⟩, List.forall_mem_cons.mpr ⟨gT_at ⟨zk85, rfl⟩, List.forall_mem_cons.mpr ⟨gT_at ⟨zk86, rfl⟩, List.forall_mem_cons.mpr ⟨gT_at ⟨zk87, rfl⟩, List.forall_mem_cons.mpr ⟨gT_at ⟨zk88, rfl⟩, List.forall_mem_cons.mpr ⟨gT_at ⟨zk89, rfl⟩, List.forall_mem_cons.mpr ⟨gT_at ⟨zk90, rfl⟩, List.forall_mem_cons.mpr ⟨gT_at ⟨zk91, rfl⟩, List.forall_mem_cons.mpr ⟨gT_at ⟨zk92, rfl⟩, List.forall_mem_cons.mpr ⟨gT_at ⟨zk93, rfl⟩, List.forall_mem_cons.mpr ⟨gT_at ⟨zk94, rfl⟩, List.forall_mem_cons.mpr ⟨gT_at ⟨zk95, rfl⟩, fun _ h => absurd h List.not_mem_nil⟩⟩⟩⟩⟩⟩⟩⟩⟩⟩⟩⟩⟩⟩⟩⟩⟩⟩⟩⟩⟩⟩⟩⟩
def zmi4 : List zI := [(yX10_sails, cX10_sails, 4, (some .boolean), 10, 2, 3), (yX10_gladOnes, cX10_gladOnes, 3, (some .int), 10, 2, 0), (yX10_weather, cX10_weather, 2, (some .int), 10, 2, 1), (yX10_logged, cX10_logged, 3, (some .int), 10, 2, 2), (yX10_remember, cX10_remember, 2, none, 10, 2, 0), (yX10_refusedDays, cX10_refusedDays, 2, (some .int), 10, 2, 1), (yX10_homes, cX10_homes, 3, (some .int), 10, 2, 0), (yX10_undo, cX10_undo, 3, (some .int), 10, 2, 1), (yX10_errorBy, cX10_errorBy, 8, (some .int), 10, 2, 1), (yX10_isFair, cX10_isFair, 6, (some .boolean), 10, 2, 3), (yX10_holds, cX10_holds, 6, (some .int), 10, 2, 1), (yX10_homeBy, cX10_homeBy, 6, (some .int), 10, 2, 2), (yX10_keep, cX10_keep, 2, (some .int), 10, 2, 1), (yX10_goBack, cX10_goBack, 2, (some .int), 10, 2, 1), (yX4_fitting, cX4_fitting, 4, (some .int), 4, 3, 0), (yX4_greatestPart, cX4_greatestPart, 6, (some .int), 4, 3, 2), (yX5_readWeathers, cX5_readWeathers, 4, none, 5, 3, 1), (yX5_readGlass, cX5_readGlass, 4, none, 5, 3, 1), (yX5_readBoat, cX5_readBoat, 4, none, 5, 3, 1), (yX5_readDrinks, cX5_readDrinks, 3, none, 5, 3, 1), (yX6_telling, cX6_telling, 5, (some .int), 6, 3, 1), (yX6_falseSet, cX6_falseSet, 4, (some .int), 6, 3, 0), (yX6_apart, cX6_apart, 3, (some .int), 6, 3, 2), (yX8_glassError, cX8_glassError, 4, (some .int), 8, 3, 1)]
theorem zmi4_ok : ∀ q ∈ zmi4, Cond.code q.1 q.2.1 q.2.2.1 q.2.2.2.1 ∈ gT := List.forall_mem_cons.mpr ⟨gT_at ⟨zk96, rfl⟩, List.forall_mem_cons.mpr ⟨gT_at ⟨zk97, rfl⟩, List.forall_mem_cons.mpr ⟨gT_at ⟨zk98, rfl⟩, List.forall_mem_cons.mpr ⟨gT_at ⟨zk99, rfl⟩, List.forall_mem_cons.mpr ⟨gT_at ⟨zk100, rfl⟩, List.forall_mem_cons.mpr ⟨gT_at ⟨zk101, rfl⟩, List.forall_mem_cons.mpr ⟨gT_at ⟨zk102, rfl⟩, List.forall_mem_cons.mpr ⟨gT_at ⟨zk103, rfl⟩, List.forall_mem_cons.mpr ⟨gT_at ⟨zk104, rfl⟩, List.forall_mem_cons.mpr ⟨gT_at ⟨zk105, rfl⟩, List.forall_mem_cons.mpr ⟨gT_at ⟨zk106, rfl⟩, List.forall_mem_cons.mpr ⟨gT_at ⟨zk107, rfl⟩, List.forall_mem_cons.mpr ⟨gT_at ⟨zk108, rfl⟩, List.forall_mem_cons.mpr ⟨gT_at ⟨zk109, rfl⟩, List.forall_mem_cons.mpr ⟨gT_at ⟨zk110, rfl⟩, List.forall_mem_cons.mpr ⟨gT_at ⟨zk111, rfl⟩, List.forall_mem_cons.mpr ⟨gT_at ⟨zk112, rfl⟩, List.forall_mem_cons.mpr ⟨gT_at ⟨zk113, rfl⟩, List.forall_mem_cons.mpr ⟨gT_at ⟨zk114, rfl⟩, List.forall_mem_cons.mpr ⟨gT_at ⟨zk115, rfl⟩, List.forall_mem_cons.mpr ⟨gT_at ⟨zk116, rfl⟩, List.forall_mem_cons.mpr ⟨gT_at ⟨zk117, rfl⟩, List.forall_mem_cons.mpr ⟨gT_at ⟨zk118, rfl⟩, List.forall_mem_cons.mpr ⟨gT_at ⟨zk119, rfl⟩, fun _ h => absurd h List.not_mem_nil⟩⟩⟩⟩⟩⟩⟩⟩⟩⟩⟩⟩⟩⟩⟩⟩⟩⟩⟩⟩⟩⟩⟩⟩
def zmi5 : List zI := [(yX8_startWeighing, cX8_startWeighing, 3, none, 8, 3, 0), (yX8_fewestSteps, cX8_fewestSteps, 5, (some .int), 8, 3, 1), (yX9_weather, cX9_weather, 3, (some .int), 9, 3, 1), (yX9_glass, cX9_glass, 3, (some .int), 9, 3, 2), (yX9_boat, cX9_boat, 3, (some .int), 9, 3, 2), (yX9_drink, cX9_drink, 2, (some .int), 9, 3, 1), (yX9_keepFrom, cX9_keepFrom, 2, (some .int), 9, 3, 1), (yX9_glad, cX9_glad, 4, (some .int), 9, 3, 2), (yX9_weigh, cX9_weigh, 4, (some .int), 9, 3, 2), (yX9_hold, cX9_hold, 4, (some .int), 9, 3, 2), (yX9_find, cX9_find, 2, (some .int), 9, 3, 1), (yX9_undo, cX9_undo, 2, (some .int), 9, 3, 1), (yX9_allTrue, cX9_allTrue, 3, (some .int), 9, 3, 2), (yX9_fair, cX9_fair, 3, (some .int), 9, 3, 2), (yX9_tap, cX9_tap, 3, (some .int), 9, 3, 2), (yX9_write, cX9_write, 3, (some .int), 9, 3, 2), (yX9_keep, cX9_keep, 2, (some .int), 9, 3, 1), (yX9_goBack, cX9_goBack, 2, (some .int), 9, 3, 1), (yX9_refuseGlassOrRow, cX9_refuseGlassOrRow, 2, (some .int), 9, 3, 1), (yX10_takeIn, cX10_takeIn, 5, (some .int), 10, 3, 2), (yX10_reading, cX10_reading, 3, (some .int), 99, 3, 3), (yX10_boat, cX10_boat, 3, (some .int), 10, 3, 2), (yX10_drink, cX10_drink, 2, (some .int), 10, 3, 1), (yX10_keepFrom, cX10_keepFrom, 2, (some .int), 10, 3, 1)]
theorem zmi5_ok : ∀ q ∈ zmi5, Cond.code q.1 q.2.1 q.2.2.1 q.2.2.2.1 ∈ gT := List.forall_mem_cons.mpr ⟨gT_at ⟨zk120, rfl⟩, List.forall_mem_cons.mpr ⟨gT_at ⟨zk121, rfl⟩, List.forall_mem_cons.mpr ⟨gT_at ⟨zk122, rfl⟩, List.forall_mem_cons.mpr ⟨gT_at ⟨zk123, rfl⟩, List.forall_mem_cons.mpr ⟨gT_at ⟨zk124, rfl⟩, List.forall_mem_cons.mpr ⟨gT_at ⟨zk125, rfl⟩, List.forall_mem_cons.mpr ⟨gT_at ⟨zk126, rfl⟩, List.forall_mem_cons.mpr ⟨gT_at ⟨zk127, rfl⟩, List.forall_mem_cons.mpr ⟨gT_at ⟨zk128, rfl⟩, List.forall_mem_cons.mpr ⟨gT_at ⟨zk129, rfl⟩, List.forall_mem_cons.mpr ⟨gT_at ⟨zk130, rfl⟩, List.forall_mem_cons.mpr ⟨gT_at ⟨zk131, rfl⟩, List.forall_mem_cons.mpr ⟨gT_at ⟨zk132, rfl⟩, List.forall_mem_cons.mpr ⟨gT_at ⟨zk133, rfl⟩, List.forall_mem_cons.mpr ⟨gT_at ⟨zk134, rfl⟩, List.forall_mem_cons.mpr ⟨gT_at ⟨zk135, rfl⟩, List.forall_mem_cons.mpr ⟨gT_at ⟨zk136, rfl⟩, List.forall_mem_cons.mpr ⟨gT_at ⟨zk137, rfl⟩, List.forall_mem_cons.mpr ⟨gT_at ⟨zk138, rfl⟩, List.forall_mem_cons.mpr ⟨gT_at ⟨zk139, rfl⟩, List.forall_mem_cons.mpr ⟨gT_at ⟨zk140, rfl⟩, List.forall_mem_cons.mpr ⟨gT_at ⟨zk141, rfl⟩, List.forall_mem_cons.mpr ⟨gT_at ⟨zk142, rfl⟩, List.forall_mem_cons.mpr ⟨gT_at ⟨zk143, rfl⟩, fun _ h => absurd h List.not_mem_nil⟩⟩⟩⟩⟩⟩⟩⟩⟩⟩⟩⟩⟩⟩⟩⟩⟩⟩⟩⟩⟩⟩⟩⟩
def zmi6 : List zI := [(yX10_changed, cX10_changed, 4, (some .int), 10, 3, 2), (yX10_find, cX10_find, 2, (some .int), 10, 3, 1), (yX10_allTrue, cX10_allTrue, 6, (some .int), 10, 3, 2), (yX10_fair, cX10_fair, 4, (some .int), 10, 3, 2), (yX10_tap, cX10_tap, 3, (some .int), 10, 3, 2), (yX10_write, cX10_write, 3, (some .int), 10, 3, 2), (yX2_sailing, cX2_sailing, 4, (some .int), 2, 4, 0), (yX2_lookAhead, cX2_lookAhead, 3, none, 2, 4, 1), (yX4_bestToTap, cX4_bestToTap, 6, (some .int), 4, 4, 0), (yX5_readClause, cX5_readClause, 4, none, 5, 4, 1), (yX6_mostUnlike, cX6_mostUnlike, 6, (some .int), 6, 4, 0), (yX8_rowError, cX8_rowError, 3, (some .int), 8, 4, 0), (yX8_glassOfLeastError, cX8_glassOfLeastError, 5, (some .int), 8, 4, 0), (yX8_weighBest, cX8_weighBest, 5, (some .int), 8, 4, 0), (yX9_tells, cX9_tells, 3, (some .int), 9, 4, 1), (yX9_steps, cX9_steps, 2, (some .int), 9, 4, 1), (yX9_falseOnes, cX9_falseOnes, 1, (some .int), 9, 4, 0), (yX9_could, cX9_could, 1, (some .int), 9, 4, 0), (yX10_takeWeather, cX10_takeWeather, 3, none, 10, 4, 1), (yX10_takeGlass, cX10_takeGlass, 2, none, 10, 4, 1), (yX10_takeBoat, cX10_takeBoat, 2, none, 10, 4, 1), (yX10_takeDrinks, cX10_takeDrinks, 2, none, 10, 4, 1), (yX10_reads, cX10_reads, 3, (some .int), 10, 4, 2), (yX10_glad, cX10_glad, 3, (some .int), 10, 4, 2)]
theorem zmi6_ok : ∀ q ∈ zmi6, Cond.code q.1 q.2.1 q.2.2.1 q.2.2.2.1 ∈ gT := List.forall_mem_cons.mpr ⟨gT_at ⟨zk144, rfl⟩, List.forall_mem_cons.mpr ⟨gT_at ⟨zk145, rfl⟩, List.forall_mem_cons.mpr ⟨gT_at ⟨zk146, rfl⟩, List.forall_mem_cons.mpr ⟨gT_at ⟨zk147, rfl⟩, List.forall_mem_cons.mpr ⟨gT_at ⟨zk148, rfl⟩, List.forall_mem_cons.mpr ⟨gT_at ⟨zk149, rfl⟩, List.forall_mem_cons.mpr ⟨gT_at ⟨zk150, rfl⟩, List.forall_mem_cons.mpr ⟨gT_at ⟨zk151, rfl⟩, List.forall_mem_cons.mpr ⟨gT_at ⟨zk152, rfl⟩, List.forall_mem_cons.mpr ⟨gT_at ⟨zk153, rfl⟩, List.forall_mem_cons.mpr ⟨gT_at ⟨zk154, rfl⟩, List.forall_mem_cons.mpr ⟨gT_at ⟨zk155, rfl⟩, List.forall_mem_cons.mpr ⟨gT_at ⟨zk156, rfl⟩, List.forall_mem_cons.mpr ⟨gT_at ⟨zk157, rfl⟩, List.forall_mem_cons.mpr ⟨gT_at ⟨zk158, rfl⟩, List.forall_mem_cons.mpr ⟨gT_at ⟨zk159, rfl⟩, List.forall_mem_cons.mpr ⟨gT_at ⟨zk160, rfl⟩, List.forall_mem_cons.mpr ⟨gT_at ⟨zk161, rfl⟩, List.forall_mem_cons.mpr ⟨gT_at ⟨zk162, rfl⟩, List.forall_mem_cons.mpr ⟨gT_at ⟨zk163, rfl⟩, List.forall_mem_cons.mpr ⟨gT_at ⟨zk164, rfl⟩, List.forall_mem_cons.mpr ⟨gT_at ⟨zk165, rfl⟩, List.forall_mem_cons.mpr ⟨gT_at ⟨zk166, rfl⟩, List.forall_mem_cons.mpr ⟨gT_at ⟨zk167, rfl⟩, fun _ h => absurd h List.not_mem_nil⟩⟩⟩⟩⟩⟩⟩⟩⟩⟩⟩⟩⟩⟩⟩⟩⟩⟩⟩⟩⟩⟩⟩⟩
def zmi7 : List zI := [(yX10_weigh, cX10_weigh, 3, (some .int), 10, 4, 2), (yX10_hold, cX10_hold, 5, (some .int), 10, 4, 2), (yX10_layGlass, cX10_layGlass, 5, none, 10, 4, 1), (yX10_wouldRead, cX10_wouldRead, 3, (some .int), 10, 4, 2), (yX2_passDay, cX2_passDay, 5, none, 2, 5, 0), (yX2_catchWithin, cX2_catchWithin, 4, (some .int), 2, 5, 2), (yX2_lostWithin, cX2_lostWithin, 4, (some .int), 2, 5, 1), (yX2_tryLimits, cX2_tryLimits, 5, none, 2, 5, 1), (yX5_read, cX5_read, 3, (some .int), 5, 5, 1), (yX9_told, cX9_told, 2, (some .int), 9, 5, 1), (yX9_error, cX9_error, 3, (some .int), 9, 5, 1), (yX9_truest, cX9_truest, 3, (some .int), 9, 5, 1), (yX9_bestWeights, cX9_bestWeights, 4, (some .int), 9, 5, 1), (yX9_differ, cX9_differ, 3, (some .int), 9, 5, 1), (yX9_tapNext, cX9_tapNext, 1, (some .int), 9, 5, 0), (yX10_takeClause, cX10_takeClause, 4, none, 10, 5, 0), (yX10_rowTells, cX10_rowTells, 5, (some .int), 10, 5, 1), (yX10_glass, cX10_glass, 3, (some .int), 10, 5, 2), (yX10_steps, cX10_steps, 5, (some .int), 10, 5, 1), (yX10_differ, cX10_differ, 7, (some .int), 10, 5, 1), (yX10_falseOnes, cX10_falseOnes, 3, (some .int), 10, 5, 0), (yX10_could, cX10_could, 5, (some .int), 10, 5, 0), (yX10_greatestPart, cX10_greatestPart, 7, (some .int), 10, 5, 2), (yX9_coast, cX9_coast, 2, (some .int), 9, 6, 0)]
theorem zmi7_ok : ∀ q ∈ zmi7, Cond.code q.1 q.2.1 q.2.2.1 q.2.2.2.1 ∈ gT := List.forall_mem_cons.mpr ⟨gT_at ⟨zk168, rfl⟩, List.forall_mem_cons.mpr ⟨gT_at ⟨zk169, rfl⟩, List.forall_mem_cons.mpr ⟨gT_at ⟨zk170, rfl⟩, List.forall_mem_cons.mpr ⟨gT_at ⟨zk171, rfl⟩, List.forall_mem_cons.mpr ⟨gT_at ⟨zk172, rfl⟩, List.forall_mem_cons.mpr ⟨gT_at ⟨zk173, rfl⟩, List.forall_mem_cons.mpr ⟨gT_at ⟨zk174, rfl⟩, List.forall_mem_cons.mpr ⟨gT_at ⟨zk175, rfl⟩, List.forall_mem_cons.mpr ⟨gT_at ⟨zk176, rfl⟩, List.forall_mem_cons.mpr ⟨gT_at ⟨zk177, rfl⟩, List.forall_mem_cons.mpr ⟨gT_at ⟨zk178, rfl⟩, List.forall_mem_cons.mpr ⟨gT_at ⟨zk179, rfl⟩, List.forall_mem_cons.mpr ⟨gT_at ⟨zk180, rfl⟩, List.forall_mem_cons.mpr ⟨gT_at ⟨zk181, rfl⟩, List.forall_mem_cons.mpr ⟨gT_at ⟨zk182, rfl⟩, List.forall_mem_cons.mpr ⟨gT_at ⟨zk183, rfl⟩, List.forall_mem_cons.mpr ⟨gT_at ⟨zk184, rfl⟩, List.forall_mem_cons.mpr ⟨gT_at ⟨zk185, rfl⟩, List.forall_mem_cons.mpr ⟨gT_at ⟨zk186, rfl⟩, List.forall_mem_cons.mpr ⟨gT_at ⟨zk187, rfl⟩, List.forall_mem_cons.mpr ⟨gT_at ⟨zk188, rfl⟩, List.forall_mem_cons.mpr ⟨gT_at ⟨zk189, rfl⟩, List.forall_mem_cons.mpr ⟨gT_at ⟨zk190, rfl⟩, List.forall_mem_cons.mpr ⟨gT_at ⟨zk191, rfl⟩, fun _ h => absurd h List.not_mem_nil⟩⟩⟩⟩⟩⟩⟩⟩⟩⟩⟩⟩⟩⟩⟩⟩⟩⟩⟩⟩⟩⟩⟩⟩
def zmi8 : List zI := [(yX9_day, cX9_day, 4, (some .int), 9, 6, 1), (yX9_drift, cX9_drift, 4, (some .int), 9, 6, 1), (yX9_catches, cX9_catches, 3, (some .int), 9, 6, 2), (yX9_loses, cX9_loses, 2, (some .int), 9, 6, 1), (yX9_bestLimit, cX9_bestLimit, 3, (some .int), 9, 6, 2), (yX10_coast, cX10_coast, 1, (some .int), 10, 6, 0), (yX10_sailing, cX10_sailing, 4, (some .int), 10, 6, 0), (yX10_dayIn, cX10_dayIn, 7, none, 10, 6, 1), (yX10_tapNext, cX10_tapNext, 6, (some .int), 10, 6, 0), (yX10_told, cX10_told, 2, (some .int), 10, 7, 1), (yX10_day, cX10_day, 4, (some .int), 10, 7, 1), (yX10_dayByDraws, cX10_dayByDraws, 3, none, 10, 7, 0), (yX10_goOn, cX10_goOn, 3, none, 10, 7, 1), (yX10_layDays, cX10_layDays, 3, none, 10, 7, 1), (yX10_errorOf, cX10_errorOf, 5, (some .int), 10, 7, 1), (yX10_layReadings, cX10_layReadings, 3, none, 10, 7, 0), (yX10_drift, cX10_drift, 4, (some .int), 10, 8, 1), (yX10_tells, cX10_tells, 2, (some .int), 10, 8, 1), (yX10_catches, cX10_catches, 3, (some .int), 10, 8, 2), (yX10_loses, cX10_loses, 2, (some .int), 10, 8, 1), (yX10_bestLimit, cX10_bestLimit, 7, (some .int), 10, 8, 2), (yX10_error, cX10_error, 2, (some .int), 10, 8, 1), (yX10_truest, cX10_truest, 6, (some .int), 10, 8, 1), (yX10_bestWeights, cX10_bestWeights, 7, (some .int), 10, 8, 1)]
theorem zmi8_ok : ∀ q ∈ zmi8, Cond.code q.1 q.2.1 q.2.2.1 q.2.2.2.1 ∈ gT := List.forall_mem_cons.mpr ⟨gT_at ⟨zk192, rfl⟩, List.forall_mem_cons.mpr ⟨gT_at ⟨zk193, rfl⟩, List.forall_mem_cons.mpr ⟨gT_at ⟨zk194, rfl⟩, List.forall_mem_cons.mpr ⟨gT_at ⟨zk195, rfl⟩, List.forall_mem_cons.mpr ⟨gT_at ⟨zk196, rfl⟩, List.forall_mem_cons.mpr ⟨gT_at ⟨zk197, rfl⟩, List.forall_mem_cons.mpr ⟨gT_at ⟨zk198, rfl⟩, List.forall_mem_cons.mpr ⟨gT_at ⟨zk199, rfl⟩, List.forall_mem_cons.mpr ⟨gT_at ⟨zk200, rfl⟩, List.forall_mem_cons.mpr ⟨gT_at ⟨zk201, rfl⟩, List.forall_mem_cons.mpr ⟨gT_at ⟨zk202, rfl⟩, List.forall_mem_cons.mpr ⟨gT_at ⟨zk203, rfl⟩, List.forall_mem_cons.mpr ⟨gT_at ⟨zk204, rfl⟩, List.forall_mem_cons.mpr ⟨gT_at ⟨zk205, rfl⟩, List.forall_mem_cons.mpr ⟨gT_at ⟨zk206, rfl⟩, List.forall_mem_cons.mpr ⟨gT_at ⟨zk207, rfl⟩, List.forall_mem_cons.mpr ⟨gT_at ⟨zk208, rfl⟩, List.forall_mem_cons.mpr ⟨gT_at ⟨zk209, rfl⟩, List.forall_mem_cons.mpr ⟨gT_at ⟨zk210, rfl⟩, List.forall_mem_cons.mpr ⟨gT_at ⟨zk211, rfl⟩, List.forall_mem_cons.mpr ⟨gT_at ⟨zk212, rfl⟩, List.forall_mem_cons.mpr ⟨gT_at ⟨zk213, rfl⟩, List.forall_mem_cons.mpr ⟨gT_at ⟨zk214, rfl⟩, List.forall_mem_cons.mpr ⟨gT_at ⟨zk215, rfl⟩, fun _ h => absurd h List.not_mem_nil⟩⟩⟩⟩⟩⟩⟩⟩⟩⟩⟩⟩⟩⟩⟩⟩⟩⟩⟩⟩⟩⟩⟩⟩
set_option maxRecDepth 20000 in
theorem zmi_eq : zmi = zmi0 ++ (zmi1 ++ (zmi2 ++ (zmi3 ++ (zmi4 ++ (zmi5 ++ (zmi6 ++ (zmi7 ++ (zmi8)))))))) := rfl
theorem zmi_code : ∀ q ∈ zmi, Cond.code q.1 q.2.1 q.2.2.1 q.2.2.2.1 ∈ gT := by
  intro q h
  rw [zmi_eq] at h
  rcases List.mem_append.mp h with h | h
  · exact zmi0_ok q h
  rcases List.mem_append.mp h with h | h
  · exact zmi1_ok q h
  rcases List.mem_append.mp h with h | h
  · exact zmi2_ok q h
  rcases List.mem_append.mp h with h | h
  · exact zmi3_ok q h
  rcases List.mem_append.mp h with h | h
  · exact zmi4_ok q h
  rcases List.mem_append.mp h with h | h
  · exact zmi5_ok q h
  rcases List.mem_append.mp h with h | h
  · exact zmi6_ok q h
  rcases List.mem_append.mp h with h | h
  · exact zmi7_ok q h
  exact zmi8_ok q h
def zYL : List (Nat × Nat × Nat × Nat) := [(0, 72, 470, 471), (1, 72, 537, 538), (2, 72, 505, 506), (3, 72, 517, 518), (4, 72, 525, 526), (5, 72, 533, 534), (6, 78, 556, 557), (7, 75, 614, 615), (8, 75, 679, 15), (9, 75, 767, 19), (10, 75, 771, 20), (11, 79, 560, 561), (12, 77, 552, 553), (13, 77, 934, 935), (14, 77, 971, 972), (15, 77, 979, 980), (16, 71, 457, 458), (17, 71, 483, 2), (18, 71, 487, 3), (19, 71, 475, 0), (20, 71, 498, 498), (21, 74, 584, 585), (22, 74, 588, 588), (23, 74, 595, 595), (24, 74, 610, 611), (25, 73, 667, 668), (26, 73, 690, 691), (27, 73, 651, 652), (28, 73, 919, 920), (29, 76, 846, 25), (30, 76, 881, 882), (31, 70, 564, 565), (32, 70, 987, 988), (33, 70, 573, 10), (34, 70, 734, 17), (35, 70, 453, 453), (36, 70, 607, 607), (37, 80, 1128, 1128), (38, 80, 1210, 1210), (39, 80, 1213, 1213), (40, 80, 1381, 1381), (41, 80, 1227, 1227), (42, 80, 1224, 1224), (43, 80, 1138, 29), (44, 80, 1146, 31), (45, 80, 1177, 38), (46, 80, 1180, 1181), (47, 80, 1201, 42), (48, 80, 1235, 46), (49, 80, 1280, 51), (50, 80, 1289, 53), (51, 80, 1334, 57), (52, 80, 1370, 60), (53, 80, 1401, 1401), (54, 80, 1473, 1474), (55, 80, 1477, 1478), (56, 80, 1481, 1482), (57, 84, 684, 684), (58, 83, 549, 549), (59, 78, 663, 664), (60, 78, 746, 747), (61, 75, 696, 697), (62, 75, 603, 604), (63, 79, 1004, 1005), (64, 79, 995, 996), (65, 79, 1009, 1010), (66, 71, 495, 5), (67, 71, 510, 6), (68, 74, 580, 581), (69, 74, 946, 947), (70, 74, 903, 904), (71, 73, 544, 545), (72, 76, 836, 23), (73, 76, 842, 24), (74, 76, 858, 26), (75, 76, 864, 27), (76, 76, 871, 872), (77, 76, 877, 878), (78, 70, 449, 450), (79, 70, 647, 648), (80, 70, 915, 916), (81, 70, 924, 925), (82, 70, 975, 976), (83, 70, 983, 984), (84, 70, 633, 12), (85, 70, 643, 13), (86, 70, 623, 11), (87, 70, 660, 14), (88, 70, 730, 16), (89, 80, 1123, 1124), (90, 80, 1158, 34), (91, 80, 1249, 47), (92, 80, 1258, 48), (93, 80, 1417, 65), (94, 80, 1197, 41), (95, 80, 1207, 1207), (96, 80, 1221, 44), (97, 80, 1231, 45), (98, 80, 1238, 1239), (99, 80, 1261, 1262), (100, 80, 1276, 50), (101, 80, 1271, 49), (102, 80, 1293, 54), (103, 80, 1341, 1342), (104, 80, 1398, 63), (105, 80, 1430, 66), (106, 80, 1437, 1438), (107, 80, 1441, 1442), (108, 80, 1485, 1486), (109, 80, 1489, 1490), (110, 77, 942, 943), (111, 77, 961, 28), (112, 71, 491, 4), (113, 71, 514, 7), (114, 71, 522, 8), (115, 71, 530, 9), (116, 74, 576, 577), (117, 74, 911, 912), (118, 74, 893, 894), (119, 76, 807, 808), (120, 76, 831, 22), (121, 76, 853, 854), (122, 70, 618, 619), (123, 70, 628, 629), (124, 70, 638, 639), (125, 70, 700, 701), (126, 70, 704, 705), (127, 70, 708, 709), (128, 70, 712, 713), (129, 70, 716, 717), (130, 70, 720, 721), (131, 70, 742, 743), (132, 70, 867, 868), (133, 70, 899, 900), (134, 70, 930, 931), (135, 70, 967, 968), (136, 70, 991, 992), (137, 70, 1000, 1001), (138, 70, 795, 21), (139, 80, 1154, 33), (140, 80, 1204, 1204), (141, 80, 1253, 1254), (142, 80, 1296, 1297), (143, 80, 1300, 1301), (144, 80, 1309, 55), (145, 80, 1321, 1322), (146, 80, 1412, 1413), (147, 80, 1424, 1425), (148, 80, 1447, 1448), (149, 80, 1468, 1469), (150, 75, 598, 599), (151, 75, 763, 18), (152, 77, 954, 955), (153, 71, 479, 1), (154, 74, 889, 890), (155, 76, 798, 799), (156, 76, 816, 817), (157, 76, 826, 827), (158, 70, 750, 751), (159, 70, 849, 850), (160, 70, 907, 908), (161, 70, 938, 939), (162, 80, 1150, 32), (163, 80, 1165, 35), (164, 80, 1169, 36), (165, 80, 1173, 37), (166, 80, 1193, 40), (167, 80, 1304, 1305), (168, 80, 1312, 1313), (169, 80, 1317, 1318), (170, 80, 1409, 64), (171, 80, 1456, 67), (172, 75, 672, 673), (173, 75, 758, 759), (174, 75, 778, 779), (175, 75, 786, 787), (176, 71, 466, 467), (177, 70, 568, 569), (178, 70, 790, 791), (179, 70, 812, 813), (180, 70, 822, 823), (181, 70, 885, 886), (182, 70, 950, 951), (183, 80, 1142, 30), (184, 80, 1189, 39), (185, 80, 1244, 1245), (186, 80, 1404, 1405), (187, 80, 1420, 1421), (188, 80, 1433, 1434), (189, 80, 1451, 1452), (190, 80, 1465, 68), (191, 70, 462, 463), (192, 70, 655, 656), (193, 70, 725, 726), (194, 70, 754, 755), (195, 70, 774, 775), (196, 70, 782, 783), (197, 80, 1133, 1134), (198, 80, 1217, 43), (199, 80, 1284, 52), (200, 80, 1459, 1460), (201, 80, 1184, 1185), (202, 80, 1266, 1267), (203, 80, 1330, 56), (204, 80, 1350, 58), (205, 80, 1366, 59), (206, 80, 1378, 61), (207, 80, 1394, 62), (208, 80, 1325, 1326), (209, 80, 1345, 1346), (210, 80, 1353, 1354), (211, 80, 1357, 1358), (212, 80, 1361, 1362), (213, 80, 1373, 1374), (214, 80, 1384, 1385), (215, 80, 1389, 1390)]
def zYw (q : Nat × Nat × Nat × Nat) : Prop := (lw_tbl[q.2.1]? = some (.initialized (znm q.1).cls) ∧ goodWord (.initialized (znm q.1).cls) = true) ∧
  ((zrc q.1 = 99 ∧ lw_tbl[q.2.2.1]? = some (.static (znm q.1)) ∧ goodWord (.static (znm q.1)) = true) ∨ (zrc q.1 ≠ 99 ∧ (lw_tbl[q.2.2.1]? = some (.instanceMethod (znm q.1)) ∧ goodWord (.instanceMethod (znm q.1)) = true) ∧ (lw_tbl[q.2.2.2]? = some (.selects (zcs (zrc q.1)).1 (znm q.1) (znm q.1)) ∧ goodWord (.selects (zcs (zrc q.1)).1 (znm q.1) (znm q.1)) = true))) ∧
  ((znm q.1).cls ≠ "java/lang/invoke/MethodHandle" ∧ (znm q.1).cls ≠ "java/lang/invoke/VarHandle" ∧ (parseMethodDescriptor (znm q.1).desc).map (fun d => d.parameters.length) = some (znp q.1)) ∧ plainName (znm q.1).cls = true ∧ (znm q.1).cls = zcn.getD (zow q.1) "" ∧ zmx q.1 ≤ 8
theorem zYL_ok : ∀ q ∈ zYL, zYw q := by unfold zYw; decide +kernel
theorem zYL_all : zYL.map (fun q => q.1) = List.range zmi.length := by decide +kernel
theorem zmi_len : zmi.length = 216 := by decide +kernel
theorem zma_max1 : Cond.static Lib.Math.max.name ∈ gT := gT_at (i := 592) (by decide +kernel)
theorem zma_max2 : Cond.code Lib.Math.max.name Lib.Math.max.code 2 (some .int) ∈ gT := gT_at (i := 593) (by decide +kernel)
theorem zma_min1 : Cond.static Lib.Math.min.name ∈ gT := gT_at (i := 502) (by decide +kernel)
theorem zma_min2 : Cond.code Lib.Math.min.name Lib.Math.min.code 2 (some .int) ∈ gT := gT_at (i := 503) (by decide +kernel)
theorem zma_abs1 : Cond.static Lib.Math.abs.name ∈ gT := gT_at (i := 804) (by decide +kernel)
theorem zma_abs2 : Cond.code Lib.Math.abs.name Lib.Math.abs.code 1 (some .int) ∈ gT := gT_at (i := 805) (by decide +kernel)
theorem zma_ini : Cond.initialized "java/lang/Math" ∈ gT := gT_at (i := 81) (by decide +kernel)
def zHL : List ((Nat × Nat) × (Nat × Nat)) := [((5, 102), (9002, 501)), ((6, 48), (9002, 590)), ((6, 54), (9001, 591)), ((1, 29), (9002, 670)), ((2, 115), (9002, 682)), ((7, 71), (9002, 693)), ((2, 96), (9001, 694)), ((9, 334), (9002, 739)), ((9, 339), (9001, 740)), ((8, 62), (9003, 803)), ((8, 120), (9002, 861)), ((8, 137), (9001, 875)), ((6, 69), (9003, 896)), ((7, 77), (9001, 922)), ((4, 85), (9001, 965))]
def zHn (a : Nat) : MethodName := if a = 9001 then Lib.Math.max.name else if a = 9002 then Lib.Math.min.name else Lib.Math.abs.name
theorem zHL_ok : ∀ q ∈ zHL, lw_tbl[q.2.2]? = some (.methodLink (zcn.getD q.1.1 "") q.1.2 (zHn q.2.1)) ∧ goodWord (.methodLink (zcn.getD q.1.1 "") q.1.2 (zHn q.2.1)) = true := by decide +kernel
def zFi (c : Nat) : Bool := ((zcs c).2.2 == (zftL.getD c []).length) && (List.range (zcs c).2.2).all (fun k => decide (parseFieldDescriptor ((zcs c).2.1 k).2.2.1 = some (match zft c k with | 0 => .int | 3 => .boolean | _ => (match ((zcs c).2.1 k).2.2.1 with | "[I" => .array .int | d => (parseFieldDescriptor d).getD .int))))
theorem zFi_ok : (List.range 11).all zFi = true := by decide +kernel
