/-! the classes' field links -/
def FL_X0 : List (Nat × Nat × Nat × String × Nat) := [(9, 0, 2, "AlarmBoxes$Alarm", 1147), (15, 0, 3, "AlarmBoxes$Alarm", 1148), (19, 0, 4, "AlarmBoxes$Alarm", 1150), (22, 0, 5, "AlarmBoxes$Alarm", 1152), (26, 0, 6, "AlarmBoxes$Alarm", 1155), (29, 0, 7, "AlarmBoxes$Alarm", 1158), (32, 0, 0, "AlarmBoxes$Alarm", 1141), (36, 0, 1, "AlarmBoxes$Alarm", 1145)]
theorem fl_X0 : FL_X0.all (chkF RX0) = true := by decide +kernel
def FT_X0 : List (Nat × Nat × Nat) := FL_X0.map (fun z => (z.1, z.2.1, z.2.2.1)) ++ []
theorem ft_X0 : ∀ q ∈ FT_X0, FLk RX0 q.1 q.2.1 q.2.2 := by
  intro q hq
  rcases List.mem_append.mp hq with h | h
  · exact FT_ok fl_X0 q h
  · cases h
def FL_X1 : List (Nat × Nat × Nat × String × Nat) := [(12, 1, 0, "AlarmBoxes$Book", 380), (18, 1, 1, "AlarmBoxes$Book", 382), (22, 1, 2, "AlarmBoxes$Book", 383), (25, 1, 3, "AlarmBoxes$Book", 384), (29, 1, 4, "AlarmBoxes$Book", 385), (43, 0, 5, "AlarmBoxes$Alarm", 1153), (51, 0, 1, "AlarmBoxes$Alarm", 1146), (54, 0, 7, "AlarmBoxes$Alarm", 1159), (57, 0, 6, "AlarmBoxes$Alarm", 1156), (60, 0, 0, "AlarmBoxes$Alarm", 1142)]
theorem fl_X1 : FL_X1.all (chkF RX1) = true := by decide +kernel
def FT_X1 : List (Nat × Nat × Nat) := FL_X1.map (fun z => (z.1, z.2.1, z.2.2.1)) ++ []
theorem ft_X1 : ∀ q ∈ FT_X1, FLk RX1 q.1 q.2.1 q.2.2 := by
  intro q hq
  rcases List.mem_append.mp hq with h | h
  · exact FT_ok fl_X1 q h
  · cases h
def FL_X2 : List (Nat × Nat × Nat × String × Nat) := [(9, 2, 13, "AlarmBoxes$Box", 591), (15, 2, 0, "AlarmBoxes$Box", 564), (18, 2, 1, "AlarmBoxes$Box", 567), (24, 2, 2, "AlarmBoxes$Box", 569), (27, 2, 3, "AlarmBoxes$Box", 571), (30, 2, 4, "AlarmBoxes$Box", 573), (33, 2, 5, "AlarmBoxes$Box", 575), (36, 2, 6, "AlarmBoxes$Box", 577), (39, 2, 7, "AlarmBoxes$Box", 579), (42, 2, 8, "AlarmBoxes$Box", 582), (49, 2, 9, "AlarmBoxes$Box", 584), (52, 2, 10, "AlarmBoxes$Box", 586), (56, 2, 11, "AlarmBoxes$Box", 587), (59, 2, 12, "AlarmBoxes$Box", 590)]
theorem fl_X2 : FL_X2.all (chkF RX2) = true := by decide +kernel
def FT_X2 : List (Nat × Nat × Nat) := FL_X2.map (fun z => (z.1, z.2.1, z.2.2.1)) ++ []
theorem ft_X2 : ∀ q ∈ FT_X2, FLk RX2 q.1 q.2.1 q.2.2 := by
  intro q hq
  rcases List.mem_append.mp hq with h | h
  · exact FT_ok fl_X2 q h
  · cases h
def FL_X3 : List (Nat × Nat × Nat × String × Nat) := [(9, 3, 0, "AlarmBoxes$Brigade", 234), (15, 3, 1, "AlarmBoxes$Brigade", 235), (21, 3, 2, "AlarmBoxes$Brigade", 236), (25, 3, 3, "AlarmBoxes$Brigade", 239), (29, 3, 4, "AlarmBoxes$Brigade", 242), (32, 3, 5, "AlarmBoxes$Brigade", 244), (52, 2, 5, "AlarmBoxes$Box", 576), (63, 2, 6, "AlarmBoxes$Box", 578), (66, 5, 3, "AlarmBoxes$Company", 871), (70, 0, 0, "AlarmBoxes$Alarm", 1143), (84, 5, 2, "AlarmBoxes$Company", 868), (90, 5, 4, "AlarmBoxes$Company", 874), (101, 0, 3, "AlarmBoxes$Alarm", 1149), (106, 5, 1, "AlarmBoxes$Company", 865)]
theorem fl_X3 : FL_X3.all (chkF RX3) = true := by decide +kernel
def FT_X3 : List (Nat × Nat × Nat) := FL_X3.map (fun z => (z.1, z.2.1, z.2.2.1)) ++ []
theorem ft_X3 : ∀ q ∈ FT_X3, FLk RX3 q.1 q.2.1 q.2.2 := by
  intro q hq
  rcases List.mem_append.mp hq with h | h
  · exact FT_ok fl_X3 q h
  · cases h
def FL_X4 : List (Nat × Nat × Nat × String × Nat) := [(12, 4, 0, "AlarmBoxes$CardReader", 346), (21, 4, 1, "AlarmBoxes$CardReader", 348), (25, 4, 2, "AlarmBoxes$CardReader", 349), (29, 4, 3, "AlarmBoxes$CardReader", 350), (32, 4, 4, "AlarmBoxes$CardReader", 351), (35, 4, 5, "AlarmBoxes$CardReader", 352), (38, 4, 6, "AlarmBoxes$CardReader", 353), (41, 4, 7, "AlarmBoxes$CardReader", 354), (143, 8, 1, "AlarmBoxes$Letters", 307)]
theorem fl_X4 : FL_X4.all (chkF RX4) = true := by decide +kernel
def FT_X4 : List (Nat × Nat × Nat) := FL_X4.map (fun z => (z.1, z.2.1, z.2.2.1)) ++ []
theorem ft_X4 : ∀ q ∈ FT_X4, FLk RX4 q.1 q.2.1 q.2.2 := by
  intro q hq
  rcases List.mem_append.mp hq with h | h
  · exact FT_ok fl_X4 q h
  · cases h
def FL_X5 : List (Nat × Nat × Nat × String × Nat) := [(7, 5, 3, "AlarmBoxes$Company", 870), (13, 5, 4, "AlarmBoxes$Company", 873), (17, 5, 0, "AlarmBoxes$Company", 863), (20, 5, 1, "AlarmBoxes$Company", 864), (23, 5, 2, "AlarmBoxes$Company", 866)]
theorem fl_X5 : FL_X5.all (chkF RX5) = true := by decide +kernel
def FT_X5 : List (Nat × Nat × Nat) := FL_X5.map (fun z => (z.1, z.2.1, z.2.2.1)) ++ []
theorem ft_X5 : ∀ q ∈ FT_X5, FLk RX5 q.1 q.2.1 q.2.2 := by
  intro q hq
  rcases List.mem_append.mp hq with h | h
  · exact FT_ok fl_X5 q h
  · cases h
def FL_X6 : List (Nat × Nat × Nat × String × Nat) := [(9, 6, 0, "AlarmBoxes$Cover", 262), (15, 6, 1, "AlarmBoxes$Cover", 263), (18, 6, 2, "AlarmBoxes$Cover", 264), (21, 6, 3, "AlarmBoxes$Cover", 265), (27, 6, 4, "AlarmBoxes$Cover", 266), (34, 6, 5, "AlarmBoxes$Cover", 269), (38, 6, 6, "AlarmBoxes$Cover", 270), (42, 6, 7, "AlarmBoxes$Cover", 271), (45, 6, 8, "AlarmBoxes$Cover", 272), (68, 3, 2, "AlarmBoxes$Brigade", 237), (77, 5, 2, "AlarmBoxes$Company", 867), (84, 3, 3, "AlarmBoxes$Brigade", 240), (91, 3, 5, "AlarmBoxes$Brigade", 245), (94, 2, 7, "AlarmBoxes$Box", 580)]
theorem fl_X6 : FL_X6.all (chkF RX6) = true := by decide +kernel
def FT_X6 : List (Nat × Nat × Nat) := FL_X6.map (fun z => (z.1, z.2.1, z.2.2.1)) ++ []
theorem ft_X6 : ∀ q ∈ FT_X6, FLk RX6 q.1 q.2.1 q.2.2 := by
  intro q hq
  rcases List.mem_append.mp hq with h | h
  · exact FT_ok fl_X6 q h
  · cases h
def FL_X7 : List (Nat × Nat × Nat × String × Nat) := [(9, 7, 0, "AlarmBoxes$Deck", 320), (15, 7, 1, "AlarmBoxes$Deck", 321), (18, 7, 2, "AlarmBoxes$Deck", 322), (21, 7, 3, "AlarmBoxes$Deck", 323), (24, 7, 4, "AlarmBoxes$Deck", 324), (27, 7, 5, "AlarmBoxes$Deck", 325), (31, 7, 6, "AlarmBoxes$Deck", 326), (34, 7, 7, "AlarmBoxes$Deck", 327)]
theorem fl_X7 : FL_X7.all (chkF RX7) = true := by decide +kernel
def FT_X7 : List (Nat × Nat × Nat) := FL_X7.map (fun z => (z.1, z.2.1, z.2.2.1)) ++ []
theorem ft_X7 : ∀ q ∈ FT_X7, FLk RX7 q.1 q.2.1 q.2.2 := by
  intro q hq
  rcases List.mem_append.mp hq with h | h
  · exact FT_ok fl_X7 q h
  · cases h
def FL_X8 : List (Nat × Nat × Nat × String × Nat) := [(9, 8, 0, "AlarmBoxes$Letters", 304), (15, 8, 1, "AlarmBoxes$Letters", 305)]
theorem fl_X8 : FL_X8.all (chkF RX8) = true := by decide +kernel
def FT_X8 : List (Nat × Nat × Nat) := FL_X8.map (fun z => (z.1, z.2.1, z.2.2.1)) ++ []
theorem ft_X8 : ∀ q ∈ FT_X8, FLk RX8 q.1 q.2.1 q.2.2 := by
  intro q hq
  rcases List.mem_append.mp hq with h | h
  · exact FT_ok fl_X8 q h
  · cases h
def FL_X9 : List (Nat × Nat × Nat × String × Nat) := [(12, 9, 0, "AlarmBoxes$Loop", 408), (18, 9, 1, "AlarmBoxes$Loop", 411), (22, 9, 2, "AlarmBoxes$Loop", 412), (26, 9, 3, "AlarmBoxes$Loop", 413), (30, 9, 4, "AlarmBoxes$Loop", 414), (33, 9, 5, "AlarmBoxes$Loop", 415), (36, 9, 6, "AlarmBoxes$Loop", 416), (39, 9, 7, "AlarmBoxes$Loop", 417), (52, 2, 0, "AlarmBoxes$Box", 565), (66, 2, 12, "AlarmBoxes$Box", 589), (70, 2, 13, "AlarmBoxes$Box", 593)]
theorem fl_X9 : FL_X9.all (chkF RX9) = true := by decide +kernel
def FT_X9 : List (Nat × Nat × Nat) := FL_X9.map (fun z => (z.1, z.2.1, z.2.2.1)) ++ []
theorem ft_X9 : ∀ q ∈ FT_X9, FLk RX9 q.1 q.2.1 q.2.2 := by
  intro q hq
  rcases List.mem_append.mp hq with h | h
  · exact FT_ok fl_X9 q h
  · cases h
def FL_X10 : List (Nat × Nat × Nat × String × Nat) := [(9, 10, 0, "AlarmBoxes$Reading", 188), (15, 10, 1, "AlarmBoxes$Reading", 189), (20, 10, 2, "AlarmBoxes$Reading", 190), (23, 10, 3, "AlarmBoxes$Reading", 191), (27, 10, 4, "AlarmBoxes$Reading", 192), (30, 10, 5, "AlarmBoxes$Reading", 193), (36, 10, 6, "AlarmBoxes$Reading", 194), (40, 10, 7, "AlarmBoxes$Reading", 195), (44, 10, 8, "AlarmBoxes$Reading", 196), (47, 10, 9, "AlarmBoxes$Reading", 197), (50, 9, 0, "AlarmBoxes$Loop", 409), (109, 2, 9, "AlarmBoxes$Box", 585)]
theorem fl_X10 : FL_X10.all (chkF RX10) = true := by decide +kernel
def FT_X10 : List (Nat × Nat × Nat) := FL_X10.map (fun z => (z.1, z.2.1, z.2.2.1)) ++ []
theorem ft_X10 : ∀ q ∈ FT_X10, FLk RX10 q.1 q.2.1 q.2.2 := by
  intro q hq
  rcases List.mem_append.mp hq with h | h
  · exact FT_ok fl_X10 q h
  · cases h
def FL_X11 : List (Nat × Nat × Nat × String × Nat) := [(11, 11, 0, "AlarmBoxes", 435), (18, 11, 1, "AlarmBoxes", 436), (25, 11, 2, "AlarmBoxes", 437), (29, 6, 5, "AlarmBoxes$Cover", 268), (33, 11, 3, "AlarmBoxes", 438), (34, 6, 4, "AlarmBoxes$Cover", 267), (38, 11, 4, "AlarmBoxes", 439), (42, 11, 5, "AlarmBoxes", 440), (46, 4, 0, "AlarmBoxes$CardReader", 347), (50, 11, 6, "AlarmBoxes", 441), (54, 11, 7, "AlarmBoxes", 442), (58, 11, 8, "AlarmBoxes", 443), (65, 11, 9, "AlarmBoxes", 444), (69, 11, 10, "AlarmBoxes", 445), (107, 9, 0, "AlarmBoxes$Loop", 410), (119, 2, 2, "AlarmBoxes$Box", 570), (126, 2, 12, "AlarmBoxes$Box", 588), (133, 2, 1, "AlarmBoxes$Box", 568), (136, 2, 13, "AlarmBoxes$Box", 592), (150, 10, 9, "AlarmBoxes$Reading", 198), (176, 3, 4, "AlarmBoxes$Brigade", 243), (179, 3, 5, "AlarmBoxes$Brigade", 246), (188, 8, 1, "AlarmBoxes$Letters", 306), (198, 1, 0, "AlarmBoxes$Book", 381), (217, 0, 5, "AlarmBoxes$Alarm", 1154), (220, 0, 4, "AlarmBoxes$Alarm", 1151), (227, 0, 6, "AlarmBoxes$Alarm", 1157), (230, 0, 7, "AlarmBoxes$Alarm", 1160), (240, 5, 3, "AlarmBoxes$Company", 872), (245, 5, 2, "AlarmBoxes$Company", 869), (248, 5, 4, "AlarmBoxes$Company", 875), (285, 2, 7, "AlarmBoxes$Box", 581), (291, 2, 3, "AlarmBoxes$Box", 572), (294, 2, 0, "AlarmBoxes$Box", 566), (304, 2, 4, "AlarmBoxes$Box", 574), (307, 2, 8, "AlarmBoxes$Box", 583), (310, 3, 3, "AlarmBoxes$Brigade", 241), (313, 3, 2, "AlarmBoxes$Brigade", 238), (322, 1, 4, "AlarmBoxes$Book", 386), (325, 7, 7, "AlarmBoxes$Deck", 328), (341, 0, 0, "AlarmBoxes$Alarm", 1144)]
theorem fl_X11 : FL_X11.all (chkF RX11) = true := by decide +kernel
def FT_X11 : List (Nat × Nat × Nat) := FL_X11.map (fun z => (z.1, z.2.1, z.2.2.1)) ++ []
theorem ft_X11 : ∀ q ∈ FT_X11, FLk RX11 q.1 q.2.1 q.2.2 := by
  intro q hq
  rcases List.mem_append.mp hq with h | h
  · exact FT_ok fl_X11 q h
  · cases h
def FL_X12 : List (Nat × Nat × Nat × String × Nat) := [(7, 12, 3, "AlarmBoxesModel", 1502), (13, 12, 4, "AlarmBoxesModel", 1503), (16, 12, 5, "AlarmBoxesModel", 1504), (19, 12, 6, "AlarmBoxesModel", 1505), (22, 12, 7, "AlarmBoxesModel", 1506), (25, 12, 8, "AlarmBoxesModel", 1507), (28, 12, 9, "AlarmBoxesModel", 1508), (31, 12, 10, "AlarmBoxesModel", 1509), (34, 12, 11, "AlarmBoxesModel", 1510), (38, 12, 12, "AlarmBoxesModel", 1511), (41, 12, 13, "AlarmBoxesModel", 1512), (44, 12, 14, "AlarmBoxesModel", 1513), (47, 12, 15, "AlarmBoxesModel", 1514), (50, 12, 16, "AlarmBoxesModel", 1515), (53, 12, 17, "AlarmBoxesModel", 1516), (56, 12, 18, "AlarmBoxesModel", 1517), (59, 12, 19, "AlarmBoxesModel", 1518), (62, 12, 20, "AlarmBoxesModel", 1519), (65, 12, 24, "AlarmBoxesModel", 1523), (68, 12, 25, "AlarmBoxesModel", 1524), (71, 12, 26, "AlarmBoxesModel", 1525), (74, 12, 27, "AlarmBoxesModel", 1526), (78, 12, 28, "AlarmBoxesModel", 1527), (81, 12, 33, "AlarmBoxesModel", 1532), (84, 12, 34, "AlarmBoxesModel", 1533), (87, 12, 36, "AlarmBoxesModel", 1535), (90, 12, 37, "AlarmBoxesModel", 1536), (93, 12, 38, "AlarmBoxesModel", 1537), (96, 12, 39, "AlarmBoxesModel", 1538), (99, 12, 40, "AlarmBoxesModel", 1539), (102, 12, 44, "AlarmBoxesModel", 1543), (105, 12, 54, "AlarmBoxesModel", 1553), (108, 12, 55, "AlarmBoxesModel", 1554), (111, 12, 56, "AlarmBoxesModel", 1555), (114, 12, 57, "AlarmBoxesModel", 1556), (117, 12, 58, "AlarmBoxesModel", 1557), (120, 12, 60, "AlarmBoxesModel", 1559), (123, 12, 61, "AlarmBoxesModel", 1560), (126, 12, 62, "AlarmBoxesModel", 1561), (129, 12, 63, "AlarmBoxesModel", 1562), (132, 12, 64, "AlarmBoxesModel", 1563), (135, 12, 65, "AlarmBoxesModel", 1564), (138, 12, 66, "AlarmBoxesModel", 1565), (141, 12, 67, "AlarmBoxesModel", 1566), (144, 12, 68, "AlarmBoxesModel", 1567), (147, 12, 69, "AlarmBoxesModel", 1568), (150, 12, 70, "AlarmBoxesModel", 1569), (153, 12, 72, "AlarmBoxesModel", 1571), (156, 12, 73, "AlarmBoxesModel", 1572), (159, 12, 74, "AlarmBoxesModel", 1573), (162, 12, 75, "AlarmBoxesModel", 1574), (165, 12, 76, "AlarmBoxesModel", 1575), (168, 12, 77, "AlarmBoxesModel", 1576), (171, 12, 78, "AlarmBoxesModel", 1577), (174, 12, 79, "AlarmBoxesModel", 1578), (177, 12, 81, "AlarmBoxesModel", 1580), (180, 12, 82, "AlarmBoxesModel", 1581), (183, 12, 83, "AlarmBoxesModel", 1582), (186, 12, 41, "AlarmBoxesModel", 1540), (190, 12, 42, "AlarmBoxesModel", 1541), (193, 12, 21, "AlarmBoxesModel", 1520), (196, 12, 0, "AlarmBoxesModel", 1499), (199, 12, 2, "AlarmBoxesModel", 1501), (217, 12, 1, "AlarmBoxesModel", 1500), (238, 12, 30, "AlarmBoxesModel", 1529), (241, 12, 29, "AlarmBoxesModel", 1528), (250, 12, 22, "AlarmBoxesModel", 1521), (257, 12, 31, "AlarmBoxesModel", 1530), (273, 12, 23, "AlarmBoxesModel", 1522), (290, 12, 32, "AlarmBoxesModel", 1531), (293, 12, 35, "AlarmBoxesModel", 1534), (301, 12, 43, "AlarmBoxesModel", 1542), (304, 12, 45, "AlarmBoxesModel", 1544), (307, 12, 46, "AlarmBoxesModel", 1545), (310, 12, 47, "AlarmBoxesModel", 1546), (313, 12, 49, "AlarmBoxesModel", 1548), (317, 12, 50, "AlarmBoxesModel", 1549), (320, 12, 48, "AlarmBoxesModel", 1547), (330, 12, 51, "AlarmBoxesModel", 1550), (333, 12, 59, "AlarmBoxesModel", 1558), (377, 12, 53, "AlarmBoxesModel", 1552), (393, 12, 52, "AlarmBoxesModel", 1551), (405, 12, 71, "AlarmBoxesModel", 1570), (433, 12, 84, "AlarmBoxesModel", 1583), (436, 12, 85, "AlarmBoxesModel", 1584), (439, 12, 86, "AlarmBoxesModel", 1585), (442, 12, 87, "AlarmBoxesModel", 1586), (469, 12, 80, "AlarmBoxesModel", 1579)]
theorem fl_X12 : FL_X12.all (chkF RX12) = true := by decide +kernel
def FT_X12 : List (Nat × Nat × Nat) := FL_X12.map (fun z => (z.1, z.2.1, z.2.2.1)) ++ []
theorem ft_X12 : ∀ q ∈ FT_X12, FLk RX12 q.1 q.2.1 q.2.2 := by
  intro q hq
  rcases List.mem_append.mp hq with h | h
  · exact FT_ok fl_X12 q h
  · cases h
def FL_Jx4a65c : List (Nat × Nat × Nat × String × Nat) := [(9, 13, 1, "java/util/ArrayList", 174), (48, 13, 2, "java/util/ArrayList", 175)]
theorem fl_Jx4a65c : FL_Jx4a65c.all (chkF RJx4a65c) = true := by decide +kernel
def FT_Jx4a65c : List (Nat × Nat × Nat) := FL_Jx4a65c.map (fun z => (z.1, z.2.1, z.2.2.1)) ++ [(63, 13, 0)]
theorem fx_Jx4a65c_63 : FLk RJx4a65c 63 13 0 := ⟨by decide, by decide, "java/util/ArrayList", TBL_in 177 (by decide +kernel) rfl, Or.inr (TBL_in 178 (by decide +kernel) rfl)⟩
theorem ft_Jx4a65c : ∀ q ∈ FT_Jx4a65c, FLk RJx4a65c q.1 q.2.1 q.2.2 := by
  intro q hq
  rcases List.mem_append.mp hq with h | h
  · exact FT_ok fl_Jx4a65c q h
  · simp only [List.mem_cons, List.not_mem_nil, or_false] at h
    rcases h with rfl
    · exact fx_Jx4a65c_63
def FL_Jxc12de : List (Nat × Nat × Nat × String × Nat) := [(7, 13, 0, "java/util/AbstractList", 176)]
theorem fl_Jxc12de : FL_Jxc12de.all (chkF RJxc12de) = true := by decide +kernel
def FT_Jxc12de : List (Nat × Nat × Nat) := FL_Jxc12de.map (fun z => (z.1, z.2.1, z.2.2.1)) ++ []
theorem ft_Jxc12de : ∀ q ∈ FT_Jxc12de, FLk RJxc12de q.1 q.2.1 q.2.2 := by
  intro q hq
  rcases List.mem_append.mp hq with h | h
  · exact FT_ok fl_Jxc12de q h
  · cases h
def FL_J9 : List (Nat × Nat × Nat × String × Nat) := []
theorem fl_J9 : FL_J9.all (chkF RJ9) = true := by decide +kernel
def FT_J9 : List (Nat × Nat × Nat) := FL_J9.map (fun z => (z.1, z.2.1, z.2.2.1)) ++ []
theorem ft_J9 : ∀ q ∈ FT_J9, FLk RJ9 q.1 q.2.1 q.2.2 := by
  intro q hq
  rcases List.mem_append.mp hq with h | h
  · exact FT_ok fl_J9 q h
  · cases h
def FL_J13 : List (Nat × Nat × Nat × String × Nat) := []
theorem fl_J13 : FL_J13.all (chkF RJ13) = true := by decide +kernel
def FT_J13 : List (Nat × Nat × Nat) := FL_J13.map (fun z => (z.1, z.2.1, z.2.2.1)) ++ []
theorem ft_J13 : ∀ q ∈ FT_J13, FLk RJ13 q.1 q.2.1 q.2.2 := by
  intro q hq
  rcases List.mem_append.mp hq with h | h
  · exact FT_ok fl_J13 q h
  · cases h
def FL_J15 : List (Nat × Nat × Nat × String × Nat) := []
theorem fl_J15 : FL_J15.all (chkF RJ15) = true := by decide +kernel
def FT_J15 : List (Nat × Nat × Nat) := FL_J15.map (fun z => (z.1, z.2.1, z.2.2.1)) ++ []
theorem ft_J15 : ∀ q ∈ FT_J15, FLk RJ15 q.1 q.2.1 q.2.2 := by
  intro q hq
  rcases List.mem_append.mp hq with h | h
  · exact FT_ok fl_J15 q h
  · cases h
def FL_J3 : List (Nat × Nat × Nat × String × Nat) := []
theorem fl_J3 : FL_J3.all (chkF RJ3) = true := by decide +kernel
def FT_J3 : List (Nat × Nat × Nat) := FL_J3.map (fun z => (z.1, z.2.1, z.2.2.1)) ++ []
theorem ft_J3 : ∀ q ∈ FT_J3, FLk RJ3 q.1 q.2.1 q.2.2 := by
  intro q hq
  rcases List.mem_append.mp hq with h | h
  · exact FT_ok fl_J3 q h
  · cases h
def FL_J8 : List (Nat × Nat × Nat × String × Nat) := []
theorem fl_J8 : FL_J8.all (chkF RJ8) = true := by decide +kernel
def FT_J8 : List (Nat × Nat × Nat) := FL_J8.map (fun z => (z.1, z.2.1, z.2.2.1)) ++ []
theorem ft_J8 : ∀ q ∈ FT_J8, FLk RJ8 q.1 q.2.1 q.2.2 := by
  intro q hq
  rcases List.mem_append.mp hq with h | h
  · exact FT_ok fl_J8 q h
  · cases h
def FL_J7 : List (Nat × Nat × Nat × String × Nat) := []
theorem fl_J7 : FL_J7.all (chkF RJ7) = true := by decide +kernel
def FT_J7 : List (Nat × Nat × Nat) := FL_J7.map (fun z => (z.1, z.2.1, z.2.2.1)) ++ []
theorem ft_J7 : ∀ q ∈ FT_J7, FLk RJ7 q.1 q.2.1 q.2.2 := by
  intro q hq
  rcases List.mem_append.mp hq with h | h
  · exact FT_ok fl_J7 q h
  · cases h
def FL_J1 : List (Nat × Nat × Nat × String × Nat) := []
theorem fl_J1 : FL_J1.all (chkF RJ1) = true := by decide +kernel
def FT_J1 : List (Nat × Nat × Nat) := FL_J1.map (fun z => (z.1, z.2.1, z.2.2.1)) ++ []
theorem ft_J1 : ∀ q ∈ FT_J1, FLk RJ1 q.1 q.2.1 q.2.2 := by
  intro q hq
  rcases List.mem_append.mp hq with h | h
  · exact FT_ok fl_J1 q h
  · cases h
def FL_J2 : List (Nat × Nat × Nat × String × Nat) := []
theorem fl_J2 : FL_J2.all (chkF RJ2) = true := by decide +kernel
def FT_J2 : List (Nat × Nat × Nat) := FL_J2.map (fun z => (z.1, z.2.1, z.2.2.1)) ++ []
theorem ft_J2 : ∀ q ∈ FT_J2, FLk RJ2 q.1 q.2.1 q.2.2 := by
  intro q hq
  rcases List.mem_append.mp hq with h | h
  · exact FT_ok fl_J2 q h
  · cases h
def FL_J0 : List (Nat × Nat × Nat × String × Nat) := []
theorem fl_J0 : FL_J0.all (chkF RJ0) = true := by decide +kernel
def FT_J0 : List (Nat × Nat × Nat) := FL_J0.map (fun z => (z.1, z.2.1, z.2.2.1)) ++ []
theorem ft_J0 : ∀ q ∈ FT_J0, FLk RJ0 q.1 q.2.1 q.2.2 := by
  intro q hq
  rcases List.mem_append.mp hq with h | h
  · exact FT_ok fl_J0 q h
  · cases h
def FL_Jxa1e45 : List (Nat × Nat × Nat × String × Nat) := []
theorem fl_Jxa1e45 : FL_Jxa1e45.all (chkF RJxa1e45) = true := by decide +kernel
def FT_Jxa1e45 : List (Nat × Nat × Nat) := FL_Jxa1e45.map (fun z => (z.1, z.2.1, z.2.2.1)) ++ []
theorem ft_Jxa1e45 : ∀ q ∈ FT_Jxa1e45, FLk RJxa1e45 q.1 q.2.1 q.2.2 := by
  intro q hq
  rcases List.mem_append.mp hq with h | h
  · exact FT_ok fl_Jxa1e45 q h
  · cases h
