/-! ===== methods, links and segments: tables by program, each held against the printed words by the kernel ===== -/
def lnth {α : Type} : List α → α → Nat → α
  | [], d, _ => d
  | a :: _, _, 0 => a
  | _ :: l, d, n + 1 => lnth l d n
def TX13 : u_T := fun k => match k with
  | 0 => ("java/lang/String", "value", "[B", true)
  | _ => ("java/lang/String", "coder", "B", false)
def tyX13 : Nat → FieldType := fun k => match k with
  | 0 => .array .byte
  | _ => .byte
abbrev vwX : List vw_C := vwCl ++ [("java/lang/String", TX13, 2)]
def tyO (c : Nat) : Nat → FieldType := lnth [tyX0, tyX1, tyX2, tyX3, tyX4, tyX5, tyX6, tyX7, tyX8, tyX9, tyX10, tyX11, tyX12, tyX13] (fun _ => .int) c
def cnm (c : Nat) : String := (lnth vwX ("", TX13, 0) c).1
def ftb (c : Nat) : u_T := (lnth vwX ("", TX13, 0) c).2.1
def isR (c k : Nat) : Bool := match tyO c k with
  | .object _ => true
  | .array _ => true
  | _ => false
/-- a method: its name, its bytes, its locals, its answer; 0 static, 1 called by its receiver, 2 a constructor; how many it takes; places of its words; its handlers; the links of its class -/
abbrev MTE : Type := MethodName × ByteArray × Nat × Option FieldType × Nat × Nat × (Nat × Nat × Nat × Nat) × List (Nat × Nat × Nat × Nat) × Nat
def MT_0 : List MTE := [(⟨"TreeTalk", "<init>", "()V"⟩, prog_1_method_1_code, 2, none, 2, 1, (125, 124, 0, 95), [], 0),
  (⟨"TreeTalk", "elder", "(I)I"⟩, prog_1_method_2_code, 2, (some .int), 1, 2, (481, 479, 480, 95), [], 0),
  (⟨"TreeTalk", "left", "(IZ)Z"⟩, prog_1_method_3_code, 3, (some .boolean), 1, 3, (508, 506, 507, 95), [], 0),
  (⟨"TreeTalk", "place", "(I)I"⟩, prog_1_method_4_code, 2, (some .int), 1, 2, (518, 516, 517, 95), [], 0),
  (⟨"TreeTalk", "heed", "(III)Z"⟩, prog_1_method_5_code, 4, (some .boolean), 1, 4, (522, 520, 521, 95), [], 0),
  (⟨"TreeTalk", "matter", "(II)I"⟩, prog_1_method_6_code, 3, (some .int), 1, 3, (531, 529, 530, 95), [], 0),
  (⟨"TreeTalk", "hold", "(IIIII)Z"⟩, prog_1_method_7_code, 7, (some .boolean), 1, 6, (597, 595, 596, 95), [], 0),
  (⟨"TreeTalk", "held", "(IIII)I"⟩, prog_1_method_8_code, 6, (some .int), 1, 5, (614, 612, 613, 95), [], 0),
  (⟨"TreeTalk", "care", "(IIII)Z"⟩, prog_1_method_9_code, 6, (some .boolean), 1, 5, (622, 620, 621, 95), [], 0),
  (⟨"TreeTalk", "clash", "(IIIIII)Z"⟩, prog_1_method_10_code, 8, (some .boolean), 1, 7, (626, 624, 625, 95), [], 0),
  (⟨"TreeTalk", "bear", "(III)I"⟩, prog_1_method_11_code, 5, (some .int), 1, 4, (634, 632, 633, 95), [], 0),
  (⟨"TreeTalk", "loss", "(III)I"⟩, prog_1_method_12_code, 5, (some .int), 1, 4, (650, 648, 649, 95), [], 0),
  (⟨"TreeTalk", "feed", "(IIIII)I"⟩, prog_1_method_13_code, 6, (some .int), 1, 6, (658, 656, 657, 95), [], 0),
  (⟨"TreeTalk", "end", "(I)Z"⟩, prog_1_method_14_code, 2, (some .boolean), 1, 2, (670, 668, 669, 95), [], 0),
  (⟨"TreeTalk", "fault", "(I)I"⟩, prog_1_method_15_code, 2, (some .int), 1, 2, (674, 672, 673, 95), [], 0),
  (⟨"TreeTalk", "law", "()I"⟩, prog_1_method_16_code, 1, (some .int), 1, 1, (833, 831, 832, 95), [], 0),
  (⟨"TreeTalk", "mind", "()I"⟩, prog_1_method_17_code, 1, (some .int), 1, 1, (870, 868, 869, 95), [], 0),
  (⟨"TreeTalk", "by", "(II)Z"⟩, prog_1_method_18_code, 4, (some .boolean), 1, 3, (874, 872, 873, 95), [], 0),
  (⟨"TreeTalk", "minded", "(II)Z"⟩, prog_1_method_19_code, 3, (some .boolean), 1, 3, (878, 876, 877, 95), [], 0),
  (⟨"TreeTalk", "worth", "(IIIIIII)I"⟩, prog_1_method_20_code, 10, (some .int), 1, 8, (1198, 1196, 1197, 95), [], 0)]
def MT_1 : List MTE := [(⟨"TreeTalk", "ground", "(II)Z"⟩, prog_1_method_21_code, 4, (some .boolean), 1, 3, (882, 880, 881, 95), [], 0),
  (⟨"TreeTalk", "talk", "(II)I"⟩, prog_1_method_22_code, 4, (some .int), 1, 3, (886, 884, 885, 95), [], 0),
  (⟨"TreeTalk", "said", "(III)I"⟩, prog_1_method_23_code, 4, (some .int), 1, 4, (1270, 1268, 1269, 95), [], 0),
  (⟨"TreeTalk", "promise", "(IIIII)Z"⟩, prog_1_method_24_code, 7, (some .boolean), 1, 6, (998, 996, 997, 95), [], 0),
  (⟨"TreeTalk", "promised", "(IZ)I"⟩, prog_1_method_25_code, 3, (some .int), 1, 3, (1006, 1004, 1005, 95), [], 0),
  (⟨"TreeTalk", "all", "(II)I"⟩, prog_1_method_26_code, 4, (some .int), 1, 3, (1014, 1012, 1013, 95), [], 0),
  (⟨"TreeTalk", "fair", "(I)I"⟩, prog_1_method_27_code, 3, (some .int), 1, 2, (1027, 1025, 1026, 95), [], 0),
  (⟨"TreeTalk", "barred", "(I)I"⟩, prog_1_method_28_code, 3, (some .int), 1, 2, (1040, 1038, 1039, 95), [], 0),
  (⟨"TreeTalk", "open", "(I)I"⟩, prog_1_method_29_code, 3, (some .int), 1, 2, (1057, 1055, 1056, 95), [], 0),
  (⟨"TreeTalk", "gift", "(IIIIIII)I"⟩, prog_1_method_30_code, 10, (some .int), 1, 8, (1071, 1069, 1070, 95), [], 0),
  (⟨"TreeTalk", "trade", "(II)I"⟩, prog_1_method_31_code, 5, (some .int), 1, 3, (1079, 1077, 1078, 95), [], 0),
  (⟨"TreeTalk", "hands", "(II)I"⟩, prog_1_method_32_code, 6, (some .int), 1, 3, (1111, 1109, 1110, 95), [], 0),
  (⟨"TreeTalk", "aside", "(IIIIIZ)Z"⟩, prog_1_method_33_code, 8, (some .boolean), 1, 7, (1124, 1122, 1123, 95), [], 0),
  (⟨"TreeTalk", "taken", "(IIIII)I"⟩, prog_1_method_34_code, 7, (some .int), 1, 6, (1132, 1130, 1131, 95), [], 0),
  (⟨"TreeTalk", "twice", "(IIIIII)I"⟩, prog_1_method_35_code, 8, (some .int), 1, 7, (1148, 1146, 1147, 95), [], 0),
  (⟨"TreeTalk", "mistaken", "(III)I"⟩, prog_1_method_36_code, 8, (some .int), 1, 4, (1152, 1150, 1151, 95), [], 0),
  (⟨"TreeTalk", "about", "(II)I"⟩, prog_1_method_37_code, 4, (some .int), 1, 3, (1156, 1154, 1155, 95), [], 0),
  (⟨"TreeTalk", "back", "(III)I"⟩, prog_1_method_38_code, 9, (some .int), 1, 4, (1164, 1162, 1163, 95), [], 0),
  (⟨"TreeTalk", "leans", "(II)I"⟩, prog_1_method_39_code, 6, (some .int), 1, 3, (1172, 1170, 1171, 95), [], 0),
  (⟨"TreeTalk", "minds", "(II)I"⟩, prog_1_method_40_code, 4, (some .int), 1, 3, (1186, 1184, 1185, 95), [], 0)]
def MT_2 : List MTE := [(⟨"TreeTalk", "count", "(I)I"⟩, prog_1_method_41_code, 2, (some .int), 1, 2, (1190, 1188, 1189, 95), [], 0),
  (⟨"TreeTalk", "slot", "(II)I"⟩, prog_1_method_42_code, 2, (some .int), 0, 2, (543, 542, 0, 95), [], 0),
  (⟨"TreeTalk", "matterAt", "(I)LTreeTalk$Matter;"⟩, prog_1_method_43_code, 2, (some (.object "TreeTalk$Matter")), 1, 2, (601, 600, 2, 95), [], 0),
  (⟨"TreeTalk", "unsettleFrom", "(I)V"⟩, prog_1_method_44_code, 2, none, 1, 2, (485, 484, 0, 95), [], 0),
  (⟨"TreeTalk", "settle", "(I)V"⟩, prog_1_method_45_code, 4, none, 1, 2, (890, 889, 18, 95), [], 0),
  (⟨"TreeTalk", "takenBy", "(IIIII)I"⟩, prog_1_method_46_code, 7, (some .int), 1, 6, (1136, 1135, 41, 95), [], 0),
  (⟨"TreeTalk", "gainByHidingOf", "(III)I"⟩, prog_1_method_47_code, 6, (some .int), 1, 4, (1168, 1167, 42, 95), [], 0),
  (⟨"TreeTalk", "comesFirst", "(II)Z"⟩, prog_1_method_48_code, 4, (some .boolean), 0, 2, (1047, 1046, 0, 95), [], 0),
  (⟨"TreeTalkModel", "<init>", "()V"⟩, prog_14_method_1_code, 1, none, 2, 1, (1275, 1274, 0, 105), [], 13),
  (⟨"TreeTalkModel", "thrown", "()I"⟩, prog_14_method_2_code, 1, (some .int), 1, 1, (1539, 1537, 1538, 105), [], 13),
  (⟨"TreeTalkModel", "isIn", "(III)Z"⟩, prog_14_method_3_code, 3, (some .boolean), 0, 3, (1546, 1545, 0, 105), [], 13),
  (⟨"TreeTalkModel", "isElder", "(I)Z"⟩, prog_14_method_4_code, 2, (some .boolean), 1, 2, (1554, 1553, 45, 105), [], 13),
  (⟨"TreeTalkModel", "isMatter", "(I)Z"⟩, prog_14_method_5_code, 2, (some .boolean), 1, 2, (1586, 1585, 49, 105), [], 13),
  (⟨"TreeTalkModel", "isPart", "(II)Z"⟩, prog_14_method_6_code, 3, (some .boolean), 1, 3, (1582, 1581, 48, 105), [], 13),
  (⟨"TreeTalkModel", "isWay", "(III)Z"⟩, prog_14_method_7_code, 4, (some .boolean), 1, 4, (1578, 1577, 47, 105), [], 13),
  (⟨"TreeTalkModel", "elder", "(I)I"⟩, prog_14_method_8_code, 3, (some .int), 1, 2, (1543, 1541, 1542, 105), [], 13),
  (⟨"TreeTalkModel", "left", "(IZ)Z"⟩, prog_14_method_9_code, 3, (some .boolean), 1, 3, (1550, 1548, 1549, 105), [], 13),
  (⟨"TreeTalkModel", "sit", "()V"⟩, prog_14_method_10_code, 3, none, 1, 1, (1562, 1561, 46, 105), [], 13),
  (⟨"TreeTalkModel", "place", "(I)I"⟩, prog_14_method_11_code, 2, (some .int), 1, 2, (1558, 1556, 1557, 105), [], 13),
  (⟨"TreeTalkModel", "heed", "(III)Z"⟩, prog_14_method_12_code, 4, (some .boolean), 1, 4, (1566, 1564, 1565, 105), [], 13)]
def MT_3 : List MTE := [(⟨"TreeTalkModel", "matter", "(II)I"⟩, prog_14_method_13_code, 3, (some .int), 1, 3, (1570, 1568, 1569, 105), [], 13),
  (⟨"TreeTalkModel", "holdAt", "(IIII)I"⟩, prog_14_method_14_code, 4, (some .int), 0, 4, (1589, 1588, 0, 105), [], 13),
  (⟨"TreeTalkModel", "hold", "(IIIII)Z"⟩, prog_14_method_15_code, 6, (some .boolean), 1, 6, (1574, 1572, 1573, 105), [], 13),
  (⟨"TreeTalkModel", "held", "(IIII)I"⟩, prog_14_method_16_code, 5, (some .int), 1, 5, (1593, 1591, 1592, 105), [], 13),
  (⟨"TreeTalkModel", "care", "(IIII)Z"⟩, prog_14_method_17_code, 5, (some .boolean), 1, 5, (1597, 1595, 1596, 105), [], 13),
  (⟨"TreeTalkModel", "clash", "(IIIIII)Z"⟩, prog_14_method_18_code, 7, (some .boolean), 1, 7, (1601, 1599, 1600, 105), [], 13),
  (⟨"TreeTalkModel", "wayIn", "(III)I"⟩, prog_14_method_19_code, 3, (some .int), 0, 3, (1612, 1611, 0, 105), [], 13),
  (⟨"TreeTalkModel", "isProposal", "(II)Z"⟩, prog_14_method_20_code, 4, (some .boolean), 1, 3, (1609, 1608, 50, 105), [], 13),
  (⟨"TreeTalkModel", "wayOf", "(III)I"⟩, prog_14_method_21_code, 4, (some .int), 1, 4, (1624, 1623, 53, 105), [], 13),
  (⟨"TreeTalkModel", "clashesIn", "(IIIII)Z"⟩, prog_14_method_22_code, 8, (some .boolean), 1, 6, (1632, 1631, 55, 105), [], 13),
  (⟨"TreeTalkModel", "canBearWay", "(IIII)Z"⟩, prog_14_method_23_code, 6, (some .boolean), 1, 5, (1628, 1627, 54, 105), [], 13),
  (⟨"TreeTalkModel", "bears", "(IIII)Z"⟩, prog_14_method_24_code, 6, (some .boolean), 1, 5, (1620, 1619, 52, 105), [], 13),
  (⟨"TreeTalkModel", "every", "(I)I"⟩, prog_14_method_25_code, 2, (some .int), 1, 2, (1616, 1615, 51, 105), [], 13),
  (⟨"TreeTalkModel", "bear", "(III)I"⟩, prog_14_method_26_code, 4, (some .int), 1, 4, (1605, 1603, 1604, 105), [], 13),
  (⟨"TreeTalkModel", "lossOf", "(III)I"⟩, prog_14_method_27_code, 8, (some .int), 1, 4, (1640, 1639, 56, 105), [], 13),
  (⟨"TreeTalkModel", "loss", "(III)I"⟩, prog_14_method_28_code, 4, (some .int), 1, 4, (1636, 1634, 1635, 105), [], 13),
  (⟨"TreeTalkModel", "bytesIn", "(I)I"⟩, prog_14_method_29_code, 3, (some .int), 0, 1, (1647, 1646, 0, 105), [], 13),
  (⟨"TreeTalkModel", "put", "(I)V"⟩, prog_14_method_30_code, 3, none, 1, 2, (1651, 1650, 57, 105), [], 13),
  (⟨"TreeTalkModel", "feed", "(IIIII)I"⟩, prog_14_method_31_code, 6, (some .int), 1, 6, (1644, 1642, 1643, 105), [], 13),
  (⟨"TreeTalkModel", "end", "(I)Z"⟩, prog_14_method_32_code, 2, (some .boolean), 1, 2, (1655, 1653, 1654, 105), [], 13)]
def MT_4 : List MTE := [(⟨"TreeTalkModel", "look", "()I"⟩, prog_14_method_33_code, 1, (some .int), 1, 1, (1673, 1672, 60, 105), [], 13),
  (⟨"TreeTalkModel", "fails", "()Z"⟩, prog_14_method_34_code, 1, (some .boolean), 1, 1, (1678, 1677, 61, 105), [], 13),
  (⟨"TreeTalkModel", "goesIn", "()Z"⟩, prog_14_method_35_code, 1, (some .boolean), 1, 1, (1710, 1709, 69, 105), [], 13),
  (⟨"TreeTalkModel", "takes", "(I)Z"⟩, prog_14_method_36_code, 2, (some .boolean), 1, 2, (1682, 1681, 62, 105), [], 13),
  (⟨"TreeTalkModel", "isDigit", "()Z"⟩, prog_14_method_37_code, 1, (some .boolean), 1, 1, (1714, 1713, 70, 105), [], 13),
  (⟨"TreeTalkModel", "within", "(J)I"⟩, prog_14_method_38_code, 2, (some .int), 0, 1, (1717, 1716, 0, 105), [], 13),
  (⟨"TreeTalkModel", "atom", "()I"⟩, prog_14_method_39_code, 4, (some .int), 1, 1, (1706, 1705, 68, 105), [], 13),
  (⟨"TreeTalkModel", "term", "()I"⟩, prog_14_method_40_code, 5, (some .int), 1, 1, (1702, 1701, 67, 105), [], 13),
  (⟨"TreeTalkModel", "sum", "()I"⟩, prog_14_method_41_code, 5, (some .int), 1, 1, (1698, 1697, 66, 105), [], 13),
  (⟨"TreeTalkModel", "isSign", "(I)Z"⟩, prog_14_method_42_code, 1, (some .boolean), 0, 1, (1728, 1727, 0, 105), [], 13),
  (⟨"TreeTalkModel", "compares", "(ZI)Z"⟩, prog_14_method_43_code, 6, (some .boolean), 1, 3, (1694, 1693, 65, 105), [], 13),
  (⟨"TreeTalkModel", "unit", "()Z"⟩, prog_14_method_44_code, 3, (some .boolean), 1, 1, (1732, 1731, 71, 105), [], 13),
  (⟨"TreeTalkModel", "part", "(ZI)Z"⟩, prog_14_method_45_code, 5, (some .boolean), 1, 3, (1690, 1689, 64, 105), [], 13),
  (⟨"TreeTalkModel", "condition", "(ZI)Z"⟩, prog_14_method_46_code, 5, (some .boolean), 1, 3, (1686, 1685, 63, 105), [], 13),
  (⟨"TreeTalkModel", "clause", "()V"⟩, prog_14_method_47_code, 5, none, 1, 1, (1669, 1668, 59, 105), [], 13),
  (⟨"TreeTalkModel", "goThrough", "([BIIZI)V"⟩, prog_14_method_48_code, 6, none, 1, 6, (1663, 1662, 58, 105), [], 13),
  (⟨"TreeTalkModel", "fault", "(I)I"⟩, prog_14_method_49_code, 2, (some .int), 1, 2, (1659, 1657, 1658, 105), [], 13),
  (⟨"TreeTalkModel", "keeps", "(IZ)Z"⟩, prog_14_method_50_code, 4, (some .boolean), 1, 3, (1740, 1739, 72, 105), [], 13),
  (⟨"TreeTalkModel", "law", "()I"⟩, prog_14_method_51_code, 1, (some .int), 1, 1, (1736, 1734, 1735, 105), [], 13),
  (⟨"TreeTalkModel", "mind", "()I"⟩, prog_14_method_52_code, 1, (some .int), 1, 1, (1744, 1742, 1743, 105), [], 13)]
def MT_5 : List MTE := [(⟨"TreeTalkModel", "isMind", "(I)Z"⟩, prog_14_method_53_code, 2, (some .boolean), 1, 2, (1756, 1755, 73, 105), [], 13),
  (⟨"TreeTalkModel", "by", "(II)Z"⟩, prog_14_method_54_code, 3, (some .boolean), 1, 3, (1748, 1746, 1747, 105), [], 13),
  (⟨"TreeTalkModel", "minded", "(II)Z"⟩, prog_14_method_55_code, 3, (some .boolean), 1, 3, (1752, 1750, 1751, 105), [], 13),
  (⟨"TreeTalkModel", "noLetters", "()V"⟩, prog_14_method_56_code, 2, none, 1, 1, (1764, 1763, 74, 105), [], 13),
  (⟨"TreeTalkModel", "hasWorth", "(IZI)Z"⟩, prog_14_method_57_code, 5, (some .boolean), 1, 4, (1768, 1767, 75, 105), [], 13),
  (⟨"TreeTalkModel", "worth", "(IIIIIII)I"⟩, prog_14_method_58_code, 8, (some .int), 1, 8, (1760, 1758, 1759, 105), [], 13),
  (⟨"TreeTalkModel", "ground", "(II)Z"⟩, prog_14_method_59_code, 3, (some .boolean), 1, 3, (1772, 1770, 1771, 105), [], 13),
  (⟨"TreeTalkModel", "heedFor", "(II)I"⟩, prog_14_method_60_code, 5, (some .int), 1, 3, (1814, 1813, 84, 105), [], 13),
  (⟨"TreeTalkModel", "trust", "(II)I"⟩, prog_14_method_61_code, 5, (some .int), 1, 3, (1802, 1801, 81, 105), [], 13),
  (⟨"TreeTalkModel", "isKept", "(I)Z"⟩, prog_14_method_62_code, 3, (some .boolean), 1, 2, (1806, 1805, 82, 105), [], 13),
  (⟨"TreeTalkModel", "layLook", "(IIIIIIII)V"⟩, prog_14_method_63_code, 9, none, 1, 9, (1810, 1809, 83, 105), [], 13),
  (⟨"TreeTalkModel", "plainlyNo", "(IIII)Z"⟩, prog_14_method_64_code, 5, (some .boolean), 1, 5, (1818, 1817, 85, 105), [], 13),
  (⟨"TreeTalkModel", "maySpeak", "(IIIII)Z"⟩, prog_14_method_65_code, 6, (some .boolean), 1, 6, (1798, 1797, 80, 105), [], 13),
  (⟨"TreeTalkModel", "turns", "(IIIII)Z"⟩, prog_14_method_66_code, 13, (some .boolean), 1, 6, (1794, 1793, 79, 105), [], 13),
  (⟨"TreeTalkModel", "speak", "(IIIIII)V"⟩, prog_14_method_67_code, 8, none, 1, 7, (1842, 1841, 86, 105), [], 13),
  (⟨"TreeTalkModel", "allBear", "(II)Z"⟩, prog_14_method_68_code, 4, (some .boolean), 1, 3, (1850, 1849, 88, 105), [], 13),
  (⟨"TreeTalkModel", "isSilent", "(II)Z"⟩, prog_14_method_69_code, 3, (some .boolean), 1, 3, (1846, 1845, 87, 105), [], 13),
  (⟨"TreeTalkModel", "lastDay", "(I)I"⟩, prog_14_method_70_code, 2, (some .int), 1, 2, (1788, 1787, 78, 105), [], 13),
  (⟨"TreeTalkModel", "wasAs", "(II)Z"⟩, prog_14_method_71_code, 5, (some .boolean), 1, 3, (1854, 1853, 89, 105), [], 13),
  (⟨"TreeTalkModel", "goThroughTalk", "(I)V"⟩, prog_14_method_72_code, 6, none, 1, 2, (1784, 1783, 77, 105), [], 13)]
def MT_6 : List MTE := [(⟨"TreeTalkModel", "talkOf", "(I)V"⟩, prog_14_method_73_code, 4, none, 1, 2, (1780, 1779, 76, 105), [], 13),
  (⟨"TreeTalkModel", "talk", "(II)I"⟩, prog_14_method_74_code, 3, (some .int), 1, 3, (1776, 1774, 1775, 105), [], 13),
  (⟨"TreeTalkModel", "said", "(III)I"⟩, prog_14_method_75_code, 4, (some .int), 1, 4, (1858, 1856, 1857, 105), [], 13),
  (⟨"TreeTalkModel", "promise", "(IIIII)Z"⟩, prog_14_method_76_code, 6, (some .boolean), 1, 6, (1862, 1860, 1861, 105), [], 13),
  (⟨"TreeTalkModel", "promised", "(IZ)I"⟩, prog_14_method_77_code, 5, (some .int), 1, 3, (1866, 1864, 1865, 105), [], 13),
  (⟨"TreeTalkModel", "all", "(II)I"⟩, prog_14_method_78_code, 5, (some .int), 1, 3, (1870, 1868, 1869, 105), [], 13),
  (⟨"TreeTalkModel", "layLosses", "(II)V"⟩, prog_14_method_79_code, 6, none, 1, 3, (1878, 1877, 90, 105), [], 13),
  (⟨"TreeTalkModel", "fair", "(I)I"⟩, prog_14_method_80_code, 6, (some .int), 1, 2, (1874, 1872, 1873, 105), [], 13),
  (⟨"TreeTalkModel", "isOpen", "(III)Z"⟩, prog_14_method_81_code, 7, (some .boolean), 1, 4, (1886, 1885, 91, 105), [], 13),
  (⟨"TreeTalkModel", "isBetter", "(II)Z"⟩, prog_14_method_82_code, 3, (some .boolean), 0, 2, (1889, 1888, 0, 105), [], 13),
  (⟨"TreeTalkModel", "barred", "(I)I"⟩, prog_14_method_83_code, 5, (some .int), 1, 2, (1882, 1880, 1881, 105), [], 13),
  (⟨"TreeTalkModel", "open", "(I)I"⟩, prog_14_method_84_code, 4, (some .int), 1, 2, (1894, 1892, 1893, 105), [], 13),
  (⟨"TreeTalkModel", "gift", "(IIIIIII)I"⟩, prog_14_method_85_code, 8, (some .int), 1, 8, (1898, 1896, 1897, 105), [], 13),
  (⟨"TreeTalkModel", "trades", "(III)Z"⟩, prog_14_method_86_code, 8, (some .boolean), 1, 4, (1906, 1905, 92, 105), [], 13),
  (⟨"TreeTalkModel", "trade", "(II)I"⟩, prog_14_method_87_code, 5, (some .int), 1, 3, (1902, 1900, 1901, 105), [], 13),
  (⟨"TreeTalkModel", "hands", "(II)I"⟩, prog_14_method_88_code, 10, (some .int), 1, 3, (1910, 1908, 1909, 105), [], 13),
  (⟨"TreeTalkModel", "aside", "(IIIIIZ)Z"⟩, prog_14_method_89_code, 7, (some .boolean), 1, 7, (1914, 1912, 1913, 105), [], 13),
  (⟨"TreeTalkModel", "takenBy", "(IIIII)I"⟩, prog_14_method_90_code, 8, (some .int), 1, 6, (1922, 1921, 93, 105), [], 13),
  (⟨"TreeTalkModel", "taken", "(IIIII)I"⟩, prog_14_method_91_code, 6, (some .int), 1, 6, (1918, 1916, 1917, 105), [], 13),
  (⟨"TreeTalkModel", "twice", "(IIIIII)I"⟩, prog_14_method_92_code, 7, (some .int), 1, 7, (1926, 1924, 1925, 105), [], 13)]
def MT_7 : List MTE := [(⟨"TreeTalkModel", "mistaken", "(III)I"⟩, prog_14_method_93_code, 7, (some .int), 1, 4, (1930, 1928, 1929, 105), [], 13),
  (⟨"TreeTalkModel", "about", "(II)I"⟩, prog_14_method_94_code, 5, (some .int), 1, 3, (1934, 1932, 1933, 105), [], 13),
  (⟨"TreeTalkModel", "back", "(III)I"⟩, prog_14_method_95_code, 11, (some .int), 1, 4, (1938, 1936, 1937, 105), [], 13),
  (⟨"TreeTalkModel", "leans", "(II)I"⟩, prog_14_method_96_code, 7, (some .int), 1, 3, (1942, 1940, 1941, 105), [], 13),
  (⟨"TreeTalkModel", "minds", "(II)I"⟩, prog_14_method_97_code, 8, (some .int), 1, 3, (1946, 1944, 1945, 105), [], 13),
  (⟨"TreeTalkModel", "count", "(I)I"⟩, prog_14_method_98_code, 2, (some .int), 1, 2, (1950, 1948, 1949, 105), [], 13),
  (⟨"TreeTalk$Asides", "<init>", "()V"⟩, prog_2_method_1_code, 1, none, 2, 1, (401, 400, 0, 104), [], 1),
  (⟨"TreeTalk$Asides", "add", "(IIIIZ)V"⟩, prog_2_method_2_code, 6, none, 1, 6, (1128, 1126, 1127, 104), [], 1),
  (⟨"TreeTalk$Asides", "lastHeard", "(IIII)I"⟩, prog_2_method_3_code, 8, (some .int), 1, 5, (1140, 1138, 1139, 104), [], 1),
  (⟨"TreeTalk$Circle", "<init>", "()V"⟩, prog_3_method_1_code, 1, none, 2, 1, (133, 132, 0, 96), [], 2),
  (⟨"TreeTalk$Circle", "has", "(I)Z"⟩, prog_3_method_2_code, 2, (some .boolean), 1, 2, (512, 510, 511, 96), [], 2),
  (⟨"TreeTalk$Circle", "hasTwo", "(II)Z"⟩, prog_3_method_3_code, 3, (some .boolean), 1, 3, (526, 524, 525, 96), [], 2),
  (⟨"TreeTalk$Circle", "sits", "(I)Z"⟩, prog_3_method_4_code, 2, (some .boolean), 1, 2, (500, 498, 499, 96), [], 2),
  (⟨"TreeTalk$Circle", "add", "(I)I"⟩, prog_3_method_5_code, 2, (some .int), 1, 2, (492, 490, 491, 96), [], 2),
  (⟨"TreeTalk$Circle", "setSitting", "(IZ)V"⟩, prog_3_method_6_code, 4, none, 1, 3, (496, 494, 495, 96), [], 2),
  (⟨"TreeTalk$Circle", "seatNext", "(I)V"⟩, prog_3_method_7_code, 3, none, 1, 2, (504, 503, 1, 96), [], 2),
  (⟨"TreeTalk$Council", "<init>", "(LTreeTalk$Circle;)V"⟩, prog_4_method_1_code, 2, none, 2, 2, (347, 346, 0, 102), [], 3),
  (⟨"TreeTalk$Council", "borneByAll", "(LTreeTalk$Matter;I)I"⟩, prog_4_method_2_code, 5, (some .int), 1, 3, (1018, 1016, 1017, 102), [], 3),
  (⟨"TreeTalk$Council", "isBorneByAll", "(LTreeTalk$Matter;I)Z"⟩, prog_4_method_3_code, 3, (some .boolean), 1, 3, (1022, 1021, 33, 102), [], 3),
  (⟨"TreeTalk$Council", "fairest", "(LTreeTalk$Matter;)I"⟩, prog_4_method_4_code, 8, (some .int), 1, 2, (1031, 1029, 1030, 102), [], 3)]
def MT_8 : List MTE := [(⟨"TreeTalk$Council", "lossesFalling", "(LTreeTalk$Matter;I)J"⟩, prog_4_method_5_code, 6, (some .long), 1, 3, (1035, 1034, 34, 102), [], 3),
  (⟨"TreeTalk$Council", "barring", "(LTreeTalk$Matter;)I"⟩, prog_4_method_6_code, 5, (some .int), 1, 2, (1044, 1042, 1043, 102), [], 3),
  (⟨"TreeTalk$Council", "fewestOpen", "(LTreeTalk$Matter;)I"⟩, prog_4_method_7_code, 4, (some .int), 1, 2, (1061, 1059, 1060, 102), [], 3),
  (⟨"TreeTalk$Council", "canLeaveOpen", "(LTreeTalk$Matter;I)Z"⟩, prog_4_method_8_code, 7, (some .boolean), 1, 3, (1065, 1064, 35, 102), [], 3),
  (⟨"TreeTalk$Council", "mostHands", "(LTreeTalk$Matter;)I"⟩, prog_4_method_9_code, 9, (some .int), 1, 2, (1115, 1113, 1114, 102), [], 3),
  (⟨"TreeTalk$Council", "lossOfAll", "(LTreeTalk$Matter;I)I"⟩, prog_4_method_10_code, 5, (some .int), 1, 3, (1120, 1119, 40, 102), [], 3),
  (⟨"TreeTalk$Gifts", "<init>", "(LTreeTalk$Circle;)V"⟩, prog_5_method_1_code, 2, none, 2, 2, (360, 359, 0, 103), [], 4),
  (⟨"TreeTalk$Gifts", "add", "(IIIII)I"⟩, prog_5_method_2_code, 6, (some .int), 1, 6, (1075, 1073, 1074, 103), [], 4),
  (⟨"TreeTalk$Gifts", "between", "(II)I"⟩, prog_5_method_3_code, 5, (some .int), 1, 3, (1083, 1081, 1082, 103), [], 4),
  (⟨"TreeTalk$Gifts", "fewestFor", "(LTreeTalk$Matter;LTreeTalk$Matter;I)I"⟩, prog_5_method_4_code, 7, (some .int), 1, 4, (1088, 1086, 1087, 103), [], 4),
  (⟨"TreeTalk$Gifts", "gather", "(LTreeTalk$Matter;LTreeTalk$Matter;)V"⟩, prog_5_method_5_code, 5, none, 1, 3, (1092, 1091, 36, 103), [], 4),
  (⟨"TreeTalk$Gifts", "isGiven", "(I)Z"⟩, prog_5_method_6_code, 4, (some .boolean), 1, 2, (1099, 1098, 37, 103), [], 4),
  (⟨"TreeTalk$Gifts", "isEnough", "(LTreeTalk$Matter;I)Z"⟩, prog_5_method_7_code, 5, (some .boolean), 1, 3, (1103, 1102, 38, 103), [], 4),
  (⟨"TreeTalk$Gifts", "unborneBy", "(ILTreeTalk$Matter;I)I"⟩, prog_5_method_8_code, 6, (some .int), 1, 4, (1107, 1106, 39, 103), [], 4),
  (⟨"TreeTalk$Matter", "<init>", "(II)V"⟩, prog_6_method_1_code, 4, none, 2, 3, (535, 534, 0, 107), [], 5),
  (⟨"TreeTalk$Matter", "slotsIn", "(III)I"⟩, prog_6_method_2_code, 6, (some .int), 0, 3, (540, 539, 0, 107), [], 5),
  (⟨"TreeTalk$Matter", "hasWay", "(II)Z"⟩, prog_6_method_3_code, 3, (some .boolean), 1, 3, (605, 603, 604, 107), [], 5),
  (⟨"TreeTalk$Matter", "hasProposal", "(I)Z"⟩, prog_6_method_4_code, 2, (some .boolean), 1, 2, (638, 636, 637, 107), [], 5),
  (⟨"TreeTalk$Matter", "wayIn", "(II)I"⟩, prog_6_method_5_code, 3, (some .int), 1, 3, (947, 945, 946, 107), [], 5),
  (⟨"TreeTalk$Matter", "withWay", "(III)I"⟩, prog_6_method_6_code, 5, (some .int), 1, 4, (981, 979, 980, 107), [], 5)]
def MT_9 : List MTE := [(⟨"TreeTalk$Matter", "holdOf", "(II)I"⟩, prog_6_method_7_code, 3, (some .int), 1, 3, (618, 616, 617, 107), [], 5),
  (⟨"TreeTalk$Matter", "setHold", "(III)V"⟩, prog_6_method_8_code, 5, none, 1, 4, (610, 608, 609, 107), [], 5),
  (⟨"TreeTalk$Matter", "addClash", "(III)V"⟩, prog_6_method_9_code, 4, none, 1, 4, (630, 628, 629, 107), [], 5),
  (⟨"TreeTalk$Matter", "isAgainst", "(III)Z"⟩, prog_6_method_10_code, 6, (some .boolean), 1, 4, (961, 959, 960, 107), [], 5),
  (⟨"TreeTalk$Matter", "clashed", "(I)I"⟩, prog_6_method_11_code, 4, (some .int), 1, 2, (646, 644, 645, 107), [], 5),
  (⟨"TreeTalk$Matter", "unable", "(I)I"⟩, prog_6_method_12_code, 4, (some .int), 1, 2, (642, 640, 641, 107), [], 5),
  (⟨"TreeTalk$Matter", "lossOf", "(II)I"⟩, prog_6_method_13_code, 7, (some .int), 1, 3, (654, 652, 653, 107), [], 5),
  (⟨"TreeTalk$Pledges", "<init>", "([LTreeTalk$Talk;)V"⟩, prog_7_method_1_code, 2, none, 2, 2, (321, 320, 0, 101), [], 6),
  (⟨"TreeTalk$Pledges", "add", "(IIII)V"⟩, prog_7_method_2_code, 5, none, 1, 5, (1002, 1000, 1001, 101), [], 6),
  (⟨"TreeTalk$Pledges", "countOf", "(IZ)I"⟩, prog_7_method_3_code, 5, (some .int), 1, 3, (1010, 1008, 1009, 101), [], 6),
  (⟨"TreeTalk$Pledges", "weighBefore", "(I[I)V"⟩, prog_7_method_4_code, 4, none, 1, 3, (894, 892, 893, 101), [], 6),
  (⟨"TreeTalk$Reader", "<init>", "(LTreeTalk$Tape;)V"⟩, prog_8_method_1_code, 2, none, 2, 2, (201, 200, 0, 98), [], 7),
  (⟨"TreeTalk$Reader", "faultAs", "(I)I"⟩, prog_8_method_2_code, 4, (some .int), 1, 2, (678, 676, 677, 98), [], 7),
  (⟨"TreeTalk$Reader", "readText", "()LTreeTalk$Text;"⟩, prog_8_method_3_code, 1, (some (.object "TreeTalk$Text")), 1, 1, (837, 835, 836, 98), [], 7),
  (⟨"TreeTalk$Reader", "next", "()I"⟩, prog_8_method_4_code, 1, (some .int), 1, 1, (690, 689, 5, 98), [], 7),
  (⟨"TreeTalk$Reader", "isIn", "(Ljava/lang/String;I)Z"⟩, prog_8_method_5_code, 2, (some .boolean), 0, 2, (693, 692, 0, 98), [], 7),
  (⟨"TreeTalk$Reader", "put", "(II)V"⟩, prog_8_method_6_code, 3, none, 1, 3, (810, 809, 13, 98), [], 7),
  (⟨"TreeTalk$Reader", "putClause", "(III)V"⟩, prog_8_method_7_code, 4, none, 1, 4, (829, 828, 17, 98), [], 7),
  (⟨"TreeTalk$Reader", "readClause", "()Z"⟩, prog_8_method_8_code, 5, (some .boolean), 1, 1, (686, 685, 4, 98), [], 7),
  (⟨"TreeTalk$Reader", "readCondition", "(I)Z"⟩, prog_8_method_9_code, 2, (some .boolean), 1, 2, (782, 781, 6, 98), [], 7)]
def MT_10 : List MTE := [(⟨"TreeTalk$Reader", "readMoreTruths", "(I)Z"⟩, prog_8_method_10_code, 4, (some .boolean), 1, 2, (825, 824, 16, 98), [], 7),
  (⟨"TreeTalk$Reader", "readTruth", "(I)Z"⟩, prog_8_method_11_code, 2, (some .boolean), 1, 2, (786, 785, 7, 98), [], 7),
  (⟨"TreeTalk$Reader", "readMoreUnits", "(I)Z"⟩, prog_8_method_12_code, 4, (some .boolean), 1, 2, (821, 820, 15, 98), [], 7),
  (⟨"TreeTalk$Reader", "readUnit", "(I)Z"⟩, prog_8_method_13_code, 4, (some .boolean), 1, 2, (790, 789, 8, 98), [], 7),
  (⟨"TreeTalk$Reader", "readRelation", "(I)Z"⟩, prog_8_method_14_code, 4, (some .boolean), 1, 2, (816, 815, 14, 98), [], 7),
  (⟨"TreeTalk$Reader", "readSum", "(I)Z"⟩, prog_8_method_15_code, 5, (some .boolean), 1, 2, (794, 793, 9, 98), [], 7),
  (⟨"TreeTalk$Reader", "readTerm", "(I)Z"⟩, prog_8_method_16_code, 5, (some .boolean), 1, 2, (798, 797, 10, 98), [], 7),
  (⟨"TreeTalk$Reader", "readAtom", "(I)Z"⟩, prog_8_method_17_code, 3, (some .boolean), 1, 2, (802, 801, 11, 98), [], 7),
  (⟨"TreeTalk$Reader", "readNumber", "(I)I"⟩, prog_8_method_18_code, 5, (some .int), 1, 2, (806, 805, 12, 98), [], 7),
  (⟨"TreeTalk$Scale", "<init>", "()V"⟩, prog_9_method_1_code, 1, none, 2, 1, (235, 234, 0, 99), [], 8),
  (⟨"TreeTalk$Scale", "clear", "()V"⟩, prog_9_method_2_code, 1, none, 1, 1, (912, 910, 911, 99), [], 8),
  (⟨"TreeTalk$Scale", "tell", "(CI)V"⟩, prog_9_method_3_code, 3, none, 1, 3, (917, 915, 916, 99), [], 8),
  (⟨"TreeTalk$Scale", "weigh", "(LTreeTalk$Text;I)J"⟩, prog_9_method_4_code, 8, (some .long), 1, 3, (921, 919, 920, 99), [], 8),
  (⟨"TreeTalk$Scale", "step", "(II)I"⟩, prog_9_method_5_code, 10, (some .int), 1, 3, (926, 925, 20, 99), [], 8),
  (⟨"TreeTalk$Talk", "<init>", "(LTreeTalk$Circle;[LTreeTalk$Text;LTreeTalk$Scale;)V"⟩, prog_10_method_1_code, 4, none, 2, 4, (249, 248, 0, 100), [], 9),
  (⟨"TreeTalk$Talk", "run", "(LTreeTalk$Matter;)V"⟩, prog_10_method_2_code, 5, none, 1, 2, (903, 901, 902, 100), [], 9),
  (⟨"TreeTalk$Talk", "lastDay", "()I"⟩, prog_10_method_3_code, 3, (some .int), 1, 1, (908, 907, 19, 100), [], 9),
  (⟨"TreeTalk$Talk", "endOfDay", "(I)I"⟩, prog_10_method_4_code, 2, (some .int), 1, 2, (985, 984, 30, 100), [], 9),
  (⟨"TreeTalk$Talk", "failsBySilence", "()Z"⟩, prog_10_method_5_code, 1, (some .boolean), 1, 1, (989, 988, 31, 100), [], 9),
  (⟨"TreeTalk$Talk", "wasSoBefore", "()Z"⟩, prog_10_method_6_code, 2, (some .boolean), 1, 1, (994, 993, 32, 100), [], 9)]
def MT_11 : List MTE := [(⟨"TreeTalk$Talk", "takeTurn", "(II)V"⟩, prog_10_method_7_code, 5, none, 1, 3, (935, 934, 21, 100), [], 9),
  (⟨"TreeTalk$Talk", "maySpeak", "(II)Z"⟩, prog_10_method_8_code, 5, (some .boolean), 1, 3, (939, 938, 22, 100), [], 9),
  (⟨"TreeTalk$Talk", "tellLook", "(III)V"⟩, prog_10_method_9_code, 6, none, 1, 4, (943, 942, 23, 100), [], 9),
  (⟨"TreeTalk$Talk", "heedFor", "(I[II)I"⟩, prog_10_method_10_code, 6, (some .int), 1, 4, (953, 952, 24, 100), [], 9),
  (⟨"TreeTalk$Talk", "isNo", "(JII)Z"⟩, prog_10_method_11_code, 5, (some .boolean), 1, 4, (957, 956, 25, 100), [], 9),
  (⟨"TreeTalk$Talk", "sift", "(IIZ)V"⟩, prog_10_method_12_code, 5, none, 1, 4, (965, 964, 26, 100), [], 9),
  (⟨"TreeTalk$Talk", "speak", "(III)V"⟩, prog_10_method_13_code, 6, none, 1, 4, (973, 972, 28, 100), [], 9),
  (⟨"TreeTalk$Talk", "noteSaid", "([III)V"⟩, prog_10_method_14_code, 4, none, 1, 4, (977, 976, 29, 100), [], 9),
  (⟨"TreeTalk$Talk", "wayInstead", "(II)I"⟩, prog_10_method_15_code, 10, (some .int), 1, 3, (969, 968, 27, 100), [], 9),
  (⟨"TreeTalk$Talk", "restsWith", "(I)Z"⟩, prog_10_method_16_code, 2, (some .boolean), 1, 2, (899, 897, 898, 100), [], 9),
  (⟨"TreeTalk$Talk", "lastSaid", "(IIII)I"⟩, prog_10_method_17_code, 8, (some .int), 1, 5, (1144, 1142, 1143, 100), [], 9),
  (⟨"TreeTalk$Talk", "nosWithoutNeed", "(I)I"⟩, prog_10_method_18_code, 7, (some .int), 1, 2, (1160, 1158, 1159, 100), [], 9),
  (⟨"TreeTalk$Talk", "leansIn", "(II)Z"⟩, prog_10_method_19_code, 5, (some .boolean), 1, 3, (1177, 1175, 1176, 100), [], 9),
  (⟨"TreeTalk$Talk", "voicesFor", "(I)I"⟩, prog_10_method_20_code, 4, (some .int), 1, 2, (1181, 1180, 43, 100), [], 9),
  (⟨"TreeTalk$Tape", "<init>", "()V"⟩, prog_11_method_1_code, 1, none, 2, 1, (185, 184, 0, 97), [], 10),
  (⟨"TreeTalk$Tape", "add", "(IIIII)I"⟩, prog_11_method_2_code, 7, (some .int), 1, 6, (662, 660, 661, 97), [], 10),
  (⟨"TreeTalk$Tape", "put", "(I)V"⟩, prog_11_method_3_code, 4, none, 1, 2, (666, 665, 3, 97), [], 10),
  (⟨"TreeTalk$Text", "<init>", "([I[I)V"⟩, prog_12_method_1_code, 3, none, 2, 3, (856, 855, 0, 114), [], 11),
  (⟨"TreeTalkLaw", "worth", "(LTreeTalk;IIIIIII[J)I"⟩, method_3_code, 10, (some .int), 0, 9, (1193, 1192, 0, 94), [((0 : Nat), (20 : Nat), (23 : Nat), (13 : Nat))], 12),
  (⟨"TreeTalkLaw", "said", "(LTreeTalk;III[J)I"⟩, method_4_code, 6, (some .int), 0, 5, (1266, 1265, 0, 94), [((0 : Nat), (12 : Nat), (15 : Nat), (13 : Nat))], 12)]
def MT_12 : List MTE := [(⟨"TreeTalkLaw", "law", "([I)Z"⟩, code, 7, some .boolean, 0, 1, (0, 0, 0, 0), [], 12),
  (⟨"java/lang/String", "indexOf", "(I)I"⟩, prog_24_method_79_code, 2, (some .int), 1, 2, (697, 695, 696, 109), [], 15),
  (⟨"java/lang/String", "indexOf", "(II)I"⟩, prog_24_method_80_code, 3, (some .int), 1, 3, (701, 699, 700, 109), [], 15),
  (⟨"java/lang/String", "isLatin1", "()Z"⟩, prog_24_method_154_code, 1, (some .boolean), 1, 1, (705, 703, 704, 109), [], 15),
  (⟨"java/lang/String", "length", "()I"⟩, prog_24_method_54_code, 1, (some .int), 1, 1, (711, 709, 710, 109), [], 15),
  (⟨"java/lang/String", "coder", "()B"⟩, prog_24_method_152_code, 1, (some .byte), 1, 1, (715, 713, 714, 109), [], 15),
  (⟨"java/lang/String", "charAt", "(I)C"⟩, prog_24_method_56_code, 2, (some .char), 1, 2, (1822, 1820, 1821, 109), [], 15),
  (⟨"java/lang/String", "checkIndex", "(II)V"⟩, prog_24_method_155_code, 2, none, 0, 2, (1828, 1827, 0, 109), [], 15),
  (⟨"java/lang/StringLatin1", "charAt", "([BI)C"⟩, prog_25_method_2_code, 2, (some .char), 0, 2, (1825, 1824, 0, 110), [], 16),
  (⟨"java/lang/StringLatin1", "indexOf", "([BIII)I"⟩, prog_25_method_22_code, 4, (some .int), 0, 4, (718, 717, 0, 110), [], 16),
  (⟨"java/lang/StringLatin1", "indexOfChar", "([BIII)I"⟩, prog_25_method_23_code, 6, (some .int), 0, 4, (728, 727, 0, 110), [], 16),
  (⟨"java/lang/StringLatin1", "canEncode", "(I)Z"⟩, prog_25_method_4_code, 1, (some .boolean), 0, 1, (721, 720, 0, 110), [], 16),
  (⟨"java/util/Arrays", "fill", "([II)V"⟩, prog_31_method_103_code, 4, none, 0, 2, (546, 545, 0, 108), [], 17),
  (⟨"java/util/Arrays", "copyOf", "([II)[I"⟩, prog_31_method_123_code, 3, (some (.array (.int))), 0, 2, (842, 841, 0, 108), [], 17),
  (⟨"java/lang/Integer", "bitCount", "(I)I"⟩, prog_21_method_49_code, 1, (some .int), 0, 1, (1050, 1049, 0, 120), [], 14),
  (⟨"jdk/internal/util/Preconditions", "checkIndex", "(IILjava/util/function/BiFunction;)I"⟩, prog_33_method_11_code, 3, (some .int), 0, 3, (1831, 1830, 0, 112), [], 18)]
def MTl : List MTE := MT_0 ++ (MT_1 ++ (MT_2 ++ (MT_3 ++ (MT_4 ++ (MT_5 ++ (MT_6 ++ (MT_7 ++ (MT_8 ++ (MT_9 ++ (MT_10 ++ (MT_11 ++ (MT_12))))))))))))
def mte (k : Nat) : MTE := lnth MTl (⟨"", "", ""⟩, .mk #[], 0, none, 0, 0, (0, 0, 0, 0), [], 99) k
def mY (k : Nat) : MethodName := (mte k).1
def mB (k : Nat) : ByteArray := (mte k).2.1
def mL (k : Nat) : Nat := (mte k).2.2.1
def mR (k : Nat) : Option FieldType := (mte k).2.2.2.1
def mG (k : Nat) : Nat := (mte k).2.2.2.2.1
def mN (k : Nat) : Nat := (mte k).2.2.2.2.2.1
def mP (k : Nat) : Nat × Nat × Nat × Nat := (mte k).2.2.2.2.2.2.1
def mH (k : Nat) : List (Nat × Nat × Nat × Nat) := (mte k).2.2.2.2.2.2.2.1
def mT (k : Nat) : Nat := (mte k).2.2.2.2.2.2.2.2
def tb (p : Nat) (w : Cond) : Bool := decide (lw_tbl[p]? = some w) && goodWord w
/-- the words of a method stand in the table -/
def mtB (k : Nat) : Bool := match mP k with
  | (pc, pa, ps, pi) => (match mH k with
      | [] => tb pc (.code (mY k) (mB k) (mL k) (mR k))
      | hh => tb pc (.codeWith (mY k) (mB k) (mL k) (mR k) hh)) && tb pi (.initialized (mY k).cls) && plainName (mY k).cls && decide ((mY k).cls ≠ "java/lang/invoke/MethodHandle") && decide ((mY k).cls ≠ "java/lang/invoke/VarHandle") && decide (mL k ≤ 20) &&
    (match mG k with
      | 0 => tb pa (.static (mY k)) && decide ((parseMethodDescriptor (mY k).desc).map (fun d => d.parameters.length) = some (mN k))
      | 1 => tb pa (.instanceMethod (mY k)) && tb ps (.selects (mY k).cls (mY k) (mY k)) && decide ((parseMethodDescriptor (mY k).desc).map (fun d => d.parameters.length + 1) = some (mN k)) && decide (mH k = [])
      | _ => tb pa (.instanceMethod (mY k)) && decide ((mY k).name = "<init>") && decide ((parseMethodDescriptor (mY k).desc).map (fun d => d.parameters.length + 1) = some (mN k)) && decide (mH k = []) && decide (mR k = none))
/-- a link: the kind of the instruction, the entry of the pool, the place of its word, what it stands for -/
abbrev LKE : Type := Nat × Nat × Nat × Instr
def LT_0 : List LKE := [(0, 10, 423, .getstatic 2816),
  (0, 18, 424, .getstatic 2817),
  (0, 25, 425, .getstatic 2818),
  (0, 34, 426, .getstatic 2819),
  (0, 40, 427, .getstatic 2820),
  (0, 44, 428, .getstatic 2821),
  (0, 50, 429, .getstatic 2822),
  (0, 56, 430, .getstatic 2823),
  (0, 63, 431, .getstatic 2824),
  (0, 72, 432, .getstatic 2825),
  (0, 81, 433, .getstatic 2826),
  (0, 88, 434, .getstatic 2827),
  (0, 95, 435, .getstatic 2828),
  (0, 99, 152, .getfield 260),
  (0, 122, 154, .getfield 261),
  (0, 125, 148, .getstatic 259),
  (0, 133, 141, .getstatic 257),
  (0, 137, 436, .getfield 2829),
  (0, 161, 563, .getstatic 1029),
  (0, 164, 437, .getfield 2830),
  (0, 173, 558, .getstatic 1026),
  (0, 185, 191, .getfield 2305),
  (0, 189, 438, .getfield 2831),
  (0, 196, 439, .getfield 2832),
  (0, 203, 145, .getstatic 258),
  (0, 228, 265, .getfield 2059),
  (0, 231, 267, .getfield 2060),
  (0, 234, 269, .getfield 2061),
  (0, 235, 271, .getfield 2062),
  (0, 238, 258, .getstatic 2053),
  (0, 241, 329, .getfield 1285),
  (0, 263, 373, .getfield 778),
  (0, 275, 162, .getfield 262),
  (0, 283, 409, .getfield 5),
  (0, 290, 550, .getfield 1024),
  (0, 293, 553, .getfield 1025),
  (0, 309, 256, .getstatic 2052),
  (0, 319, 277, .getfield 2066),
  (0, 326, 440, .getfield 2833),
  (1, 137, 436, .putfield 2829),
  (1, 164, 437, .putfield 2830),
  (1, 185, 191, .putfield 2305),
  (1, 189, 438, .putfield 2831),
  (1, 196, 439, .putfield 2832),
  (1, 199, 570, .putstatic 1034),
  (1, 222, 568, .putfield 1033),
  (1, 316, 275, .putfield 2065),
  (1, 319, 277, .putfield 2066),
  (1, 326, 440, .putfield 2833),
  (2, 103, 482, .invokevirtual 430211),
  (2, 107, 489, .invokevirtual 1530201),
  (2, 111, 509, .invokevirtual 1500201),
  (2, 115, 513, .invokevirtual 1520201),
  (2, 118, 514, .invokevirtual 1540301),
  (2, 129, 523, .invokevirtual 1510301),
  (2, 143, 598, .invokevirtual 420211),
  (2, 147, 602, .invokevirtual 1760304),
  (2, 154, 607, .invokevirtual 1810404),
  (2, 158, 615, .invokevirtual 1800304),
  (2, 167, 627, .invokevirtual 1820404),
  (2, 170, 635, .invokevirtual 1770204),
  (2, 176, 639, .invokevirtual 1850204),
  (2, 179, 651, .invokevirtual 1860304),
  (2, 182, 659, .invokevirtual 2350609),
  (2, 186, 675, .invokevirtual 1920206),
  (2, 192, 834, .invokevirtual 1930106),
  (2, 209, 1260, .invokevirtual 2100107),
  (2, 212, 1261, .invokevirtual 2110307),
  (2, 216, 1262, .invokevirtual 2120307),
  (2, 225, 887, .invokevirtual 440211),
  (2, 242, 999, .invokevirtual 1880505),
  (2, 245, 1007, .invokevirtual 1890305),
  (2, 249, 1015, .invokevirtual 1570302),
  (2, 253, 1028, .invokevirtual 1590202),
  (2, 257, 1041, .invokevirtual 1610202),
  (2, 260, 1058, .invokevirtual 1620202),
  (2, 264, 1072, .invokevirtual 1670603),
  (2, 265, 1080, .invokevirtual 1680303),
  (2, 268, 1085, .invokevirtual 1690403),
  (2, 272, 1112, .invokevirtual 1640202),
  (2, 284, 1125, .invokevirtual 1470600),
  (2, 287, 1133, .invokevirtual 450611),
  (2, 296, 1157, .invokevirtual 2310208),
  (2, 299, 1165, .invokevirtual 460411),
  (2, 303, 1173, .invokevirtual 1780304),
  (2, 306, 1174, .invokevirtual 2320308),
  (2, 312, 891, .invokevirtual 1900305),
  (2, 322, 900, .invokevirtual 2150208),
  (2, 334, 1137, .invokevirtual 1480500),
  (2, 338, 1141, .invokevirtual 2300508),
  (3, 1, 126, .nop),
  (3, 9, 131, .invokevirtual 1490101),
  (3, 24, 183, .invokevirtual 2340109),
  (3, 31, 199, .invokevirtual 1910206),
  (3, 49, 233, .invokevirtual 2090107),
  (3, 60, 247, .invokevirtual 2140408),
  (3, 69, 319, .invokevirtual 1870205),
  (3, 78, 345, .invokevirtual 1560202),
  (3, 87, 358, .invokevirtual 1660203),
  (3, 94, 399, .invokevirtual 1460100),
  (3, 140, 533, .invokevirtual 1740304),
  (4, 150, 606, .invokeinterface 41 2),
  (4, 278, 1048, .invokeinterface 254 1),
  (4, 329, 486, .fsub),
  (5, 7, 129, .new 1),
  (5, 16, 179, .new 4),
  (5, 22, 181, .new 9),
  (5, 29, 197, .new 6),
  (5, 47, 231, .new 7),
  (5, 54, 244, .new 8),
  (5, 67, 317, .new 5),
  (5, 76, 343, .new 2),
  (5, 85, 356, .new 3),
  (5, 92, 397, .new 0),
  (6, 16, 179, .anewarray 4),
  (6, 38, 230, .anewarray 5),
  (6, 54, 244, .anewarray 6),
  (8, 220, 1263, .jsr_w (1099511627776)),
  (11, 10, 423, .putstatic 2816),
  (11, 18, 424, .putstatic 2817),
  (11, 25, 425, .putstatic 2818),
  (11, 34, 426, .putstatic 2819),
  (11, 40, 427, .putstatic 2820),
  (11, 44, 428, .putstatic 2821),
  (11, 50, 429, .putstatic 2822),
  (11, 56, 430, .putstatic 2823),
  (11, 63, 431, .putstatic 2824),
  (11, 72, 432, .putstatic 2825),
  (11, 81, 433, .putstatic 2826),
  (11, 88, 434, .putstatic 2827),
  (11, 95, 435, .putstatic 2828),
  (13, 208, 1238, .nop),
  (15, 206, 1199, .nop)]
def LT_1 : List LKE := [(0, 9, 403, .getstatic 0),
  (0, 15, 404, .getstatic 1),
  (0, 18, 405, .getstatic 2),
  (0, 21, 406, .getstatic 3),
  (0, 24, 407, .getstatic 4),
  (0, 27, 408, .getfield 5),
  (1, 27, 408, .putfield 5),
  (3, 3, 402, .nop),
  (11, 9, 403, .putstatic 0),
  (11, 15, 404, .putstatic 1),
  (11, 18, 405, .putstatic 2),
  (11, 21, 406, .putstatic 3),
  (11, 24, 407, .putstatic 4)]
def LT_2 : List LKE := [(0, 9, 139, .getstatic 256),
  (0, 26, 146, .getstatic 259),
  (0, 29, 151, .getfield 260),
  (0, 37, 159, .getfield 262),
  (0, 44, 156, .getfield 261),
  (1, 29, 151, .putfield 260),
  (1, 37, 159, .putfield 262),
  (1, 44, 156, .putfield 261),
  (2, 33, 527, .invokevirtual 1500201),
  (2, 40, 493, .invokevirtual 1540301),
  (2, 47, 497, .invokevirtual 1520201),
  (2, 50, 501, .invokevirtual 1550201),
  (3, 3, 134, .nop),
  (6, 20, 137, .anewarray 5),
  (10, 15, 135, .multianewarray 7 2),
  (11, 9, 139, .putstatic 256),
  (11, 17, 140, .putstatic 257),
  (11, 22, 143, .putstatic 258),
  (11, 26, 146, .putstatic 259)]
def LT_3 : List LKE := [(0, 9, 350, .getstatic 513),
  (0, 15, 349, .getstatic 512),
  (0, 19, 555, .getstatic 1026),
  (0, 32, 158, .getfield 262),
  (0, 42, 155, .getfield 261),
  (0, 45, 149, .getstatic 259),
  (0, 56, 548, .getfield 1024),
  (2, 24, 1019, .invokevirtual 1580302),
  (2, 28, 1023, .invokevirtual 1850204),
  (2, 38, 1032, .invokevirtual 1600302),
  (2, 48, 1036, .invokevirtual 1860304),
  (2, 59, 1062, .invokevirtual 1630302),
  (2, 71, 1117, .invokevirtual 1650302),
  (3, 3, 348, .nop),
  (4, 66, 1116, .invokeinterface 254 1),
  (7, 65, 1067, .bipush (978670)),
  (11, 9, 350, .putstatic 513),
  (11, 15, 349, .putstatic 512),
  (14, 52, 1045, .invokeinterface 47 2),
  (14, 62, 1066, .invokeinterface 41 2)]
def LT_4 : List LKE := [(0, 9, 363, .getstatic 769),
  (0, 15, 364, .getstatic 770),
  (0, 18, 365, .getstatic 771),
  (0, 21, 366, .getstatic 772),
  (0, 24, 367, .getstatic 773),
  (0, 27, 368, .getstatic 774),
  (0, 30, 369, .getstatic 775),
  (0, 33, 362, .getstatic 768),
  (0, 37, 372, .getfield 778),
  (0, 62, 370, .getfield 776),
  (0, 65, 556, .getstatic 1026),
  (0, 74, 160, .getfield 262),
  (0, 77, 371, .getfield 777),
  (0, 83, 157, .getfield 261),
  (0, 86, 150, .getstatic 259),
  (0, 93, 560, .getstatic 1027),
  (1, 37, 372, .putfield 778),
  (1, 62, 370, .putfield 776),
  (1, 77, 371, .putfield 777),
  (2, 41, 1084, .invokevirtual 1520201),
  (2, 47, 1089, .invokevirtual 1700303),
  (2, 55, 1096, .invokevirtual 1710203),
  (2, 58, 1100, .invokevirtual 1720303),
  (2, 70, 1093, .invokevirtual 1840204),
  (2, 80, 1094, .invokevirtual 1850204),
  (2, 89, 1104, .invokevirtual 1730403),
  (3, 3, 361, .nop),
  (11, 9, 363, .putstatic 769),
  (11, 15, 364, .putstatic 770),
  (11, 18, 365, .putstatic 771),
  (11, 21, 366, .putstatic 772),
  (11, 24, 367, .putstatic 773),
  (11, 27, 368, .putstatic 774),
  (11, 30, 369, .putstatic 775),
  (11, 33, 362, .putstatic 768),
  (14, 51, 1095, .invokeinterface 47 2)]
def LT_5 : List LKE := [(0, 9, 559, .getstatic 1027),
  (0, 15, 561, .getstatic 1028),
  (0, 20, 562, .getstatic 1029),
  (0, 23, 564, .getstatic 1030),
  (0, 26, 565, .getstatic 1031),
  (0, 29, 547, .getfield 1024),
  (0, 33, 551, .getfield 1025),
  (0, 36, 554, .getstatic 1026),
  (0, 53, 566, .getfield 1032),
  (1, 53, 566, .putfield 1032),
  (2, 56, 643, .invokevirtual 1840204),
  (3, 3, 536, .nop),
  (4, 39, 538, .invokeinterface 175 3),
  (4, 43, 544, .invokeinterface 252 2),
  (10, 18, 537, .multianewarray 7 2),
  (11, 9, 559, .putstatic 1027),
  (11, 15, 561, .putstatic 1028),
  (11, 20, 562, .putstatic 1029),
  (11, 23, 564, .putstatic 1030),
  (11, 26, 565, .putstatic 1031),
  (11, 29, 547, .putfield 1024),
  (11, 33, 551, .putfield 1025),
  (11, 36, 554, .putstatic 1026),
  (14, 49, 541, .invokeinterface 41 2)]
def LT_6 : List LKE := [(0, 9, 324, .getstatic 1281),
  (0, 15, 325, .getstatic 1282),
  (0, 18, 326, .getstatic 1283),
  (0, 21, 327, .getstatic 1284),
  (0, 24, 323, .getstatic 1280),
  (0, 28, 328, .getfield 1285),
  (1, 28, 328, .putfield 1285),
  (2, 32, 896, .invokevirtual 2290208),
  (3, 3, 322, .nop),
  (4, 38, 895, .invokeinterface 252 2),
  (11, 9, 324, .putstatic 1281),
  (11, 15, 325, .putstatic 1282),
  (11, 18, 326, .putstatic 1283),
  (11, 21, 327, .putstatic 1284),
  (11, 24, 323, .putstatic 1280)]
def LT_7 : List LKE := [(0, 9, 205, .getstatic 1537),
  (0, 17, 206, .getstatic 1538),
  (0, 22, 207, .getstatic 1539),
  (0, 26, 208, .getstatic 1540),
  (0, 29, 204, .getstatic 1536),
  (0, 41, 209, .getfield 1541),
  (0, 45, 210, .getfield 1542),
  (0, 48, 211, .getfield 1543),
  (0, 68, 190, .getfield 2305),
  (0, 73, 188, .getstatic 2304),
  (1, 22, 207, .putstatic 1539),
  (1, 26, 208, .putstatic 1540),
  (1, 41, 209, .putfield 1541),
  (1, 45, 210, .putfield 1542),
  (1, 48, 211, .putfield 1543),
  (2, 51, 683, .invokevirtual 1980106),
  (2, 55, 687, .invokevirtual 1940106),
  (2, 76, 694, .invokevirtual 2410213),
  (2, 88, 779, .invokevirtual 1990206),
  (2, 92, 791, .invokevirtual 2050206),
  (2, 97, 826, .invokevirtual 1970406),
  (2, 101, 813, .invokevirtual 2040206),
  (2, 104, 818, .invokevirtual 2020206),
  (2, 107, 822, .invokevirtual 2000206),
  (2, 110, 783, .invokevirtual 2010206),
  (2, 113, 807, .invokevirtual 1960306),
  (2, 117, 787, .invokevirtual 2030206),
  (2, 120, 795, .invokevirtual 2060206),
  (2, 125, 799, .invokevirtual 2070206),
  (2, 130, 803, .invokevirtual 2080206),
  (3, 3, 202, .nop),
  (3, 65, 854, .invokevirtual 2370310),
  (4, 59, 840, .invokeinterface 253 2),
  (4, 82, 691, .invokeinterface 195 2),
  (5, 15, 838, .new 10),
  (7, 20, 203, .ldc 0),
  (7, 33, 679, .ldc 2),
  (7, 35, 680, .ldc 4),
  (7, 37, 681, .ldc 6),
  (7, 39, 682, .ldc 8),
  (7, 86, 778, .ldc 10),
  (7, 95, 817, .ldc 12),
  (7, 123, 812, .ldc 14),
  (7, 128, 811, .ldc 16),
  (11, 9, 205, .putstatic 1537),
  (11, 17, 206, .putstatic 1538),
  (11, 29, 204, .putstatic 1536)]
def LT_8 : List LKE := [(0, 9, 237, .getstatic 1792),
  (0, 15, 238, .getstatic 1793),
  (0, 26, 861, .getstatic 2561),
  (0, 31, 859, .getstatic 2560),
  (2, 34, 923, .invokevirtual 2130307),
  (3, 3, 236, .nop),
  (4, 18, 913, .invokeinterface 252 2),
  (7, 42, 929, .bipush (-1000000)),
  (8, 24, 922, .jsr_w (1099511627776)),
  (8, 38, 927, .jsr_w (1000000)),
  (8, 40, 928, .jsr_w (-1000000)),
  (11, 9, 237, .putstatic 1792),
  (11, 15, 238, .putstatic 1793)]
def LT_9 : List LKE := [(0, 9, 255, .getstatic 2052),
  (0, 15, 257, .getstatic 2053),
  (0, 18, 259, .getstatic 2054),
  (0, 21, 260, .getstatic 2055),
  (0, 24, 261, .getstatic 2056),
  (0, 27, 262, .getstatic 2057),
  (0, 30, 263, .getstatic 2058),
  (0, 33, 274, .getfield 2065),
  (0, 37, 251, .getstatic 2048),
  (0, 41, 252, .getstatic 2049),
  (0, 45, 253, .getstatic 2050),
  (0, 49, 254, .getstatic 2051),
  (0, 53, 567, .getfield 1033),
  (0, 58, 268, .getfield 2061),
  (0, 59, 270, .getfield 2062),
  (0, 62, 273, .getfield 2064),
  (0, 75, 264, .getfield 2059),
  (0, 78, 266, .getfield 2060),
  (0, 81, 272, .getfield 2063),
  (0, 84, 153, .getfield 261),
  (0, 89, 147, .getstatic 259),
  (0, 109, 569, .getstatic 1034),
  (0, 128, 557, .getstatic 1026),
  (0, 134, 161, .getfield 262),
  (0, 141, 549, .getfield 1024),
  (0, 148, 144, .getstatic 258),
  (0, 179, 142, .getstatic 257),
  (0, 187, 276, .getfield 2066),
  (0, 198, 552, .getfield 1025),
  (1, 33, 274, .putfield 2065),
  (1, 49, 254, .putstatic 2051),
  (1, 58, 268, .putfield 2061),
  (1, 59, 270, .putfield 2062),
  (1, 62, 273, .putfield 2064),
  (1, 75, 264, .putfield 2059),
  (1, 78, 266, .putfield 2060),
  (1, 81, 272, .putfield 2063),
  (1, 187, 276, .putfield 2066),
  (2, 71, 905, .invokevirtual 2160108),
  (2, 92, 932, .invokevirtual 2200308),
  (2, 96, 982, .invokevirtual 2170208),
  (2, 100, 909, .invokevirtual 2100107),
  (2, 105, 914, .invokevirtual 2110307),
  (2, 113, 918, .invokevirtual 2120307),
  (2, 121, 986, .invokevirtual 2180108),
  (2, 125, 991, .invokevirtual 2190108),
  (2, 131, 990, .invokevirtual 1850204),
  (2, 137, 936, .invokevirtual 2210308),
  (2, 144, 940, .invokevirtual 2220408),
  (2, 151, 954, .invokevirtual 2240408),
  (2, 155, 962, .invokevirtual 2250408),
  (2, 159, 966, .invokevirtual 2280308),
  (2, 163, 970, .invokevirtual 2260408),
  (2, 166, 944, .invokevirtual 1780304),
  (2, 172, 949, .invokevirtual 1800304),
  (2, 175, 950, .invokevirtual 2230408),
  (2, 183, 958, .invokevirtual 1830404),
  (2, 190, 974, .invokevirtual 2270408),
  (2, 194, 978, .invokevirtual 1790404),
  (2, 201, 1178, .invokevirtual 2330208),
  (3, 3, 250, .nop),
  (4, 65, 904, .invokeinterface 252 2),
  (4, 204, 1182, .fadd),
  (8, 117, 930, .jsr_w (1099511627776)),
  (8, 119, 931, .jsr_w (30)),
  (11, 9, 255, .putstatic 2052),
  (11, 15, 257, .putstatic 2053),
  (11, 18, 259, .putstatic 2054),
  (11, 21, 260, .putstatic 2055),
  (11, 24, 261, .putstatic 2056),
  (11, 27, 262, .putstatic 2057),
  (11, 30, 263, .putstatic 2058),
  (11, 37, 251, .putstatic 2048),
  (11, 41, 252, .putstatic 2049),
  (11, 45, 253, .putstatic 2050),
  (14, 169, 948, .invokeinterface 41 2)]
def LT_10 : List LKE := [(0, 11, 187, .getstatic 2304),
  (0, 15, 189, .getfield 2305),
  (1, 15, 189, .putfield 2305),
  (2, 19, 663, .invokevirtual 2360209),
  (3, 3, 186, .nop),
  (11, 11, 187, .putstatic 2304)]
def LT_11 : List LKE := [(3, 1, 857, .nop),
  (11, 7, 858, .putstatic 2560),
  (11, 13, 860, .putstatic 2561)]
def LT_12 : List LKE := [(2, 23, 478, .invokevirtual 10211),
  (2, 27, 1540, .invokevirtual 550212),
  (2, 28, 505, .invokevirtual 20311),
  (2, 32, 1547, .invokevirtual 560312),
  (2, 33, 515, .invokevirtual 30211),
  (2, 36, 1555, .invokevirtual 580212),
  (2, 37, 519, .invokevirtual 40411),
  (2, 41, 1563, .invokevirtual 590412),
  (2, 42, 528, .invokevirtual 50311),
  (2, 46, 1567, .invokevirtual 600312),
  (2, 47, 594, .invokevirtual 60611),
  (2, 51, 1571, .invokevirtual 620612),
  (2, 52, 611, .invokevirtual 70511),
  (2, 56, 1590, .invokevirtual 630512),
  (2, 57, 619, .invokevirtual 80511),
  (2, 61, 1594, .invokevirtual 640512),
  (2, 62, 623, .invokevirtual 90711),
  (2, 66, 1598, .invokevirtual 650712),
  (2, 67, 631, .invokevirtual 100411),
  (2, 70, 1602, .invokevirtual 730412),
  (2, 71, 647, .invokevirtual 110411),
  (2, 74, 1633, .invokevirtual 750412),
  (2, 75, 655, .invokevirtual 120611),
  (2, 79, 1641, .invokevirtual 780612),
  (2, 80, 667, .invokevirtual 130211),
  (2, 84, 1652, .invokevirtual 790212),
  (2, 85, 671, .invokevirtual 140211),
  (2, 88, 1656, .invokevirtual 960212),
  (2, 89, 830, .invokevirtual 150111),
  (2, 93, 1733, .invokevirtual 980112),
  (2, 94, 867, .invokevirtual 160111),
  (2, 97, 1741, .invokevirtual 990112),
  (2, 98, 871, .invokevirtual 170311),
  (2, 102, 1745, .invokevirtual 1010312),
  (2, 103, 875, .invokevirtual 180311),
  (2, 106, 1749, .invokevirtual 1020312),
  (2, 112, 1757, .invokevirtual 1050812),
  (2, 113, 1536, .invokevirtual 490112),
  (2, 116, 879, .invokevirtual 200311),
  (2, 119, 1769, .invokevirtual 1060312),
  (2, 120, 883, .invokevirtual 210311),
  (2, 123, 1773, .invokevirtual 1210312),
  (2, 127, 1855, .invokevirtual 1220412),
  (2, 128, 995, .invokevirtual 230611),
  (2, 131, 1859, .invokevirtual 1230612),
  (2, 132, 1003, .invokevirtual 240311),
  (2, 136, 1863, .invokevirtual 1240312),
  (2, 137, 1011, .invokevirtual 250311),
  (2, 140, 1867, .invokevirtual 1250312),
  (2, 141, 1024, .invokevirtual 260211),
  (2, 144, 1871, .invokevirtual 1270212),
  (2, 145, 1037, .invokevirtual 270211),
  (2, 148, 1879, .invokevirtual 1300212),
  (2, 149, 1054, .invokevirtual 280211),
  (2, 152, 1891, .invokevirtual 1310212),
  (2, 153, 1068, .invokevirtual 290811),
  (2, 156, 1895, .invokevirtual 1320812),
  (2, 157, 1076, .invokevirtual 300311),
  (2, 160, 1899, .invokevirtual 1340312),
  (2, 161, 1108, .invokevirtual 310311),
  (2, 164, 1907, .invokevirtual 1350312),
  (2, 165, 1121, .invokevirtual 320711),
  (2, 169, 1911, .invokevirtual 1360712),
  (2, 170, 1129, .invokevirtual 330611),
  (2, 173, 1915, .invokevirtual 1380612),
  (2, 174, 1145, .invokevirtual 340711),
  (2, 178, 1923, .invokevirtual 1390712),
  (2, 179, 1149, .invokevirtual 350411),
  (2, 182, 1927, .invokevirtual 1400412),
  (2, 183, 1153, .invokevirtual 360311),
  (2, 186, 1931, .invokevirtual 1410312),
  (2, 187, 1161, .invokevirtual 370411),
  (2, 190, 1935, .invokevirtual 1420412),
  (2, 191, 1169, .invokevirtual 380311),
  (2, 194, 1939, .invokevirtual 1430312),
  (2, 195, 1183, .invokevirtual 390311),
  (2, 198, 1943, .invokevirtual 1440312),
  (2, 199, 1187, .invokevirtual 400211),
  (2, 202, 1947, .invokevirtual 1450212),
  (3, 19, 123, .invokevirtual 111),
  (3, 22, 1273, .invokevirtual 480112),
  (4, 107, 1191, .invokeinterface 238 9),
  (4, 124, 1264, .invokeinterface 239 5),
  (5, 8, 121, .new 11),
  (5, 20, 1271, .new 12),
  (12, 7, 1195, .invokedynamic 19008023),
  (12, 15, 1267, .invokedynamic 22004015)]
def LT_13 : List LKE := [(0, 9, 1280, .getstatic 3073),
  (0, 13, 1281, .getstatic 3074),
  (0, 16, 1282, .getstatic 3075),
  (0, 19, 1283, .getstatic 3076),
  (0, 23, 1284, .getstatic 3077),
  (0, 26, 1285, .getstatic 3078),
  (0, 29, 1286, .getstatic 3079),
  (0, 32, 1287, .getstatic 3080),
  (0, 35, 1288, .getstatic 3081),
  (0, 38, 1289, .getstatic 3082),
  (0, 41, 1290, .getstatic 3083),
  (0, 44, 1291, .getstatic 3084),
  (0, 47, 1292, .getstatic 3085),
  (0, 50, 1293, .getstatic 3086),
  (0, 53, 1294, .getstatic 3087),
  (0, 56, 1295, .getstatic 3088),
  (0, 59, 1296, .getstatic 3089),
  (0, 62, 1302, .getstatic 3095),
  (0, 66, 1303, .getstatic 3096),
  (0, 69, 1304, .getstatic 3097),
  (0, 72, 1305, .getstatic 3098),
  (0, 75, 1306, .getstatic 3099),
  (0, 80, 1317, .getstatic 3110),
  (0, 86, 1318, .getstatic 3111),
  (0, 89, 1320, .getstatic 3113),
  (0, 92, 1321, .getstatic 3114),
  (0, 95, 1322, .getstatic 3115),
  (0, 98, 1323, .getstatic 3116),
  (0, 101, 1324, .getstatic 3117),
  (0, 104, 1325, .getstatic 3118),
  (0, 107, 1326, .getstatic 3119),
  (0, 110, 1327, .getstatic 3120),
  (0, 113, 1328, .getstatic 3121),
  (0, 116, 1329, .getstatic 3122),
  (0, 119, 1330, .getstatic 3123),
  (0, 122, 1331, .getstatic 3124),
  (0, 125, 1336, .getstatic 3129),
  (0, 128, 1337, .getstatic 3130),
  (0, 131, 1338, .getstatic 3131),
  (0, 134, 1340, .getfield 3133),
  (0, 138, 1341, .getstatic 3134),
  (0, 141, 1342, .getstatic 3135),
  (0, 144, 1343, .getstatic 3136),
  (0, 147, 1344, .getstatic 3137),
  (0, 150, 1345, .getstatic 3138),
  (0, 153, 1347, .getstatic 3140),
  (0, 156, 1348, .getstatic 3141),
  (0, 159, 1349, .getstatic 3142),
  (0, 162, 1350, .getstatic 3143),
  (0, 165, 1351, .getstatic 3144),
  (0, 168, 1352, .getstatic 3145),
  (0, 171, 1353, .getstatic 3146),
  (0, 174, 1354, .getstatic 3147),
  (0, 177, 1355, .getstatic 3148),
  (0, 180, 1357, .getstatic 3150),
  (0, 183, 1358, .getstatic 3151),
  (0, 186, 1359, .getstatic 3152),
  (0, 189, 1360, .getstatic 3153),
  (0, 192, 1361, .getstatic 3154),
  (0, 195, 1362, .getstatic 3155),
  (0, 198, 1279, .getfield 3072),
  (0, 201, 1297, .getfield 3090),
  (0, 204, 1298, .getfield 3091),
  (0, 222, 1300, .getfield 3093),
  (0, 235, 1299, .getfield 3092),
  (0, 245, 1356, .getfield 3149),
  (0, 248, 1301, .getfield 3094),
  (0, 272, 1307, .getfield 3100),
  (0, 282, 1312, .getfield 3105),
  (0, 285, 1311, .getfield 3104),
  (0, 288, 1310, .getfield 3103),
  (0, 291, 1313, .getfield 3106),
  (0, 294, 1314, .getfield 3107),
  (0, 361, 1319, .getfield 3112),
  (0, 365, 1315, .getfield 3108),
  (0, 368, 1316, .getfield 3109),
  (0, 382, 1308, .getfield 3101),
  (0, 389, 1309, .getfield 3102),
  (0, 402, 1346, .getfield 3139),
  (0, 418, 1335, .getfield 3128),
  (0, 428, 1339, .getfield 3132),
  (0, 439, 1332, .getfield 3125),
  (0, 452, 1333, .getfield 3126),
  (0, 455, 1334, .getfield 3127),
  (0, 491, 1363, .getfield 3156),
  (1, 75, 1306, .putstatic 3099),
  (1, 80, 1317, .putstatic 3110),
  (1, 86, 1318, .putstatic 3111),
  (1, 134, 1340, .putfield 3133),
  (1, 198, 1279, .putfield 3072),
  (1, 201, 1297, .putfield 3090),
  (1, 204, 1298, .putfield 3091),
  (1, 222, 1300, .putfield 3093),
  (1, 235, 1299, .putfield 3092),
  (1, 245, 1356, .putfield 3149),
  (1, 248, 1301, .putfield 3094),
  (1, 272, 1307, .putfield 3100),
  (1, 282, 1312, .putfield 3105),
  (1, 285, 1311, .putfield 3104),
  (1, 288, 1310, .putfield 3103),
  (1, 291, 1313, .putfield 3106),
  (1, 294, 1314, .putfield 3107),
  (1, 361, 1319, .fstore 3112),
  (1, 365, 1315, .putfield 3108),
  (1, 368, 1316, .putfield 3109),
  (1, 382, 1308, .putfield 3101),
  (1, 389, 1309, .putfield 3102),
  (1, 402, 1346, .putfield 3139),
  (1, 418, 1335, .putfield 3128),
  (1, 428, 1339, .putfield 3132),
  (1, 439, 1332, .putfield 3125),
  (1, 452, 1333, .putfield 3126),
  (1, 455, 1334, .putfield 3127),
  (1, 491, 1363, .putfield 3156),
  (2, 207, 1583, .invokevirtual 520212),
  (2, 215, 1579, .invokevirtual 530312),
  (2, 219, 1551, .invokevirtual 510212),
  (2, 225, 1559, .invokevirtual 570112),
  (2, 228, 1575, .invokevirtual 540412),
  (2, 242, 1621, .invokevirtual 680412),
  (2, 251, 1625, .invokevirtual 700512),
  (2, 255, 1629, .invokevirtual 690612),
  (2, 259, 1606, .invokevirtual 670312),
  (2, 262, 1613, .invokevirtual 720212),
  (2, 266, 1617, .invokevirtual 710512),
  (2, 269, 1637, .invokevirtual 740412),
  (2, 278, 1648, .invokevirtual 770212),
  (2, 297, 1675, .invokevirtual 810112),
  (2, 301, 1670, .invokevirtual 800112),
  (2, 318, 1674, .invokevirtual 2410213),
  (2, 323, 1707, .invokevirtual 820112),
  (2, 326, 1695, .invokevirtual 880112),
  (2, 329, 1679, .invokevirtual 830212),
  (2, 332, 1711, .invokevirtual 840112),
  (2, 335, 1703, .invokevirtual 860112),
  (2, 342, 1699, .invokevirtual 870112),
  (2, 348, 1729, .invokevirtual 910112),
  (2, 351, 1683, .invokevirtual 930312),
  (2, 355, 1691, .invokevirtual 900312),
  (2, 358, 1687, .invokevirtual 920312),
  (2, 375, 1666, .invokevirtual 940112),
  (2, 378, 1660, .invokevirtual 950612),
  (2, 385, 1737, .invokevirtual 970312),
  (2, 392, 1753, .invokevirtual 1000212),
  (2, 395, 1761, .invokevirtual 1030112),
  (2, 398, 1765, .invokevirtual 1040412),
  (2, 405, 1803, .invokevirtual 1090212),
  (2, 408, 1811, .invokevirtual 1070312),
  (2, 412, 1795, .invokevirtual 1120612),
  (2, 415, 1799, .invokevirtual 1080312),
  (2, 421, 1807, .invokevirtual 1100912),
  (2, 425, 1815, .invokevirtual 1110512),
  (2, 431, 1819, .invokevirtual 2460213),
  (2, 435, 1839, .invokevirtual 1140712),
  (2, 442, 1847, .invokevirtual 1150312),
  (2, 449, 1785, .invokevirtual 1170212),
  (2, 458, 1791, .invokevirtual 1130612),
  (2, 461, 1843, .invokevirtual 1160312),
  (2, 464, 1851, .invokevirtual 1180312),
  (2, 467, 1781, .invokevirtual 1190212),
  (2, 470, 1777, .invokevirtual 1200212),
  (2, 473, 1875, .invokevirtual 1260312),
  (2, 482, 1883, .invokevirtual 1280412),
  (2, 488, 1903, .invokevirtual 1330412),
  (2, 494, 1919, .invokevirtual 1370612),
  (3, 3, 1276, .nop),
  (4, 211, 1544, .invokeinterface 50 3),
  (4, 231, 1587, .invokeinterface 61 4),
  (4, 238, 1610, .invokeinterface 66 3),
  (4, 275, 1645, .invokeinterface 76 1),
  (4, 309, 1720, .dsub),
  (4, 315, 1723, .dadd),
  (4, 338, 1715, .invokeinterface 85 1),
  (4, 345, 1726, .invokeinterface 89 1),
  (4, 445, 1789, .fsub),
  (4, 447, 1790, .fadd),
  (4, 477, 1890, .invokeinterface 254 1),
  (4, 485, 1887, .invokeinterface 129 2),
  (7, 78, 1277, .ldc 2),
  (7, 84, 1278, .ldc 6),
  (8, 305, 1718, .jsr_w (-1000000)),
  (8, 307, 1719, .jsr_w (1000000)),
  (11, 9, 1280, .putstatic 3073),
  (11, 13, 1281, .putstatic 3074),
  (11, 16, 1282, .putstatic 3075),
  (11, 19, 1283, .putstatic 3076),
  (11, 23, 1284, .putstatic 3077),
  (11, 26, 1285, .putstatic 3078),
  (11, 29, 1286, .putstatic 3079),
  (11, 32, 1287, .putstatic 3080),
  (11, 35, 1288, .putstatic 3081),
  (11, 38, 1289, .putstatic 3082),
  (11, 41, 1290, .putstatic 3083),
  (11, 44, 1291, .putstatic 3084),
  (11, 47, 1292, .putstatic 3085),
  (11, 50, 1293, .putstatic 3086),
  (11, 53, 1294, .putstatic 3087),
  (11, 56, 1295, .putstatic 3088),
  (11, 59, 1296, .putstatic 3089),
  (11, 62, 1302, .putstatic 3095),
  (11, 66, 1303, .putstatic 3096),
  (11, 69, 1304, .putstatic 3097),
  (11, 72, 1305, .putstatic 3098),
  (11, 89, 1320, .putstatic 3113),
  (11, 92, 1321, .putstatic 3114),
  (11, 95, 1322, .putstatic 3115),
  (11, 98, 1323, .putstatic 3116),
  (11, 101, 1324, .putstatic 3117),
  (11, 104, 1325, .putstatic 3118),
  (11, 107, 1326, .putstatic 3119),
  (11, 110, 1327, .putstatic 3120),
  (11, 113, 1328, .putstatic 3121),
  (11, 116, 1329, .putstatic 3122),
  (11, 119, 1330, .putstatic 3123),
  (11, 122, 1331, .putstatic 3124),
  (11, 125, 1336, .putstatic 3129),
  (11, 128, 1337, .putstatic 3130),
  (11, 131, 1338, .putstatic 3131),
  (11, 138, 1341, .putstatic 3134),
  (11, 141, 1342, .putstatic 3135),
  (11, 144, 1343, .putstatic 3136),
  (11, 147, 1344, .putstatic 3137),
  (11, 150, 1345, .putstatic 3138),
  (11, 153, 1347, .putstatic 3140),
  (11, 156, 1348, .putstatic 3141),
  (11, 159, 1349, .putstatic 3142),
  (11, 162, 1350, .putstatic 3143),
  (11, 165, 1351, .putstatic 3144),
  (11, 168, 1352, .putstatic 3145),
  (11, 171, 1353, .putstatic 3146),
  (11, 174, 1354, .putstatic 3147),
  (11, 177, 1355, .putstatic 3148),
  (11, 180, 1357, .putstatic 3150),
  (11, 183, 1358, .putstatic 3151),
  (11, 186, 1359, .putstatic 3152),
  (11, 189, 1360, .putstatic 3153),
  (11, 192, 1361, .putstatic 3154),
  (11, 195, 1362, .putstatic 3155),
  (17, 371, 1664, .ldc 4),
  (17, 373, 1665, .ldc 8)]
def LT_14 : List LKE := [(17, 265, 1051, .bipush (1431655765)),
  (17, 266, 1052, .bipush (858993459)),
  (17, 267, 1053, .bipush (252645135))]
def LT_15 : List LKE := [(0, 9, 1970, .getstatic 3328),
  (0, 15, 1969, .getfield 3329),
  (2, 335, 712, .invokevirtual 2450113),
  (2, 492, 702, .invokevirtual 2430113),
  (2, 505, 708, .invokevirtual 2440113),
  (2, 633, 698, .invokevirtual 2420313),
  (4, 495, 1823, .invokeinterface 248 2),
  (4, 637, 716, .invokeinterface 249 4),
  (4, 1059, 1829, .invokeinterface 255 3),
  (9, 38, 706, .dload 0),
  (9, 1053, 747, .fload 0)]
def LT_16 : List LKE := [(4, 9, 1826, .invokeinterface 247 2),
  (4, 38, 725, .fsub),
  (4, 88, 719, .invokeinterface 251 1),
  (4, 92, 722, .fadd),
  (4, 95, 726, .invokeinterface 250 4)]
def LT_17 : List LKE := [(4, 150, 851, .monitorenter),
  (4, 304, 850, .fsub)]
def LT_18 : List LKE := []
def LTl : List (String × List LKE) := [("TreeTalk", LT_0), ("TreeTalk$Asides", LT_1), ("TreeTalk$Circle", LT_2), ("TreeTalk$Council", LT_3), ("TreeTalk$Gifts", LT_4), ("TreeTalk$Matter", LT_5), ("TreeTalk$Pledges", LT_6), ("TreeTalk$Reader", LT_7), ("TreeTalk$Scale", LT_8), ("TreeTalk$Talk", LT_9), ("TreeTalk$Tape", LT_10), ("TreeTalk$Text", LT_11), ("TreeTalkLaw", LT_12), ("TreeTalkModel", LT_13), ("java/lang/Integer", LT_14), ("java/lang/String", LT_15), ("java/lang/StringLatin1", LT_16), ("java/util/Arrays", LT_17), ("jdk/internal/util/Preconditions", LT_18)]
def lto (t : Nat) : String × List LKE := lnth LTl ("", []) t
def lfd : List LKE → Nat → Nat → Option Instr
  | [], _, _ => none
  | (g, i, _, t) :: l, a, b => if g = a ∧ i = b then some t else lfd l a b
/-- the String constants: class, entry of the pool, number -/
def strL : List (String × Nat × Nat × String) := [("TreeTalk$Reader", 20, 0, ""), ("TreeTalk$Reader", 33, 2, "sld"), ("TreeTalk$Reader", 35, 4, "nc"), ("TreeTalk$Reader", 37, 6, "aktfm"), ("TreeTalk$Reader", 39, 8, "heotkaqwgf"), ("TreeTalk$Reader", 86, 10, "!("), ("TreeTalk$Reader", 95, 12, "=<>"), ("TreeTalk$Reader", 123, 14, "+-"), ("TreeTalk$Reader", 128, 16, "*/"), ("TreeTalkModel", 78, 2, "sld"), ("TreeTalkModel", 84, 6, "aktfm"), ("TreeTalkModel", 371, 4, "nc"), ("TreeTalkModel", 373, 8, "heotkaqwgf")]
def elm : Nat → String
  | 4 => "TreeTalk$Matter"
  | 5 => "TreeTalk$Text"
  | _ => "TreeTalk$Talk"
def nestW : List Cond := [.methodLinkNest "TreeTalk$Council" 52 ⟨"TreeTalk", "comesFirst", "(II)Z"⟩ "TreeTalk", .methodLinkNest "TreeTalk$Council" 62 ⟨"TreeTalk", "slot", "(II)I"⟩ "TreeTalk", .methodLinkNest "TreeTalk$Gifts" 51 ⟨"TreeTalk", "comesFirst", "(II)Z"⟩ "TreeTalk", .methodLinkNest "TreeTalk$Matter" 49 ⟨"TreeTalk", "slot", "(II)I"⟩ "TreeTalk", .methodLinkNest "TreeTalk$Talk" 169 ⟨"TreeTalk", "slot", "(II)I"⟩ "TreeTalk"]
/-- a link stands for what it says -/
def lkB (own : String) : LKE → Bool
  | (0, i, p, .getfield n) => tb p (.fieldLink own i (ftb (n / 256) (n % 256)).1 (ftb (n / 256) (n % 256)).2.1 (ftb (n / 256) (n % 256)).2.2.1) && decide (n / 256 < 14) && decide (n % 256 < (lnth vwX ("", TX13, 0) (n / 256)).2.2) && !isR (n / 256) (n % 256)
  | (0, i, p, .getstatic n) => tb p (.fieldLink own i (ftb (n / 256) (n % 256)).1 (ftb (n / 256) (n % 256)).2.1 (ftb (n / 256) (n % 256)).2.2.1) && decide (n / 256 < 14) && decide (n % 256 < (lnth vwX ("", TX13, 0) (n / 256)).2.2) && isR (n / 256) (n % 256)
  | (1, i, p, .putfield n) => tb p (.fieldLink own i (ftb (n / 256) (n % 256)).1 (ftb (n / 256) (n % 256)).2.1 (ftb (n / 256) (n % 256)).2.2.1) && decide (n / 256 < 13) && decide (n % 256 < nfc (n / 256)) && decide (tyO (n / 256) (n % 256) = .int) && !(ftb (n / 256) (n % 256)).2.2.2
  | (1, i, p, .fstore n) => tb p (.fieldLink own i (ftb (n / 256) (n % 256)).1 (ftb (n / 256) (n % 256)).2.1 (ftb (n / 256) (n % 256)).2.2.1) && decide (n / 256 < 13) && decide (n % 256 < nfc (n / 256)) && decide (tyO (n / 256) (n % 256) = .boolean) && !(ftb (n / 256) (n % 256)).2.2.2
  | (1, i, p, .putstatic n) => tb p (.fieldLink own i (ftb (n / 256) (n % 256)).1 (ftb (n / 256) (n % 256)).2.1 (ftb (n / 256) (n % 256)).2.2.1) && decide (n / 256 < 13) && decide (n % 256 < nfc (n / 256)) && isR (n / 256) (n % 256) && !(ftb (n / 256) (n % 256)).2.2.2
  | (11, i, p, .putfield n) => tb p (.fieldLink own i (ftb (n / 256) (n % 256)).1 (ftb (n / 256) (n % 256)).2.1 (ftb (n / 256) (n % 256)).2.2.1) && decide (n / 256 < 13) && decide (n % 256 < nfc (n / 256)) && decide (tyO (n / 256) (n % 256) = .int) && (ftb (n / 256) (n % 256)).2.2.2 && decide (own = cnm (n / 256)) && decide ((ftb (n / 256) (n % 256)).1 = own)
  | (11, i, p, .putstatic n) => tb p (.fieldLink own i (ftb (n / 256) (n % 256)).1 (ftb (n / 256) (n % 256)).2.1 (ftb (n / 256) (n % 256)).2.2.1) && decide (n / 256 < 13) && decide (n % 256 < nfc (n / 256)) && isR (n / 256) (n % 256) && (ftb (n / 256) (n % 256)).2.2.2 && decide (own = cnm (n / 256)) && decide ((ftb (n / 256) (n % 256)).1 = own)
  | (2, i, p, .invokevirtual w) => tb p (.methodLink own i (mY (w / 10000))) && decide (mG (w / 10000) = 1) && decide (w / 100 % 100 = mN (w / 10000)) && decide (w % 100 < 14) && decide (cnm (w % 100) = (mY (w / 10000)).cls)
  | (12, i, p, .invokedynamic w) => tb p (.methodLink own i (mY (w / 1000000))) && decide (mG (w / 1000000) = 1) && decide (w / 1000 % 1000 = mN (w / 1000000)) && decide (own = "TreeTalkLaw") && decide (mH (w / 1000000) = []) && decide ((mY (w / 1000000)).cls = "TreeTalk")
  | (3, i, p, .invokevirtual w) => tb p (.methodLink own i (mY (w / 10000))) && decide (mG (w / 10000) = 2) && decide (w / 100 % 100 = mN (w / 10000)) && decide (w % 100 < 14)
  | (3, i, p, .nop) => tb p (.methodLink own i Lib.objectInit)
  | (4, i, p, .invokeinterface k n) => tb p (.methodLink own i (mY k)) && decide (mG k = 0) && decide (n = mN k)
  | (14, i, _, .invokeinterface k n) => decide (Cond.methodLinkNest own i (mY k) "TreeTalk" ∈ nestW) && decide (mG k = 0) && decide (n = mN k) && decide (mH k = [])
  | (4, i, p, .monitorenter) => tb p (.methodLink own i arraycopyName)
  | (4, i, p, .fadd) => tb p (.methodLink own i Lib.Math.max.name)
  | (4, i, p, .fsub) => tb p (.methodLink own i Lib.Math.min.name)
  | (4, i, p, .dadd) => tb p (.methodLink own i Lib.MathLoose.max_long.x)
  | (4, i, p, .dsub) => tb p (.methodLink own i Lib.MathLoose.min_long.x)
  | (5, i, p, .new c) => tb p (.classLink own i (cnm c)) && decide (c < 13)
  | (6, i, p, .anewarray t) => tb p (.classLink own i (elm t)) && decide (4 ≤ t) && decide (t ≤ 6)
  | (17, i, _, .ldc a) => strL.any (fun q => decide (q.1 = own) && decide (q.2.1 = i) && decide (q.2.2.1 = a))
  | (7, i, _, .ldc a) => strL.any (fun q => decide (q.1 = own) && decide (q.2.1 = i) && decide (q.2.2.1 = a))
  | (7, i, p, .bipush v) => tb p (.constant own i (Int32.ofInt v))
  | (17, i, p, .bipush v) => tb p (.constant own i (Int32.ofInt v))
  | (8, i, p, .jsr_w v) => tb p (.constantLong own i (Int64.ofInt v))
  | (9, i, p, .dload 0) => tb p (.fieldLink own i "java/lang/String" "COMPACT_STRINGS" "Z")
  | (9, i, p, .fload 0) => tb p (.fieldLink own i "jdk/internal/util/Preconditions" "SIOOBE_FORMATTER" "Ljava/util/function/BiFunction;")
  | (10, i, p, .multianewarray _ _) => tb p (.classLink own i "[[I")
  | (13, _, _, .nop) => true
  | (15, _, _, .nop) => true
  | _ => false
/-- the bytes at pc say i: own, the links, whether it is a constructor -/
def ldB (j : Nat) (i : Instr) (raw : Instr) : Bool := match raw, i with
  | .iload_n k, .iload a => decide (a = k.val)
  | .iload k, .iload a => decide (a = k)
  | .lload_n k, .lload a => decide (a = k.val)
  | .lload k, .lload a => decide (a = k)
  | .aload_n k, .aload a => decide (a = k.val)
  | .aload k, .aload a => decide (a = k)
  | .istore_n k, .istore a => decide (a = k.val)
  | .istore k, .istore a => decide (a = k)
  | .lstore_n k, .lstore a => decide (a = k.val)
  | .lstore k, .lstore a => decide (a = k)
  | .astore_n k, .astore a => decide (a = k.val)
  | .astore k, .astore a => decide (a = k)
  | .iconst v, .iconst a => decide (Int32.ofInt v = Int32.ofInt a)
  | .bipush v, .iconst a => decide ((Int8.ofInt v).toInt32 = Int32.ofInt a)
  | .sipush v, .iconst a => decide ((Int16.ofInt v).toInt32 = Int32.ofInt a)
  | .lconst v, .goto_w a => decide (Int64.ofNat v.val = Int64.ofInt a)
  | .goto o, .goto t => decide ((j : Int) + o = (t.toNat : Int))
  | .if_icmp c o, .if_icmp d t => decide (c = d) && decide ((j : Int) + o = (t.toNat : Int))
  | .ifCond c o, .ifCond d t => decide (c = d) && decide ((j : Int) + o = (t.toNat : Int))
  | .ifnull o, .ifnull t => decide ((j : Int) + o = (t.toNat : Int))
  | .ifnonnull o, .ifnonnull t => decide ((j : Int) + o = (t.toNat : Int))
  | .iinc a v, .iinc b u => decide (a = b) && decide (v = u)
  | .baload, .baload => true
  | .baload, .caload => true
  | .bastore, .bastore => true
  | .bastore, .castore => true
  | .newarray a, .newarray b => decide (a = b) && (decide (a = .int) || decide (a = .boolean) || decide (a = .byte) || decide (a = .long))
  | .iadd, .iadd => true
  | .isub, .isub => true
  | .imul, .imul => true
  | .iand, .iand => true
  | .ior, .ior => true
  | .ixor, .ixor => true
  | .ishl, .ishl => true
  | .ishr, .ishr => true
  | .iushr, .iushr => true
  | .idiv, .idiv => true
  | .irem, .irem => true
  | .ineg, .ineg => true
  | .ladd, .ladd => true
  | .lsub, .lsub => true
  | .lmul, .lmul => true
  | .land, .land => true
  | .lor, .lor => true
  | .ldiv, .ldiv => true
  | .lshl, .lshl => true
  | .lcmp, .lcmp => true
  | .i2l, .i2l => true
  | .l2i, .l2i => true
  | .i2b, .i2b => true
  | .i2c, .i2c => true
  | .dup, .dup => true
  | .dup2, .dup2 => true
  | .pop, .pop => true
  | .aconst_null, .aconst_null => true
  | .iaload, .iaload => true
  | .laload, .laload => true
  | .aaload, .aaload => true
  | .iastore, .iastore => true
  | .lastore, .lastore => true
  | .aastore, .aastore => true
  | .arraylength, .arraylength => true
  | .ireturn, .ireturn => true
  | .lreturn, .lreturn => true
  | .areturn, .areturn => true
  | .return_, .return_ => true
  | .tableswitch d lo hi offs, .tableswitch e lo2 hi2 ts => decide (lo = lo2) && decide (hi = hi2) && decide (lo + (offs.size : Int) = hi + 1) && decide (-1000 ≤ lo) && decide (hi ≤ 1000) && decide ((j : Int) + d = (e.toNat : Int)) && decide (offs.toList.map (fun o => (j : Int) + o) = ts.toList.map (fun t => (t.toNat : Int)))
  | _, _ => false
/-- what links: the kind of the instruction, the entry -/
def lkO : Instr → Instr → Option (Nat × Nat)
  | .getfield a, _ => some (0, a)
  | .putfield a, _ => some (1, a)
  | .invokevirtual a, .invokedynamic _ => some (12, a)
  | .invokevirtual a, _ => some (2, a)
  | .invokespecial a, _ => some (3, a)
  | .invokestatic a, _ => some (4, a)
  | .new a, _ => some (5, a)
  | .anewarray a, _ => some (6, a)
  | .ldc a, _ => some (7, a)
  | .ldc_w a, _ => some (17, a)
  | .ldc2_w a, _ => some (8, a)
  | .getstatic a, _ => some (9, a)
  | .multianewarray a 2, _ => some (10, a)
  | _, _ => none
/-- tokens that come by a link -/
def lkd : Instr → Bool
  | .getfield _ => true
  | .getstatic _ => true
  | .putfield _ => true
  | .fstore _ => true
  | .putstatic _ => true
  | .invokeinterface _ _ => true
  | .invokevirtual _ => true
  | .invokedynamic _ => true
  | .nop => true
  | .monitorenter => true
  | .fadd => true
  | .fsub => true
  | .dadd => true
  | .dsub => true
  | .new _ => true
  | .anewarray _ => true
  | .ldc _ => true
  | .bipush _ => true
  | .jsr_w _ => true
  | .dload _ => true
  | .fload _ => true
  | .multianewarray _ _ => true
  | _ => false
/-- how long an instruction is -/
def lenB : Instr → Nat → Bool
  | .bipush _, n => n == 2
  | .sipush _, n => n == 3
  | .ldc _, n => n == 2
  | .ldc_w _, n => n == 3
  | .ldc2_w _, n => n == 3
  | .iload _, n => n == 2
  | .lload _, n => n == 2
  | .aload _, n => n == 2
  | .istore _, n => n == 2
  | .lstore _, n => n == 2
  | .astore _, n => n == 2
  | .goto _, n => n == 3
  | .if_icmp _ _, n => n == 3
  | .ifCond _ _, n => n == 3
  | .ifnull _, n => n == 3
  | .ifnonnull _, n => n == 3
  | .iinc _ _, n => n == 3
  | .getfield _, n => n == 3
  | .putfield _, n => n == 3
  | .getstatic _, n => n == 3
  | .invokevirtual _, n => n == 3
  | .invokespecial _, n => n == 3
  | .invokestatic _, n => n == 3
  | .new _, n => n == 3
  | .newarray _, n => n == 2
  | .anewarray _, n => n == 3
  | .multianewarray _ _, n => n == 4
  | .tableswitch _ _ _ _, _ => true
  | _, n => n == 1
/-- a call in a try: its handler -/
def catB (hh : List (Nat × Nat × Nat × Nat)) (pc : Nat) : Instr → Bool
  | .invokedynamic w => match hh with
    | [(a, b, hp, ct)] => decide (a ≤ pc) && decide (pc < b) && decide (hp = w % 1000) && decide (ct = 13)
    | _ => false
  | _ => true
def insB (b : ByteArray) (t : Nat) (ini : Bool) (pc : Nat) (i : Instr) (n : Nat) : Bool := match i with
  | .jsr _ => true
  | .athrow => decide (t = 0) && decide (n = 8) && decide (decode b pc = .ok (.new 206, 3)) && decide (decode b (pc + 3) = .ok (.dup, 1)) && decide (decode b (pc + 4) = .ok (.invokespecial 208, 3)) && decide (decode b (pc + 7) = .ok (.athrow, 1))
  | _ => match decode b pc with
    | .ok (raw, len) => decide (len = n) && (lenB raw n && (if lkd i = true then (match lkO raw i with
      | some (g, a) => decide (lfd (lto t).2 g a = some i) || (ini && decide (g = 1) && decide (lfd (lto t).2 11 a = some i)) || (decide (g = 4) && decide (lfd (lto t).2 14 a = some i))
      | none => false) else ldB pc i raw))
    | _ => false
def sgB (b : ByteArray) (t : Nat) (ini : Bool) (hh : List (Nat × Nat × Nat × Nat)) : Nat → List (Instr × Nat) → Bool
  | _, [] => true
  | pc, (i, n) :: is => (insB b t ini pc i n && catB hh pc i) && sgB b t ini hh (pc + n) is
def ini (k : Nat) : Bool := mG k == 2
/-- a segment of method k at pc -/
def Seg (k pc : Nat) (is : List (Instr × Nat)) : Prop := sgB (mB k) (mT k) (ini k) (mH k) pc is = true
/-- the locals at a method's beginning -/
def enl : Nat → List Value → LL
  | 0, _ => []
  | n + 1, [] => none :: enl n []
  | 1, v :: _ => [some v]
  | n + 2, v :: vs => if v.category = 2 then some v :: none :: enl n vs else some v :: enl (n + 1) vs
def Clo (C : Nat → List Value → AH → Nat → Nat → (Option (Option Value) → AH → Prop) → Prop) (k mc ms : Nat) (Q : Option (Option Value) → AH → Prop) (P : Nat → LL → List Value → AH → Nat → Nat → Prop) : Prop :=
  (∀ pc is, Seg k pc is → ∀ ls st h c z, blk C mc ms P (fun v h => rtok (mR k) v ∧ Q v h) is pc ls st h c z → P pc ls st h c z) ∧
  (∀ pc l l' st h c z, lsub l l' → P pc l st h c z → P pc l' st h c z) ∧
  ∀ pc l st h c z c' z', c ≤ c' → z ≤ z' → c' ≤ mc → z' ≤ ms → P pc l st h c' z' → P pc l st h c z
/-- method k, called with as on the heap h, at most d deep, making at most mc objects of ms places: it ends as R says -/
def Mt : Nat → Nat → List Value → AH → Nat → Nat → (Option (Option Value) → AH → Prop) → Prop
  | 0, _, _, _, _, _, _ => False
  | d + 1, k, as, h, mc, ms, R => (as.length = mN k ∧ k < 256 ∧ mtB k = true) ∧ ∀ P, Clo (Mt d) k mc ms R P → P 0 (enl (mL k) as) [] h 0 0
theorem mt_in {d k : Nat} {as : List Value} {h : AH} {mc ms n l' : Nat} {R : Option (Option Value) → AH → Prop} {l : LL} (hk : k < 256 ∧ mtB k = true) (hn : mN k = l') (ha : as.length = l') (hL : mL k = n) (hl : enl n as = l) (H : ∀ P, Clo (Mt d) k mc ms R P → P 0 l [] h 0 0) : Mt (d + 1) k as h mc ms R := by
  refine ⟨⟨ha.trans hn.symm, hk⟩, fun P hP => ?_⟩
  rw [hL, hl]
  exact H P hP
