noncomputable def ex_mb (mi : Nat → Option ex_I) (M : ex_M) (I : ex_I) (ws : Nat × Nat × Nat × Nat) : Bool :=
  plainName I.1.cls && ex_wd ws.1 (Cond.code I.1 I.2.1 M.2.1 I.2.2.1) && Nat.ble M.2.1 40 && ex_wd ws.2.1 (Cond.initialized I.1.cls) && decide (I.1.cls ≠ "java/lang/invoke/MethodHandle" ∧ I.1.cls ≠ "java/lang/invoke/VarHandle" ∧ (parseMethodDescriptor I.1.desc).map (fun d => d.parameters.length) = some I.2.2.2.2) && (match I.2.2.2.1 with
    | 0 => ex_wd ws.2.2.1 (Cond.instanceMethod I.1) && ex_wd ws.2.2.2 (Cond.selects I.1.cls I.1 I.1) && Nat.ble (I.2.2.2.2 + 1) M.2.1
    | 1 => ex_wd ws.2.2.1 (Cond.static I.1) && Nat.ble I.2.2.2.2 M.2.1
    | 2 => decide (I.1.name = "<init>") && ex_wd ws.2.2.1 (Cond.instanceMethod I.1) && decide (I.2.2.1 = none) && Nat.ble (I.2.2.2.2 + 1) M.2.1
    | _ => false) && (match M.1 with
    | q :: _ => Nat.beq q.1 0
    | [] => false)
noncomputable def ex_pb (mi : Nat → Option ex_I) (own nm : String) (cd : ByteArray) (z : Nat) (ret : Option FieldType) (pr : List ex_P) : Bool := ex_every (fun q => decide (decode cd q.1 = .ok (q.2.1, q.2.2.1)) && ex_qk mi own nm z ret q) pr
theorem ex_pb_ok {mi : Nat → Option ex_I} {own nm : String} {cd : ByteArray} {z : Nat} {ret : Option FieldType} {pr : List ex_P} (h : ex_pb mi own nm cd z ret pr = true) : ex_PO mi own nm cd z ret pr := fun q hq => by
  obtain ⟨h1, h2⟩ := ex_and (ex_every_ok h q hq)
  exact ⟨of_decide_eq_true h1, h2⟩
theorem ex_mb_ok {mi : Nat → Option ex_I} {M : ex_M} {I : ex_I} (ws : Nat × Nat × Nat × Nat) (h : ex_mb mi M I ws = true) (hp : ex_pb mi I.1.cls I.1.name I.2.1 M.2.2.1 I.2.2.1 M.1 = true) : ex_MO mi M I := by
  unfold ex_mb at h
  obtain ⟨h, h7⟩ := ex_and h
  obtain ⟨h, h6⟩ := ex_and h
  obtain ⟨h, h5⟩ := ex_and h
  obtain ⟨h, h4⟩ := ex_and h
  obtain ⟨h, h3⟩ := ex_and h
  obtain ⟨h1, h2⟩ := ex_and h
  have hd : ∃ q r, M.1 = q :: r ∧ q.1 = 0 := by
    split at h7
    · rename_i q r hq
      exact ⟨q, r, hq, ex_beq h7⟩
    · cases h7
  refine ⟨h1, ex_wd_ok h2, ex_ble h3, ex_wd_ok h4, of_decide_eq_true h5, ?_, ?_, hd, ex_pb_ok hp⟩
  · split at h6
    · rename_i hk
      obtain ⟨h6, h9⟩ := ex_and h6
      obtain ⟨h6, h8⟩ := ex_and h6
      exact ⟨fun _ => ⟨ex_wd_ok h6, ex_wd_ok h8⟩, (fun z => by omega), (fun z => by omega)⟩
    · rename_i hk
      obtain ⟨h6, h9⟩ := ex_and h6
      exact ⟨(fun z => by omega), fun _ => ex_wd_ok h6, (fun z => by omega)⟩
    · rename_i hk
      obtain ⟨h6, h9⟩ := ex_and h6
      obtain ⟨h6, h8⟩ := ex_and h6
      obtain ⟨h6, h0⟩ := ex_and h6
      exact ⟨(fun z => by omega), (fun z => by omega), fun _ => ⟨of_decide_eq_true h6, ex_wd_ok h0, of_decide_eq_true h8⟩⟩
    · cases h6
  · split at h6
    · obtain ⟨h6, h9⟩ := ex_and h6
      exact Or.inl (ex_ble h9)
    · rename_i hk
      obtain ⟨h6, h9⟩ := ex_and h6
      exact Or.inr ⟨hk, ex_ble h9⟩
    · obtain ⟨h6, h9⟩ := ex_and h6
      exact Or.inl (ex_ble h9)
    · cases h6

abbrev ex_wl : List (Nat × Nat × Nat × Nat) := [(435, 119, 434, 0), (526, 119, 524, 525), (963, 119, 961, 962), (1007, 119, 1005, 1006), (1015, 119, 1013, 1014), (967, 119, 966, 31), (350, 118, 349, 0), (172, 115, 171, 0), (195, 115, 193, 194), (199, 115, 197, 198), (826, 115, 824, 825), (160, 113, 159, 0), (600, 113, 598, 599), (344, 117, 343, 0), (512, 117, 510, 511), (530, 117, 528, 529), (931, 117, 929, 930), (1078, 117, 1076, 1077), (943, 117, 941, 942), (947, 117, 945, 946), (951, 117, 950, 28), (458, 120, 457, 0), (534, 120, 532, 533), (1181, 120, 1179, 1180), (1194, 120, 1192, 1193), (143, 112, 142, 0), (588, 112, 586, 587), (278, 116, 277, 0), (605, 116, 603, 604), (609, 116, 608, 2), (744, 116, 743, 7), (166, 114, 165, 0), (191, 114, 189, 190), (821, 114, 819, 820), (1066, 114, 1064, 1065), (135, 111, 134, 0), (584, 111, 582, 583), (592, 111, 590, 591), (596, 111, 594, 595), (831, 111, 829, 830), (508, 111, 507, 0), (835, 111, 833, 834), (847, 111, 845, 846), (855, 111, 853, 854), (885, 111, 883, 884), (898, 111, 896, 897), (906, 111, 904, 905), (910, 111, 908, 909), (914, 111, 912, 913), (919, 111, 917, 918), (923, 111, 921, 922), (927, 111, 925, 926), (851, 111, 850, 23), (859, 111, 858, 24), (839, 111, 838, 22), (902, 111, 901, 26), (1031, 111, 1030, 0), (1034, 111, 1033, 0), (935, 111, 933, 934), (971, 111, 969, 970), (939, 111, 938, 27), (975, 111, 973, 974), (987, 111, 985, 986), (995, 111, 993, 994), (999, 111, 997, 998), (1003, 111, 1001, 1002), (1011, 111, 1009, 1010), (1019, 111, 1017, 1018), (1024, 111, 1022, 1023), (1028, 111, 1026, 1027), (1038, 111, 1036, 1037), (1050, 111, 1049, 34), (1046, 111, 1044, 1045), (1054, 111, 1052, 1053), (1058, 111, 1056, 1057), (1062, 111, 1060, 1061), (1070, 111, 1068, 1069), (1074, 111, 1073, 35), (1082, 111, 1080, 1081), (1090, 111, 1088, 1089), (1094, 111, 1092, 1093), (1098, 111, 1096, 1097), (1102, 111, 1100, 1101), (1106, 111, 1105, 36), (1110, 111, 1108, 1109), (1122, 111, 1120, 1121), (1134, 111, 1132, 1133), (1138, 111, 1136, 1137), (1146, 111, 1144, 1145), (1150, 111, 1148, 1149), (1158, 111, 1156, 1157), (1162, 111, 1160, 1161), (1165, 111, 1164, 0), (1169, 111, 1167, 1168), (1177, 111, 1175, 1176), (1185, 111, 1183, 1184), (1190, 111, 1188, 1189), (1209, 111, 1207, 1208), (1213, 111, 1211, 1212), (1224, 123, 1223, 0), (1462, 123, 1461, 49), (1498, 123, 1497, 50), (1458, 123, 1457, 48), (1229, 123, 1228, 43), (1454, 123, 1452, 1453), (1604, 123, 1602, 1603), (1615, 123, 1614, 0), (1556, 123, 1555, 0), (1904, 123, 1903, 0), (1853, 123, 1852, 0), (1245, 123, 1244, 47), (1241, 123, 1240, 46), (1631, 123, 1630, 78), (1612, 123, 1611, 75), (1694, 123, 1693, 89), (1643, 123, 1642, 80), (1778, 123, 1777, 0), (1233, 123, 1232, 44), (1237, 123, 1236, 45), (1790, 123, 1789, 98), (1663, 123, 1662, 85), (1702, 123, 1701, 90), (1730, 123, 1729, 93), (1786, 123, 1785, 97), (1726, 123, 1725, 92), (1608, 123, 1606, 1607), (1627, 123, 1625, 1626), (1639, 123, 1637, 1638), (1679, 123, 1677, 1678), (1690, 123, 1688, 1689), (1698, 123, 1696, 1697), (1706, 123, 1704, 1705), (1710, 123, 1708, 1709), (1714, 123, 1712, 1713), (1722, 123, 1721, 91), (1718, 123, 1716, 1717), (1738, 123, 1736, 1737), (1743, 123, 1741, 1742), (1747, 123, 1745, 1746), (1751, 123, 1749, 1750), (1755, 123, 1753, 1754), (1759, 123, 1757, 1758), (1767, 123, 1765, 1766), (1771, 123, 1769, 1770), (1782, 123, 1781, 96), (1794, 123, 1793, 99), (1802, 123, 1801, 100), (1775, 123, 1773, 1774), (1798, 123, 1796, 1797), (1806, 123, 1804, 1805), (1814, 123, 1813, 101), (1810, 123, 1808, 1809), (1818, 123, 1816, 1817), (1822, 123, 1820, 1821), (1830, 123, 1828, 1829), (1834, 123, 1832, 1833), (1838, 123, 1836, 1837), (1842, 123, 1840, 1841), (1846, 123, 1844, 1845), (1857, 123, 1856, 103), (1850, 123, 1848, 1849), (1861, 123, 1859, 1860), (1869, 123, 1867, 1868), (1873, 123, 1871, 1872), (1877, 123, 1875, 1876), (1881, 123, 1879, 1880), (1885, 123, 1883, 1884), (1889, 123, 1887, 1888), (1901, 123, 1899, 1900), (1908, 123, 1906, 1907), (1912, 123, 1910, 1911), (1916, 123, 1914, 1915), (1921, 123, 1919, 1920), (1933, 123, 1931, 1932), (1938, 123, 1936, 1937), (1946, 123, 1944, 1945), (1950, 123, 1948, 1949), (1954, 123, 1952, 1953), (1958, 123, 1956, 1957), (1962, 123, 1960, 1961), (515, 121, 514, 0)]
noncomputable def ex_zb (mi : Nat → Option ex_I) (x : ex_M × ex_I × (Nat × Nat × Nat × Nat)) : Bool := ex_mb mi x.1 x.2.1 x.2.2 && ex_pb mi x.2.1.1.cls x.2.1.1.name x.2.1.2.1 x.1.2.2.1 x.2.1.2.2.1 x.1.1
noncomputable def ex_zl : List (ex_M × ex_I × (Nat × Nat × Nat × Nat)) := ex_ml.zip (ex_il.zip ex_wl)
set_option maxRecDepth 1000000 in
theorem ex_z0 : ex_every (ex_zb ex_mi) ((ex_zl.drop 0).take 8) = true := by decide +kernel
set_option maxRecDepth 1000000 in
theorem ex_z1 : ex_every (ex_zb ex_mi) ((ex_zl.drop 8).take 8) = true := by decide +kernel
set_option maxRecDepth 1000000 in
theorem ex_z2 : ex_every (ex_zb ex_mi) ((ex_zl.drop 16).take 8) = true := by decide +kernel
set_option maxRecDepth 1000000 in
theorem ex_z3 : ex_every (ex_zb ex_mi) ((ex_zl.drop 24).take 8) = true := by decide +kernel
set_option maxRecDepth 1000000 in
theorem ex_z4 : ex_every (ex_zb ex_mi) ((ex_zl.drop 32).take 8) = true := by decide +kernel
set_option maxRecDepth 1000000 in
theorem ex_z5 : ex_every (ex_zb ex_mi) ((ex_zl.drop 40).take 8) = true := by decide +kernel
set_option maxRecDepth 1000000 in
theorem ex_z6 : ex_every (ex_zb ex_mi) ((ex_zl.drop 48).take 8) = true := by decide +kernel
set_option maxRecDepth 1000000 in
theorem ex_z7 : ex_every (ex_zb ex_mi) ((ex_zl.drop 56).take 8) = true := by decide +kernel
set_option maxRecDepth 1000000 in
theorem ex_z8 : ex_every (ex_zb ex_mi) ((ex_zl.drop 64).take 8) = true := by decide +kernel
set_option maxRecDepth 1000000 in
theorem ex_z9 : ex_every (ex_zb ex_mi) ((ex_zl.drop 72).take 8) = true := by decide +kernel
set_option maxRecDepth 1000000 in
theorem ex_z10 : ex_every (ex_zb ex_mi) ((ex_zl.drop 80).take 8) = true := by decide +kernel
set_option maxRecDepth 1000000 in
theorem ex_z11 : ex_every (ex_zb ex_mi) ((ex_zl.drop 88).take 8) = true := by decide +kernel
set_option maxRecDepth 1000000 in
theorem ex_z12 : ex_every (ex_zb ex_mi) ((ex_zl.drop 96).take 8) = true := by decide +kernel
set_option maxRecDepth 1000000 in
theorem ex_z13 : ex_every (ex_zb ex_mi) ((ex_zl.drop 104).take 8) = true := by decide +kernel
set_option maxRecDepth 1000000 in
theorem ex_z14 : ex_every (ex_zb ex_mi) ((ex_zl.drop 112).take 8) = true := by decide +kernel
set_option maxRecDepth 1000000 in
theorem ex_z15 : ex_every (ex_zb ex_mi) ((ex_zl.drop 120).take 8) = true := by decide +kernel
set_option maxRecDepth 1000000 in
theorem ex_z16 : ex_every (ex_zb ex_mi) ((ex_zl.drop 128).take 8) = true := by decide +kernel
set_option maxRecDepth 1000000 in
theorem ex_z17 : ex_every (ex_zb ex_mi) ((ex_zl.drop 136).take 8) = true := by decide +kernel
set_option maxRecDepth 1000000 in
theorem ex_z18 : ex_every (ex_zb ex_mi) ((ex_zl.drop 144).take 8) = true := by decide +kernel
set_option maxRecDepth 1000000 in
theorem ex_z19 : ex_every (ex_zb ex_mi) ((ex_zl.drop 152).take 8) = true := by decide +kernel
set_option maxRecDepth 1000000 in
theorem ex_z20 : ex_every (ex_zb ex_mi) ((ex_zl.drop 160).take 8) = true := by decide +kernel
set_option maxRecDepth 1000000 in
theorem ex_z21 : ex_every (ex_zb ex_mi) ((ex_zl.drop 168).take 8) = true := by decide +kernel
set_option maxRecDepth 1000000 in
theorem ex_z22 : ex_every (ex_zb ex_mi) ((ex_zl.drop 176).take 8) = true := by decide +kernel
theorem ex_zall : ∀ (i : Nat) (x : ex_M × ex_I × (Nat × Nat × Nat × Nat)), ex_zl[i]? = some x → ex_zb ex_mi x = true := by
  intro i x hx
  have hlt : i < 181 := by
    have h1 := (List.getElem?_eq_some_iff.mp hx).1
    have h2 : ex_zl.length = 181 := by decide +kernel
    omega
  have key : ∀ a : Nat, a ≤ i → i < a + 8 → ex_every (ex_zb ex_mi) ((ex_zl.drop a).take 8) = true → ex_zb ex_mi x = true := fun a h1 h2 h3 => ex_every_ok h3 x (List.mem_of_getElem? (i := i - a) (by rw [List.getElem?_take_of_lt (by omega), List.getElem?_drop, show a + (i - a) = i by omega]; exact hx))
  rcases (show i / 8 = 0 ∨ i / 8 = 1 ∨ i / 8 = 2 ∨ i / 8 = 3 ∨ i / 8 = 4 ∨ i / 8 = 5 ∨ i / 8 = 6 ∨ i / 8 = 7 ∨ i / 8 = 8 ∨ i / 8 = 9 ∨ i / 8 = 10 ∨ i / 8 = 11 ∨ i / 8 = 12 ∨ i / 8 = 13 ∨ i / 8 = 14 ∨ i / 8 = 15 ∨ i / 8 = 16 ∨ i / 8 = 17 ∨ i / 8 = 18 ∨ i / 8 = 19 ∨ i / 8 = 20 ∨ i / 8 = 21 ∨ i / 8 = 22 by omega) with h | h | h | h | h | h | h | h | h | h | h | h | h | h | h | h | h | h | h | h | h | h | h
  · exact key 0 (by omega) (by omega) ex_z0
  · exact key 8 (by omega) (by omega) ex_z1
  · exact key 16 (by omega) (by omega) ex_z2
  · exact key 24 (by omega) (by omega) ex_z3
  · exact key 32 (by omega) (by omega) ex_z4
  · exact key 40 (by omega) (by omega) ex_z5
  · exact key 48 (by omega) (by omega) ex_z6
  · exact key 56 (by omega) (by omega) ex_z7
  · exact key 64 (by omega) (by omega) ex_z8
  · exact key 72 (by omega) (by omega) ex_z9
  · exact key 80 (by omega) (by omega) ex_z10
  · exact key 88 (by omega) (by omega) ex_z11
  · exact key 96 (by omega) (by omega) ex_z12
  · exact key 104 (by omega) (by omega) ex_z13
  · exact key 112 (by omega) (by omega) ex_z14
  · exact key 120 (by omega) (by omega) ex_z15
  · exact key 128 (by omega) (by omega) ex_z16
  · exact key 136 (by omega) (by omega) ex_z17
  · exact key 144 (by omega) (by omega) ex_z18
  · exact key 152 (by omega) (by omega) ex_z19
  · exact key 160 (by omega) (by omega) ex_z20
  · exact key 168 (by omega) (by omega) ex_z21
  · exact key 176 (by omega) (by omega) ex_z22
