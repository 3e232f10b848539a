set_option maxRecDepth 1000000 in
theorem ty_f_X10_isSignHere : ty_MO ty_mi ty_m_X10_isSignHere ty_i_X10_isSignHere := ty_mo (1580, 123, 1579, 69) (by decide +kernel)
set_option maxRecDepth 1000000 in
theorem ty_f_X10_isWord : ty_MO ty_mi ty_m_X10_isWord ty_i_X10_isWord := ty_mo (1510, 123, 1509, 53) (by decide +kernel)
set_option maxRecDepth 1000000 in
theorem ty_f_X10_misplaced : ty_MO ty_mi ty_m_X10_misplaced ty_i_X10_misplaced := ty_mo (1517, 123, 1516, 54) (by decide +kernel)
set_option maxRecDepth 1000000 in
theorem ty_f_X10_must : ty_MO ty_mi ty_m_X10_must ty_i_X10_must := ty_mo (1549, 123, 1548, 62) (by decide +kernel)
set_option maxRecDepth 1000000 in
theorem ty_f_X10_numeral : ty_MO ty_mi ty_m_X10_numeral ty_i_X10_numeral := ty_mo (1525, 123, 1524, 56) (by decide +kernel)
set_option maxRecDepth 1000000 in
theorem ty_f_X10_after : ty_MO ty_mi ty_m_X10_after ty_i_X10_after := ty_mo (1545, 123, 1544, 61) (by decide +kernel)
set_option maxRecDepth 1000000 in
theorem ty_f_X10_clearBank : ty_MO ty_mi ty_m_X10_clearBank ty_i_X10_clearBank := ty_mo (1229, 123, 1228, 43) (by decide +kernel)
set_option maxRecDepth 1000000 in
theorem ty_f_X10_crossing : ty_MO ty_mi ty_m_X10_crossing ty_i_X10_crossing := ty_mo (1454, 123, 1452, 1453) (by decide +kernel)
set_option maxRecDepth 1000000 in
theorem ty_f_X10_isFull : ty_MO ty_mi ty_m_X10_isFull ty_i_X10_isFull := ty_mo (1506, 123, 1505, 52) (by decide +kernel)
set_option maxRecDepth 1000000 in
theorem ty_f_X10_once : ty_MO ty_mi ty_m_X10_once ty_i_X10_once := ty_mo (1560, 123, 1559, 64) (by decide +kernel)
set_option maxRecDepth 1000000 in
theorem ty_f_X10_readLine : ty_MO ty_mi ty_m_X10_readLine ty_i_X10_readLine := ty_mo (1502, 123, 1501, 51) (by decide +kernel)
set_option maxRecDepth 1000000 in
theorem ty_f_X10_here : ty_MO ty_mi ty_m_X10_here ty_i_X10_here := ty_mo (1537, 123, 1536, 59) (by decide +kernel)
set_option maxRecDepth 1000000 in
theorem ty_f_X10_wordNamed : ty_MO ty_mi ty_m_X10_wordNamed ty_i_X10_wordNamed := ty_mo (1533, 123, 1532, 58) (by decide +kernel)
set_option maxRecDepth 1000000 in
theorem ty_f_X10_fresh : ty_MO ty_mi ty_m_X10_fresh ty_i_X10_fresh := ty_mo (1541, 123, 1540, 60) (by decide +kernel)
set_option maxRecDepth 1000000 in
theorem ty_f_X10_readWord : ty_MO ty_mi ty_m_X10_readWord ty_i_X10_readWord := ty_mo (1529, 123, 1528, 57) (by decide +kernel)
set_option maxRecDepth 1000000 in
theorem ty_f_X10_readComer : ty_MO ty_mi ty_m_X10_readComer ty_i_X10_readComer := ty_mo (1553, 123, 1552, 63) (by decide +kernel)
set_option maxRecDepth 1000000 in
theorem ty_f_X10_readRule : ty_MO ty_mi ty_m_X10_readRule ty_i_X10_readRule := ty_mo (1564, 123, 1563, 65) (by decide +kernel)
set_option maxRecDepth 1000000 in
theorem ty_f_X10_emit : ty_MO ty_mi ty_m_X10_emit ty_i_X10_emit := ty_mo (1588, 123, 1587, 71) (by decide +kernel)
set_option maxRecDepth 1000000 in
theorem ty_f_X10_pushE : ty_MO ty_mi ty_m_X10_pushE ty_i_X10_pushE := ty_mo (1572, 123, 1571, 67) (by decide +kernel)
set_option maxRecDepth 1000000 in
theorem ty_f_X10_e : ty_MO ty_mi ty_m_X10_e ty_i_X10_e := ty_mo (1568, 123, 1567, 66) (by decide +kernel)
set_option maxRecDepth 1000000 in
theorem ty_f_X10_wordHere : ty_MO ty_mi ty_m_X10_wordHere ty_i_X10_wordHere := ty_mo (1584, 123, 1583, 70) (by decide +kernel)
set_option maxRecDepth 1000000 in
theorem ty_f_X10_unit : ty_MO ty_mi ty_m_X10_unit ty_i_X10_unit := ty_mo (1576, 123, 1575, 68) (by decide +kernel)
set_option maxRecDepth 1000000 in
theorem ty_f_X10_rankHere : ty_MO ty_mi ty_m_X10_rankHere ty_i_X10_rankHere := ty_mo (1596, 123, 1595, 73) (by decide +kernel)
set_option maxRecDepth 1000000 in
theorem ty_f_X10_isCompared : ty_MO ty_mi ty_m_X10_isCompared ty_i_X10_isCompared := ty_mo (1600, 123, 1599, 74) (by decide +kernel)
set_option maxRecDepth 1000000 in
theorem ty_f_X10_behindUnit : ty_MO ty_mi ty_m_X10_behindUnit ty_i_X10_behindUnit := ty_mo (1592, 123, 1591, 72) (by decide +kernel)
set_option maxRecDepth 1000000 in
theorem ty_f_X10_two : ty_MO ty_mi ty_m_X10_two ty_i_X10_two := ty_mo (1674, 123, 1673, 0) (by decide +kernel)
set_option maxRecDepth 1000000 in
theorem ty_f_X10_asked : ty_MO ty_mi ty_m_X10_asked ty_i_X10_asked := ty_mo (1671, 123, 1670, 87) (by decide +kernel)
set_option maxRecDepth 1000000 in
theorem ty_f_X10_comes : ty_MO ty_mi ty_m_X10_comes ty_i_X10_comes := ty_mo (1667, 123, 1666, 86) (by decide +kernel)
set_option maxRecDepth 1000000 in
theorem ty_f_X10_fault : ty_MO ty_mi ty_m_X10_fault ty_i_X10_fault := ty_mo (1604, 123, 1602, 1603) (by decide +kernel)
set_option maxRecDepth 1000000 in
theorem ty_f_X10_isIn : ty_MO ty_mi ty_m_X10_isIn ty_i_X10_isIn := ty_mo (1615, 123, 1614, 0) (by decide +kernel)
set_option maxRecDepth 1000000 in
theorem ty_f_X10_held : ty_MO ty_mi ty_m_X10_held ty_i_X10_held := ty_mo (1686, 123, 1685, 0) (by decide +kernel)
set_option maxRecDepth 1000000 in
theorem ty_f_X10_bit : ty_MO ty_mi ty_m_X10_bit ty_i_X10_bit := ty_mo (1513, 123, 1512, 0) (by decide +kernel)
set_option maxRecDepth 1000000 in
theorem ty_f_X10_bitsOf : ty_MO ty_mi ty_m_X10_bitsOf ty_i_X10_bitsOf := ty_mo (1556, 123, 1555, 0) (by decide +kernel)
set_option maxRecDepth 1000000 in
theorem ty_f_X10_divisor : ty_MO ty_mi ty_m_X10_divisor ty_i_X10_divisor := ty_mo (1904, 123, 1903, 0) (by decide +kernel)
set_option maxRecDepth 1000000 in
theorem ty_f_X10_power : ty_MO ty_mi ty_m_X10_power ty_i_X10_power := ty_mo (1853, 123, 1852, 0) (by decide +kernel)
set_option maxRecDepth 1000000 in
theorem ty_f_X10_many : ty_MO ty_mi ty_m_X10_many ty_i_X10_many := ty_mo (1245, 123, 1244, 47) (by decide +kernel)
set_option maxRecDepth 1000000 in
theorem ty_f_X10_kinds : ty_MO ty_mi ty_m_X10_kinds ty_i_X10_kinds := ty_mo (1241, 123, 1240, 46) (by decide +kernel)
set_option maxRecDepth 1000000 in
theorem ty_f_X10_isComer : ty_MO ty_mi ty_m_X10_isComer ty_i_X10_isComer := ty_mo (1631, 123, 1630, 78) (by decide +kernel)
set_option maxRecDepth 1000000 in
theorem ty_f_X10_isWordNumber : ty_MO ty_mi ty_m_X10_isWordNumber ty_i_X10_isWordNumber := ty_mo (1612, 123, 1611, 75) (by decide +kernel)
set_option maxRecDepth 1000000 in
theorem ty_f_X10_isRoad : ty_MO ty_mi ty_m_X10_isRoad ty_i_X10_isRoad := ty_mo (1694, 123, 1693, 89) (by decide +kernel)
set_option maxRecDepth 1000000 in
theorem ty_f_X10_isBy : ty_MO ty_mi ty_m_X10_isBy ty_i_X10_isBy := ty_mo (1623, 123, 1622, 77) (by decide +kernel)
set_option maxRecDepth 1000000 in
theorem ty_f_X10_isThere : ty_MO ty_mi ty_m_X10_isThere ty_i_X10_isThere := ty_mo (1643, 123, 1642, 80) (by decide +kernel)
set_option maxRecDepth 1000000 in
theorem ty_f_X10_isAhead : ty_MO ty_mi ty_m_X10_isAhead ty_i_X10_isAhead := ty_mo (1778, 123, 1777, 0) (by decide +kernel)
set_option maxRecDepth 1000000 in
theorem ty_f_X10_startAnew : ty_MO ty_mi ty_m_X10_startAnew ty_i_X10_startAnew := ty_mo (1233, 123, 1232, 44) (by decide +kernel)
set_option maxRecDepth 1000000 in
theorem ty_f_X10_layTold : ty_MO ty_mi ty_m_X10_layTold ty_i_X10_layTold := ty_mo (1237, 123, 1236, 45) (by decide +kernel)
