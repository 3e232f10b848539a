set_option maxRecDepth 1000000 in
theorem ty_f_X10_thoseBy : ty_MO ty_mi ty_m_X10_thoseBy ty_i_X10_thoseBy := ty_mo (1790, 123, 1789, 98) (by decide +kernel)
set_option maxRecDepth 1000000 in
theorem ty_f_X10_rowOf : ty_MO ty_mi ty_m_X10_rowOf ty_i_X10_rowOf := ty_mo (1663, 123, 1662, 85) (by decide +kernel)
set_option maxRecDepth 1000000 in
theorem ty_f_X10_placeOf : ty_MO ty_mi ty_m_X10_placeOf ty_i_X10_placeOf := ty_mo (1635, 123, 1634, 79) (by decide +kernel)
set_option maxRecDepth 1000000 in
theorem ty_f_X10_firstOf : ty_MO ty_mi ty_m_X10_firstOf ty_i_X10_firstOf := ty_mo (1702, 123, 1701, 90) (by decide +kernel)
set_option maxRecDepth 1000000 in
theorem ty_f_X10_goBehind : ty_MO ty_mi ty_m_X10_goBehind ty_i_X10_goBehind := ty_mo (1734, 123, 1733, 94) (by decide +kernel)
set_option maxRecDepth 1000000 in
theorem ty_f_X10_movedBy : ty_MO ty_mi ty_m_X10_movedBy ty_i_X10_movedBy := ty_mo (1659, 123, 1658, 84) (by decide +kernel)
set_option maxRecDepth 1000000 in
theorem ty_f_X10_layAsked : ty_MO ty_mi ty_m_X10_layAsked ty_i_X10_layAsked := ty_mo (1655, 123, 1654, 83) (by decide +kernel)
set_option maxRecDepth 1000000 in
theorem ty_f_X10_worthBy : ty_MO ty_mi ty_m_X10_worthBy ty_i_X10_worthBy := ty_mo (1651, 123, 1650, 82) (by decide +kernel)
set_option maxRecDepth 1000000 in
theorem ty_f_X10_worthOf : ty_MO ty_mi ty_m_X10_worthOf ty_i_X10_worthOf := ty_mo (1647, 123, 1646, 81) (by decide +kernel)
set_option maxRecDepth 1000000 in
theorem ty_f_X10_keptBy : ty_MO ty_mi ty_m_X10_keptBy ty_i_X10_keptBy := ty_mo (1683, 123, 1682, 88) (by decide +kernel)
set_option maxRecDepth 1000000 in
theorem ty_f_X10_goHatch : ty_MO ty_mi ty_m_X10_goHatch ty_i_X10_goHatch := ty_mo (1730, 123, 1729, 93) (by decide +kernel)
set_option maxRecDepth 1000000 in
theorem ty_f_X10_goOnce : ty_MO ty_mi ty_m_X10_goOnce ty_i_X10_goOnce := ty_mo (1786, 123, 1785, 97) (by decide +kernel)
set_option maxRecDepth 1000000 in
theorem ty_f_X10_goInEarnest : ty_MO ty_mi ty_m_X10_goInEarnest ty_i_X10_goInEarnest := ty_mo (1726, 123, 1725, 92) (by decide +kernel)
set_option maxRecDepth 1000000 in
theorem ty_f_X10_sayers : ty_MO ty_mi ty_m_X10_sayers ty_i_X10_sayers := ty_mo (1619, 123, 1618, 76) (by decide +kernel)
set_option maxRecDepth 1000000 in
theorem ty_f_X10_word : ty_MO ty_mi ty_m_X10_word ty_i_X10_word := ty_mo (1608, 123, 1606, 1607) (by decide +kernel)
set_option maxRecDepth 1000000 in
theorem ty_f_X10_comer : ty_MO ty_mi ty_m_X10_comer ty_i_X10_comer := ty_mo (1627, 123, 1625, 1626) (by decide +kernel)
set_option maxRecDepth 1000000 in
theorem ty_f_X10_worth : ty_MO ty_mi ty_m_X10_worth ty_i_X10_worth := ty_mo (1639, 123, 1637, 1638) (by decide +kernel)
set_option maxRecDepth 1000000 in
theorem ty_f_X10_keeps : ty_MO ty_mi ty_m_X10_keeps ty_i_X10_keeps := ty_mo (1679, 123, 1677, 1678) (by decide +kernel)
set_option maxRecDepth 1000000 in
theorem ty_f_X10_row : ty_MO ty_mi ty_m_X10_row ty_i_X10_row := ty_mo (1690, 123, 1688, 1689) (by decide +kernel)
set_option maxRecDepth 1000000 in
theorem ty_f_X10_ready : ty_MO ty_mi ty_m_X10_ready ty_i_X10_ready := ty_mo (1698, 123, 1696, 1697) (by decide +kernel)
set_option maxRecDepth 1000000 in
theorem ty_f_X10_oldest : ty_MO ty_mi ty_m_X10_oldest ty_i_X10_oldest := ty_mo (1706, 123, 1704, 1705) (by decide +kernel)
set_option maxRecDepth 1000000 in
theorem ty_f_X10_fashion : ty_MO ty_mi ty_m_X10_fashion ty_i_X10_fashion := ty_mo (1710, 123, 1708, 1709) (by decide +kernel)
set_option maxRecDepth 1000000 in
theorem ty_f_X10_lull : ty_MO ty_mi ty_m_X10_lull ty_i_X10_lull := ty_mo (1714, 123, 1712, 1713) (by decide +kernel)
set_option maxRecDepth 1000000 in
theorem ty_f_X10_keepAct : ty_MO ty_mi ty_m_X10_keepAct ty_i_X10_keepAct := ty_mo (1722, 123, 1721, 91) (by decide +kernel)
set_option maxRecDepth 1000000 in
theorem ty_f_X10_swapAll : ty_MO ty_mi ty_m_X10_swapAll ty_i_X10_swapAll := ty_mo (1763, 123, 1762, 95) (by decide +kernel)
set_option maxRecDepth 1000000 in
theorem ty_f_X10_open : ty_MO ty_mi ty_m_X10_open ty_i_X10_open := ty_mo (1718, 123, 1716, 1717) (by decide +kernel)
set_option maxRecDepth 1000000 in
theorem ty_f_X10_hatch : ty_MO ty_mi ty_m_X10_hatch ty_i_X10_hatch := ty_mo (1738, 123, 1736, 1737) (by decide +kernel)
set_option maxRecDepth 1000000 in
theorem ty_f_X10_rehearse : ty_MO ty_mi ty_m_X10_rehearse ty_i_X10_rehearse := ty_mo (1743, 123, 1741, 1742) (by decide +kernel)
set_option maxRecDepth 1000000 in
theorem ty_f_X10_turn : ty_MO ty_mi ty_m_X10_turn ty_i_X10_turn := ty_mo (1747, 123, 1745, 1746) (by decide +kernel)
set_option maxRecDepth 1000000 in
theorem ty_f_X10_revive : ty_MO ty_mi ty_m_X10_revive ty_i_X10_revive := ty_mo (1751, 123, 1749, 1750) (by decide +kernel)
set_option maxRecDepth 1000000 in
theorem ty_f_X10_humour : ty_MO ty_mi ty_m_X10_humour ty_i_X10_humour := ty_mo (1755, 123, 1753, 1754) (by decide +kernel)
set_option maxRecDepth 1000000 in
theorem ty_f_X10_undo : ty_MO ty_mi ty_m_X10_undo ty_i_X10_undo := ty_mo (1759, 123, 1757, 1758) (by decide +kernel)
set_option maxRecDepth 1000000 in
theorem ty_f_X10_redo : ty_MO ty_mi ty_m_X10_redo ty_i_X10_redo := ty_mo (1767, 123, 1765, 1766) (by decide +kernel)
set_option maxRecDepth 1000000 in
theorem ty_f_X10_lies : ty_MO ty_mi ty_m_X10_lies ty_i_X10_lies := ty_mo (1771, 123, 1769, 1770) (by decide +kernel)
set_option maxRecDepth 1000000 in
theorem ty_f_X10_keepNow : ty_MO ty_mi ty_m_X10_keepNow ty_i_X10_keepNow := ty_mo (1782, 123, 1781, 96) (by decide +kernel)
set_option maxRecDepth 1000000 in
theorem ty_f_X10_bringBack : ty_MO ty_mi ty_m_X10_bringBack ty_i_X10_bringBack := ty_mo (1794, 123, 1793, 99) (by decide +kernel)
set_option maxRecDepth 1000000 in
theorem ty_f_X10_goHatches : ty_MO ty_mi ty_m_X10_goHatches ty_i_X10_goHatches := ty_mo (1802, 123, 1801, 100) (by decide +kernel)
set_option maxRecDepth 1000000 in
theorem ty_f_X10_will : ty_MO ty_mi ty_m_X10_will ty_i_X10_will := ty_mo (1775, 123, 1773, 1774) (by decide +kernel)
set_option maxRecDepth 1000000 in
theorem ty_f_X10_clock : ty_MO ty_mi ty_m_X10_clock ty_i_X10_clock := ty_mo (1798, 123, 1796, 1797) (by decide +kernel)
set_option maxRecDepth 1000000 in
theorem ty_f_X10_temper : ty_MO ty_mi ty_m_X10_temper ty_i_X10_temper := ty_mo (1806, 123, 1804, 1805) (by decide +kernel)
set_option maxRecDepth 1000000 in
theorem ty_f_X10_pressIn : ty_MO ty_mi ty_m_X10_pressIn ty_i_X10_pressIn := ty_mo (1814, 123, 1813, 101) (by decide +kernel)
set_option maxRecDepth 1000000 in
theorem ty_f_X10_press : ty_MO ty_mi ty_m_X10_press ty_i_X10_press := ty_mo (1810, 123, 1808, 1809) (by decide +kernel)
set_option maxRecDepth 1000000 in
theorem ty_f_X10_echoes : ty_MO ty_mi ty_m_X10_echoes ty_i_X10_echoes := ty_mo (1818, 123, 1816, 1817) (by decide +kernel)
set_option maxRecDepth 1000000 in
theorem ty_f_X10_byBehind : ty_MO ty_mi ty_m_X10_byBehind ty_i_X10_byBehind := ty_mo (1826, 123, 1825, 102) (by decide +kernel)
set_option maxRecDepth 1000000 in
theorem ty_f_X10_when : ty_MO ty_mi ty_m_X10_when ty_i_X10_when := ty_mo (1822, 123, 1820, 1821) (by decide +kernel)
set_option maxRecDepth 1000000 in
theorem ty_f_X10_spends : ty_MO ty_mi ty_m_X10_spends ty_i_X10_spends := ty_mo (1830, 123, 1828, 1829) (by decide +kernel)
set_option maxRecDepth 1000000 in
theorem ty_f_X10_jam : ty_MO ty_mi ty_m_X10_jam ty_i_X10_jam := ty_mo (1834, 123, 1832, 1833) (by decide +kernel)
set_option maxRecDepth 1000000 in
theorem ty_f_X10_clears : ty_MO ty_mi ty_m_X10_clears ty_i_X10_clears := ty_mo (1838, 123, 1836, 1837) (by decide +kernel)
set_option maxRecDepth 1000000 in
theorem ty_f_X10_best : ty_MO ty_mi ty_m_X10_best ty_i_X10_best := ty_mo (1842, 123, 1840, 1841) (by decide +kernel)
set_option maxRecDepth 1000000 in
theorem ty_f_X10_reorder : ty_MO ty_mi ty_m_X10_reorder ty_i_X10_reorder := ty_mo (1846, 123, 1844, 1845) (by decide +kernel)
