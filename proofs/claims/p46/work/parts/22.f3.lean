set_option maxRecDepth 1000000 in
theorem ty_f_X9_back : ty_MO ty_mi ty_m_X9_back ty_i_X9_back := ty_mo (1024, 111, 1022, 1023) (by decide +kernel)
set_option maxRecDepth 1000000 in
theorem ty_f_X9_will : ty_MO ty_mi ty_m_X9_will ty_i_X9_will := ty_mo (1028, 111, 1026, 1027) (by decide +kernel)
set_option maxRecDepth 1000000 in
theorem ty_f_X9_when : ty_MO ty_mi ty_m_X9_when ty_i_X9_when := ty_mo (1038, 111, 1036, 1037) (by decide +kernel)
set_option maxRecDepth 1000000 in
theorem ty_f_X9_hatchesTill : ty_MO ty_mi ty_m_X9_hatchesTill ty_i_X9_hatchesTill := ty_mo (1042, 111, 1041, 33) (by decide +kernel)
set_option maxRecDepth 1000000 in
theorem ty_f_X9_lookAhead : ty_MO ty_mi ty_m_X9_lookAhead ty_i_X9_lookAhead := ty_mo (1050, 111, 1049, 34) (by decide +kernel)
set_option maxRecDepth 1000000 in
theorem ty_f_X9_clock : ty_MO ty_mi ty_m_X9_clock ty_i_X9_clock := ty_mo (1046, 111, 1044, 1045) (by decide +kernel)
set_option maxRecDepth 1000000 in
theorem ty_f_X9_temper : ty_MO ty_mi ty_m_X9_temper ty_i_X9_temper := ty_mo (1054, 111, 1052, 1053) (by decide +kernel)
set_option maxRecDepth 1000000 in
theorem ty_f_X9_clears : ty_MO ty_mi ty_m_X9_clears ty_i_X9_clears := ty_mo (1058, 111, 1056, 1057) (by decide +kernel)
set_option maxRecDepth 1000000 in
theorem ty_f_X9_jam : ty_MO ty_mi ty_m_X9_jam ty_i_X9_jam := ty_mo (1062, 111, 1060, 1061) (by decide +kernel)
set_option maxRecDepth 1000000 in
theorem ty_f_X9_press : ty_MO ty_mi ty_m_X9_press ty_i_X9_press := ty_mo (1070, 111, 1068, 1069) (by decide +kernel)
set_option maxRecDepth 1000000 in
theorem ty_f_X9_pressOfTrial : ty_MO ty_mi ty_m_X9_pressOfTrial ty_i_X9_pressOfTrial := ty_mo (1074, 111, 1073, 35) (by decide +kernel)
set_option maxRecDepth 1000000 in
theorem ty_f_X9_reorder : ty_MO ty_mi ty_m_X9_reorder ty_i_X9_reorder := ty_mo (1082, 111, 1080, 1081) (by decide +kernel)
set_option maxRecDepth 1000000 in
theorem ty_f_X9_spends : ty_MO ty_mi ty_m_X9_spends ty_i_X9_spends := ty_mo (1090, 111, 1088, 1089) (by decide +kernel)
set_option maxRecDepth 1000000 in
theorem ty_f_X9_echoes : ty_MO ty_mi ty_m_X9_echoes ty_i_X9_echoes := ty_mo (1094, 111, 1092, 1093) (by decide +kernel)
set_option maxRecDepth 1000000 in
theorem ty_f_X9_best : ty_MO ty_mi ty_m_X9_best ty_i_X9_best := ty_mo (1098, 111, 1096, 1097) (by decide +kernel)
set_option maxRecDepth 1000000 in
theorem ty_f_X9_soonest : ty_MO ty_mi ty_m_X9_soonest ty_i_X9_soonest := ty_mo (1102, 111, 1100, 1101) (by decide +kernel)
set_option maxRecDepth 1000000 in
theorem ty_f_X9_allByWithin : ty_MO ty_mi ty_m_X9_allByWithin ty_i_X9_allByWithin := ty_mo (1106, 111, 1105, 36) (by decide +kernel)
set_option maxRecDepth 1000000 in
theorem ty_f_X9_rivals : ty_MO ty_mi ty_m_X9_rivals ty_i_X9_rivals := ty_mo (1110, 111, 1108, 1109) (by decide +kernel)
set_option maxRecDepth 1000000 in
theorem ty_f_X9_tryRivals : ty_MO ty_mi ty_m_X9_tryRivals ty_i_X9_tryRivals := ty_mo (1114, 111, 1113, 37) (by decide +kernel)
set_option maxRecDepth 1000000 in
theorem ty_f_X9_isRest : ty_MO ty_mi ty_m_X9_isRest ty_i_X9_isRest := ty_mo (1118, 111, 1117, 38) (by decide +kernel)
set_option maxRecDepth 1000000 in
theorem ty_f_X9_shortest : ty_MO ty_mi ty_m_X9_shortest ty_i_X9_shortest := ty_mo (1122, 111, 1120, 1121) (by decide +kernel)
set_option maxRecDepth 1000000 in
theorem ty_f_X9_honest : ty_MO ty_mi ty_m_X9_honest ty_i_X9_honest := ty_mo (1134, 111, 1132, 1133) (by decide +kernel)
set_option maxRecDepth 1000000 in
theorem ty_f_X9_fewestWords : ty_MO ty_mi ty_m_X9_fewestWords ty_i_X9_fewestWords := ty_mo (1126, 111, 1125, 39) (by decide +kernel)
set_option maxRecDepth 1000000 in
theorem ty_f_X9_spark : ty_MO ty_mi ty_m_X9_spark ty_i_X9_spark := ty_mo (1138, 111, 1136, 1137) (by decide +kernel)
set_option maxRecDepth 1000000 in
theorem ty_f_X9_drop : ty_MO ty_mi ty_m_X9_drop ty_i_X9_drop := ty_mo (1146, 111, 1144, 1145) (by decide +kernel)
set_option maxRecDepth 1000000 in
theorem ty_f_X9_mostWorth : ty_MO ty_mi ty_m_X9_mostWorth ty_i_X9_mostWorth := ty_mo (1142, 111, 1141, 40) (by decide +kernel)
set_option maxRecDepth 1000000 in
theorem ty_f_X9_coax : ty_MO ty_mi ty_m_X9_coax ty_i_X9_coax := ty_mo (1150, 111, 1148, 1149) (by decide +kernel)
set_option maxRecDepth 1000000 in
theorem ty_f_X9_law : ty_MO ty_mi ty_m_X9_law ty_i_X9_law := ty_mo (1158, 111, 1156, 1157) (by decide +kernel)
set_option maxRecDepth 1000000 in
theorem ty_f_X9_odds : ty_MO ty_mi ty_m_X9_odds ty_i_X9_odds := ty_mo (1162, 111, 1160, 1161) (by decide +kernel)
set_option maxRecDepth 1000000 in
theorem ty_f_X9_commonDivisor : ty_MO ty_mi ty_m_X9_commonDivisor ty_i_X9_commonDivisor := ty_mo (1165, 111, 1164, 0) (by decide +kernel)
set_option maxRecDepth 1000000 in
theorem ty_f_X9_seen : ty_MO ty_mi ty_m_X9_seen ty_i_X9_seen := ty_mo (1169, 111, 1167, 1168) (by decide +kernel)
set_option maxRecDepth 1000000 in
theorem ty_f_X9_untell : ty_MO ty_mi ty_m_X9_untell ty_i_X9_untell := ty_mo (1177, 111, 1175, 1176) (by decide +kernel)
set_option maxRecDepth 1000000 in
theorem ty_f_X9_later : ty_MO ty_mi ty_m_X9_later ty_i_X9_later := ty_mo (1185, 111, 1183, 1184) (by decide +kernel)
set_option maxRecDepth 1000000 in
theorem ty_f_X9_fits : ty_MO ty_mi ty_m_X9_fits ty_i_X9_fits := ty_mo (1190, 111, 1188, 1189) (by decide +kernel)
set_option maxRecDepth 1000000 in
theorem ty_f_X9_sure : ty_MO ty_mi ty_m_X9_sure ty_i_X9_sure := ty_mo (1209, 111, 1207, 1208) (by decide +kernel)
set_option maxRecDepth 1000000 in
theorem ty_f_X9_ask : ty_MO ty_mi ty_m_X9_ask ty_i_X9_ask := ty_mo (1213, 111, 1211, 1212) (by decide +kernel)
set_option maxRecDepth 1000000 in
theorem ty_f_X10_sign : ty_MO ty_mi ty_m_X10_sign ty_i_X10_sign := ty_mo (1462, 123, 1461, 49) (by decide +kernel)
set_option maxRecDepth 1000000 in
theorem ty_f_X10_isLetter : ty_MO ty_mi ty_m_X10_isLetter ty_i_X10_isLetter := ty_mo (1465, 123, 1464, 0) (by decide +kernel)
set_option maxRecDepth 1000000 in
theorem ty_f_X10_isDigit : ty_MO ty_mi ty_m_X10_isDigit ty_i_X10_isDigit := ty_mo (1491, 123, 1490, 0) (by decide +kernel)
set_option maxRecDepth 1000000 in
theorem ty_f_X10_fails : ty_MO ty_mi ty_m_X10_fails ty_i_X10_fails := ty_mo (1521, 123, 1520, 55) (by decide +kernel)
set_option maxRecDepth 1000000 in
theorem ty_f_X10_isGood : ty_MO ty_mi ty_m_X10_isGood ty_i_X10_isGood := ty_mo (1498, 123, 1497, 50) (by decide +kernel)
set_option maxRecDepth 1000000 in
theorem ty_f_X10_isKept : ty_MO ty_mi ty_m_X10_isKept ty_i_X10_isKept := ty_mo (1468, 123, 1467, 0) (by decide +kernel)
set_option maxRecDepth 1000000 in
theorem ty_f_X10_isSign : ty_MO ty_mi ty_m_X10_isSign ty_i_X10_isSign := ty_mo (1494, 123, 1493, 0) (by decide +kernel)
set_option maxRecDepth 1000000 in
theorem ty_f_X10_goOn : ty_MO ty_mi ty_m_X10_goOn ty_i_X10_goOn := ty_mo (1458, 123, 1457, 48) (by decide +kernel)
