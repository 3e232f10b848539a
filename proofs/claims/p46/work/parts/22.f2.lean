set_option maxRecDepth 1000000 in
theorem ty_f_X4_takeRoad : ty_MO ty_mi ty_m_X4_takeRoad ty_i_X4_takeRoad := ty_mo (991, 117, 989, 990) (by decide +kernel)
set_option maxRecDepth 1000000 in
theorem ty_f_X4_leave : ty_MO ty_mi ty_m_X4_leave ty_i_X4_leave := ty_mo (959, 117, 958, 30) (by decide +kernel)
set_option maxRecDepth 1000000 in
theorem ty_f_X4_join : ty_MO ty_mi ty_m_X4_join ty_i_X4_join := ty_mo (519, 117, 518, 1) (by decide +kernel)
set_option maxRecDepth 1000000 in
theorem ty_f_X4_exchange : ty_MO ty_mi ty_m_X4_exchange ty_i_X4_exchange := ty_mo (1086, 117, 1084, 1085) (by decide +kernel)
set_option maxRecDepth 1000000 in
theorem ty_f_X5_forget : ty_MO ty_mi ty_m_X5_forget ty_i_X5_forget := ty_mo (534, 120, 532, 533) (by decide +kernel)
set_option maxRecDepth 1000000 in
theorem ty_f_X5_add : ty_MO ty_mi ty_m_X5_add ty_i_X5_add := ty_mo (1173, 120, 1171, 1172) (by decide +kernel)
set_option maxRecDepth 1000000 in
theorem ty_f_X5_takeBack : ty_MO ty_mi ty_m_X5_takeBack ty_i_X5_takeBack := ty_mo (1181, 120, 1179, 1180) (by decide +kernel)
set_option maxRecDepth 1000000 in
theorem ty_f_X5_findFitting : ty_MO ty_mi ty_m_X5_findFitting ty_i_X5_findFitting := ty_mo (1194, 120, 1192, 1193) (by decide +kernel)
set_option maxRecDepth 1000000 in
theorem ty_f_X5_isFitting : ty_MO ty_mi ty_m_X5_isFitting ty_i_X5_isFitting := ty_mo (1205, 120, 1204, 42) (by decide +kernel)
set_option maxRecDepth 1000000 in
theorem ty_f_X5_makeBy : ty_MO ty_mi ty_m_X5_makeBy ty_i_X5_makeBy := ty_mo (1198, 120, 1197, 41) (by decide +kernel)
set_option maxRecDepth 1000000 in
theorem ty_f_X5_mostAlike : ty_MO ty_mi ty_m_X5_mostAlike ty_i_X5_mostAlike := ty_mo (1217, 120, 1215, 1216) (by decide +kernel)
set_option maxRecDepth 1000000 in
theorem ty_f_X6_put : ty_MO ty_mi ty_m_X6_put ty_i_X6_put := ty_mo (588, 112, 586, 587) (by decide +kernel)
set_option maxRecDepth 1000000 in
theorem ty_f_X7_cut : ty_MO ty_mi ty_m_X7_cut ty_i_X7_cut := ty_mo (605, 116, 603, 604) (by decide +kernel)
set_option maxRecDepth 1000000 in
theorem ty_f_X7_skipBlanks : ty_MO ty_mi ty_m_X7_skipBlanks ty_i_X7_skipBlanks := ty_mo (609, 116, 608, 2) (by decide +kernel)
set_option maxRecDepth 1000000 in
theorem ty_f_X7_cutEnd : ty_MO ty_mi ty_m_X7_cutEnd ty_i_X7_cutEnd := ty_mo (744, 116, 743, 7) (by decide +kernel)
set_option maxRecDepth 1000000 in
theorem ty_f_X7_cutOne : ty_MO ty_mi ty_m_X7_cutOne ty_i_X7_cutOne := ty_mo (613, 116, 612, 3) (by decide +kernel)
set_option maxRecDepth 1000000 in
theorem ty_f_X7_cutWord : ty_MO ty_mi ty_m_X7_cutWord ty_i_X7_cutWord := ty_mo (620, 116, 619, 4) (by decide +kernel)
set_option maxRecDepth 1000000 in
theorem ty_f_X7_kindOfWord : ty_MO ty_mi ty_m_X7_kindOfWord ty_i_X7_kindOfWord := ty_mo (625, 116, 624, 5) (by decide +kernel)
set_option maxRecDepth 1000000 in
theorem ty_f_X7_cutNumber : ty_MO ty_mi ty_m_X7_cutNumber ty_i_X7_cutNumber := ty_mo (673, 116, 672, 6) (by decide +kernel)
set_option maxRecDepth 1000000 in
theorem ty_f_X7_isLetter : ty_MO ty_mi ty_m_X7_isLetter ty_i_X7_isLetter := ty_mo (616, 116, 615, 0) (by decide +kernel)
set_option maxRecDepth 1000000 in
theorem ty_f_X7_isDigit : ty_MO ty_mi ty_m_X7_isDigit ty_i_X7_isDigit := ty_mo (669, 116, 668, 0) (by decide +kernel)
set_option maxRecDepth 1000000 in
theorem ty_f_X8_clear : ty_MO ty_mi ty_m_X8_clear ty_i_X8_clear := ty_mo (191, 114, 189, 190) (by decide +kernel)
set_option maxRecDepth 1000000 in
theorem ty_f_X8_copy : ty_MO ty_mi ty_m_X8_copy ty_i_X8_copy := ty_mo (821, 114, 819, 820) (by decide +kernel)
set_option maxRecDepth 1000000 in
theorem ty_f_X8_allWords : ty_MO ty_mi ty_m_X8_allWords ty_i_X8_allWords := ty_mo (983, 114, 981, 982) (by decide +kernel)
set_option maxRecDepth 1000000 in
theorem ty_f_X8_allComers : ty_MO ty_mi ty_m_X8_allComers ty_i_X8_allComers := ty_mo (1066, 114, 1064, 1065) (by decide +kernel)
set_option maxRecDepth 1000000 in
theorem ty_f_X9_feed : ty_MO ty_mi ty_m_X9_feed ty_i_X9_feed := ty_mo (584, 111, 582, 583) (by decide +kernel)
set_option maxRecDepth 1000000 in
theorem ty_f_X9_end : ty_MO ty_mi ty_m_X9_end ty_i_X9_end := ty_mo (592, 111, 590, 591) (by decide +kernel)
set_option maxRecDepth 1000000 in
theorem ty_f_X9_crossing : ty_MO ty_mi ty_m_X9_crossing ty_i_X9_crossing := ty_mo (596, 111, 594, 595) (by decide +kernel)
set_option maxRecDepth 1000000 in
theorem ty_f_X9_fault : ty_MO ty_mi ty_m_X9_fault ty_i_X9_fault := ty_mo (831, 111, 829, 830) (by decide +kernel)
set_option maxRecDepth 1000000 in
theorem ty_f_X9_startAsTold : ty_MO ty_mi ty_m_X9_startAsTold ty_i_X9_startAsTold := ty_mo (508, 111, 507, 0) (by decide +kernel)
set_option maxRecDepth 1000000 in
theorem ty_f_X9_word : ty_MO ty_mi ty_m_X9_word ty_i_X9_word := ty_mo (835, 111, 833, 834) (by decide +kernel)
set_option maxRecDepth 1000000 in
theorem ty_f_X9_comer : ty_MO ty_mi ty_m_X9_comer ty_i_X9_comer := ty_mo (847, 111, 845, 846) (by decide +kernel)
set_option maxRecDepth 1000000 in
theorem ty_f_X9_worth : ty_MO ty_mi ty_m_X9_worth ty_i_X9_worth := ty_mo (855, 111, 853, 854) (by decide +kernel)
set_option maxRecDepth 1000000 in
theorem ty_f_X9_keeps : ty_MO ty_mi ty_m_X9_keeps ty_i_X9_keeps := ty_mo (885, 111, 883, 884) (by decide +kernel)
set_option maxRecDepth 1000000 in
theorem ty_f_X9_row : ty_MO ty_mi ty_m_X9_row ty_i_X9_row := ty_mo (898, 111, 896, 897) (by decide +kernel)
set_option maxRecDepth 1000000 in
theorem ty_f_X9_ready : ty_MO ty_mi ty_m_X9_ready ty_i_X9_ready := ty_mo (906, 111, 904, 905) (by decide +kernel)
set_option maxRecDepth 1000000 in
theorem ty_f_X9_oldest : ty_MO ty_mi ty_m_X9_oldest ty_i_X9_oldest := ty_mo (910, 111, 908, 909) (by decide +kernel)
set_option maxRecDepth 1000000 in
theorem ty_f_X9_fashion : ty_MO ty_mi ty_m_X9_fashion ty_i_X9_fashion := ty_mo (914, 111, 912, 913) (by decide +kernel)
set_option maxRecDepth 1000000 in
theorem ty_f_X9_lull : ty_MO ty_mi ty_m_X9_lull ty_i_X9_lull := ty_mo (919, 111, 917, 918) (by decide +kernel)
set_option maxRecDepth 1000000 in
theorem ty_f_X9_lies : ty_MO ty_mi ty_m_X9_lies ty_i_X9_lies := ty_mo (923, 111, 921, 922) (by decide +kernel)
set_option maxRecDepth 1000000 in
theorem ty_f_X9_about : ty_MO ty_mi ty_m_X9_about ty_i_X9_about := ty_mo (927, 111, 925, 926) (by decide +kernel)
set_option maxRecDepth 1000000 in
theorem ty_f_X9_isComer : ty_MO ty_mi ty_m_X9_isComer ty_i_X9_isComer := ty_mo (851, 111, 850, 23) (by decide +kernel)
set_option maxRecDepth 1000000 in
theorem ty_f_X9_isWaiting : ty_MO ty_mi ty_m_X9_isWaiting ty_i_X9_isWaiting := ty_mo (859, 111, 858, 24) (by decide +kernel)
set_option maxRecDepth 1000000 in
theorem ty_f_X9_isWord : ty_MO ty_mi ty_m_X9_isWord ty_i_X9_isWord := ty_mo (839, 111, 838, 22) (by decide +kernel)
set_option maxRecDepth 1000000 in
theorem ty_f_X9_isRoad : ty_MO ty_mi ty_m_X9_isRoad ty_i_X9_isRoad := ty_mo (902, 111, 901, 26) (by decide +kernel)
set_option maxRecDepth 1000000 in
theorem ty_f_X9_isAhead : ty_MO ty_mi ty_m_X9_isAhead ty_i_X9_isAhead := ty_mo (1031, 111, 1030, 0) (by decide +kernel)
set_option maxRecDepth 1000000 in
theorem ty_f_X9_isEither : ty_MO ty_mi ty_m_X9_isEither ty_i_X9_isEither := ty_mo (1034, 111, 1033, 0) (by decide +kernel)
set_option maxRecDepth 1000000 in
theorem ty_f_X9_hatch : ty_MO ty_mi ty_m_X9_hatch ty_i_X9_hatch := ty_mo (935, 111, 933, 934) (by decide +kernel)
set_option maxRecDepth 1000000 in
theorem ty_f_X9_open : ty_MO ty_mi ty_m_X9_open ty_i_X9_open := ty_mo (971, 111, 969, 970) (by decide +kernel)
set_option maxRecDepth 1000000 in
theorem ty_f_X9_openInEarnest : ty_MO ty_mi ty_m_X9_openInEarnest ty_i_X9_openInEarnest := ty_mo (939, 111, 938, 27) (by decide +kernel)
set_option maxRecDepth 1000000 in
theorem ty_f_X9_rehearse : ty_MO ty_mi ty_m_X9_rehearse ty_i_X9_rehearse := ty_mo (975, 111, 973, 974) (by decide +kernel)
set_option maxRecDepth 1000000 in
theorem ty_f_X9_isReason : ty_MO ty_mi ty_m_X9_isReason ty_i_X9_isReason := ty_mo (979, 111, 978, 32) (by decide +kernel)
set_option maxRecDepth 1000000 in
theorem ty_f_X9_turn : ty_MO ty_mi ty_m_X9_turn ty_i_X9_turn := ty_mo (987, 111, 985, 986) (by decide +kernel)
set_option maxRecDepth 1000000 in
theorem ty_f_X9_revive : ty_MO ty_mi ty_m_X9_revive ty_i_X9_revive := ty_mo (995, 111, 993, 994) (by decide +kernel)
set_option maxRecDepth 1000000 in
theorem ty_f_X9_humour : ty_MO ty_mi ty_m_X9_humour ty_i_X9_humour := ty_mo (999, 111, 997, 998) (by decide +kernel)
set_option maxRecDepth 1000000 in
theorem ty_f_X9_undo : ty_MO ty_mi ty_m_X9_undo ty_i_X9_undo := ty_mo (1003, 111, 1001, 1002) (by decide +kernel)
set_option maxRecDepth 1000000 in
theorem ty_f_X9_redo : ty_MO ty_mi ty_m_X9_redo ty_i_X9_redo := ty_mo (1011, 111, 1009, 1010) (by decide +kernel)
set_option maxRecDepth 1000000 in
theorem ty_f_X9_image : ty_MO ty_mi ty_m_X9_image ty_i_X9_image := ty_mo (1019, 111, 1017, 1018) (by decide +kernel)
