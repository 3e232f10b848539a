set_option maxRecDepth 1000000 in
theorem ty_f_X0_forget : ty_MO ty_mi ty_m_X0_forget ty_i_X0_forget := ty_mo (526, 119, 524, 525) (by decide +kernel)
set_option maxRecDepth 1000000 in
theorem ty_f_X0_add : ty_MO ty_mi ty_m_X0_add ty_i_X0_add := ty_mo (963, 119, 961, 962) (by decide +kernel)
set_option maxRecDepth 1000000 in
theorem ty_f_X0_takeBack : ty_MO ty_mi ty_m_X0_takeBack ty_i_X0_takeBack := ty_mo (1007, 119, 1005, 1006) (by decide +kernel)
set_option maxRecDepth 1000000 in
theorem ty_f_X0_doAgain : ty_MO ty_mi ty_m_X0_doAgain ty_i_X0_doAgain := ty_mo (1015, 119, 1013, 1014) (by decide +kernel)
set_option maxRecDepth 1000000 in
theorem ty_f_X0_current : ty_MO ty_mi ty_m_X0_current ty_i_X0_current := ty_mo (967, 119, 966, 31) (by decide +kernel)
set_option maxRecDepth 1000000 in
theorem ty_f_X1_get : ty_MO ty_mi ty_m_X1_get ty_i_X1_get := ty_mo (880, 118, 878, 879) (by decide +kernel)
set_option maxRecDepth 1000000 in
theorem ty_f_X2_clear : ty_MO ty_mi ty_m_X2_clear ty_i_X2_clear := ty_mo (195, 115, 193, 194) (by decide +kernel)
set_option maxRecDepth 1000000 in
theorem ty_f_X2_add : ty_MO ty_mi ty_m_X2_add ty_i_X2_add := ty_mo (199, 115, 197, 198) (by decide +kernel)
set_option maxRecDepth 1000000 in
theorem ty_f_X2_copy : ty_MO ty_mi ty_m_X2_copy ty_i_X2_copy := ty_mo (826, 115, 824, 825) (by decide +kernel)
set_option maxRecDepth 1000000 in
theorem ty_f_X2_valueBy : ty_MO ty_mi ty_m_X2_valueBy ty_i_X2_valueBy := ty_mo (872, 115, 870, 871) (by decide +kernel)
set_option maxRecDepth 1000000 in
theorem ty_f_X2_levelOf : ty_MO ty_mi ty_m_X2_levelOf ty_i_X2_levelOf := ty_mo (817, 115, 816, 0) (by decide +kernel)
set_option maxRecDepth 1000000 in
theorem ty_f_X2_join : ty_MO ty_mi ty_m_X2_join ty_i_X2_join := ty_mo (876, 115, 875, 0) (by decide +kernel)
set_option maxRecDepth 1000000 in
theorem ty_f_X3_read : ty_MO ty_mi ty_m_X3_read ty_i_X3_read := ty_mo (600, 113, 598, 599) (by decide +kernel)
set_option maxRecDepth 1000000 in
theorem ty_f_X3_goOn : ty_MO ty_mi ty_m_X3_goOn ty_i_X3_goOn := ty_mo (760, 113, 759, 11) (by decide +kernel)
set_option maxRecDepth 1000000 in
theorem ty_f_X3_refuse : ty_MO ty_mi ty_m_X3_refuse ty_i_X3_refuse := ty_mo (756, 113, 755, 10) (by decide +kernel)
set_option maxRecDepth 1000000 in
theorem ty_f_X3_readLine : ty_MO ty_mi ty_m_X3_readLine ty_i_X3_readLine := ty_mo (748, 113, 747, 8) (by decide +kernel)
set_option maxRecDepth 1000000 in
theorem ty_f_X3_mayTell : ty_MO ty_mi ty_m_X3_mayTell ty_i_X3_mayTell := ty_mo (752, 113, 751, 9) (by decide +kernel)
set_option maxRecDepth 1000000 in
theorem ty_f_X3_readKind : ty_MO ty_mi ty_m_X3_readKind ty_i_X3_readKind := ty_mo (779, 113, 778, 15) (by decide +kernel)
set_option maxRecDepth 1000000 in
theorem ty_f_X3_readNumber : ty_MO ty_mi ty_m_X3_readNumber ty_i_X3_readNumber := ty_mo (764, 113, 763, 12) (by decide +kernel)
set_option maxRecDepth 1000000 in
theorem ty_f_X3_readNewName : ty_MO ty_mi ty_m_X3_readNewName ty_i_X3_readNewName := ty_mo (772, 113, 771, 14) (by decide +kernel)
set_option maxRecDepth 1000000 in
theorem ty_f_X3_indexOf : ty_MO ty_mi ty_m_X3_indexOf ty_i_X3_indexOf := ty_mo (775, 113, 774, 0) (by decide +kernel)
set_option maxRecDepth 1000000 in
theorem ty_f_X3_readWord : ty_MO ty_mi ty_m_X3_readWord ty_i_X3_readWord := ty_mo (768, 113, 767, 13) (by decide +kernel)
set_option maxRecDepth 1000000 in
theorem ty_f_X3_readComer : ty_MO ty_mi ty_m_X3_readComer ty_i_X3_readComer := ty_mo (783, 113, 782, 16) (by decide +kernel)
set_option maxRecDepth 1000000 in
theorem ty_f_X3_readSaid : ty_MO ty_mi ty_m_X3_readSaid ty_i_X3_readSaid := ty_mo (787, 113, 786, 17) (by decide +kernel)
set_option maxRecDepth 1000000 in
theorem ty_f_X3_readFormula : ty_MO ty_mi ty_m_X3_readFormula ty_i_X3_readFormula := ty_mo (797, 113, 796, 18) (by decide +kernel)
set_option maxRecDepth 1000000 in
theorem ty_f_X3_readLevel : ty_MO ty_mi ty_m_X3_readLevel ty_i_X3_readLevel := ty_mo (802, 113, 801, 19) (by decide +kernel)
set_option maxRecDepth 1000000 in
theorem ty_f_X3_readNot : ty_MO ty_mi ty_m_X3_readNot ty_i_X3_readNot := ty_mo (814, 113, 813, 21) (by decide +kernel)
set_option maxRecDepth 1000000 in
theorem ty_f_X3_readUnit : ty_MO ty_mi ty_m_X3_readUnit ty_i_X3_readUnit := ty_mo (806, 113, 805, 20) (by decide +kernel)
set_option maxRecDepth 1000000 in
theorem ty_f_X3_isUnitStart : ty_MO ty_mi ty_m_X3_isUnitStart ty_i_X3_isUnitStart := ty_mo (809, 113, 808, 0) (by decide +kernel)
set_option maxRecDepth 1000000 in
theorem ty_f_X4_begin : ty_MO ty_mi ty_m_X4_begin ty_i_X4_begin := ty_mo (512, 117, 510, 511) (by decide +kernel)
set_option maxRecDepth 1000000 in
theorem ty_f_X4_copy : ty_MO ty_mi ty_m_X4_copy ty_i_X4_copy := ty_mo (530, 117, 528, 529) (by decide +kernel)
set_option maxRecDepth 1000000 in
theorem ty_f_X4_whoIsBy : ty_MO ty_mi ty_m_X4_whoIsBy ty_i_X4_whoIsBy := ty_mo (931, 117, 929, 930) (by decide +kernel)
set_option maxRecDepth 1000000 in
theorem ty_f_X4_waiting : ty_MO ty_mi ty_m_X4_waiting ty_i_X4_waiting := ty_mo (1078, 117, 1076, 1077) (by decide +kernel)
set_option maxRecDepth 1000000 in
theorem ty_f_X4_sayers : ty_MO ty_mi ty_m_X4_sayers ty_i_X4_sayers := ty_mo (843, 117, 841, 842) (by decide +kernel)
set_option maxRecDepth 1000000 in
theorem ty_f_X4_worthOf : ty_MO ty_mi ty_m_X4_worthOf ty_i_X4_worthOf := ty_mo (863, 117, 861, 862) (by decide +kernel)
set_option maxRecDepth 1000000 in
theorem ty_f_X4_worthSaying : ty_MO ty_mi ty_m_X4_worthSaying ty_i_X4_worthSaying := ty_mo (1130, 117, 1128, 1129) (by decide +kernel)
set_option maxRecDepth 1000000 in
theorem ty_f_X4_worthInMood : ty_MO ty_mi ty_m_X4_worthInMood ty_i_X4_worthInMood := ty_mo (1154, 117, 1152, 1153) (by decide +kernel)
set_option maxRecDepth 1000000 in
theorem ty_f_X4_keepsOf : ty_MO ty_mi ty_m_X4_keepsOf ty_i_X4_keepsOf := ty_mo (889, 117, 887, 888) (by decide +kernel)
set_option maxRecDepth 1000000 in
theorem ty_f_X4_withinKept : ty_MO ty_mi ty_m_X4_withinKept ty_i_X4_withinKept := ty_mo (892, 117, 891, 0) (by decide +kernel)
set_option maxRecDepth 1000000 in
theorem ty_f_X4_factsOf : ty_MO ty_mi ty_m_X4_factsOf ty_i_X4_factsOf := ty_mo (867, 117, 866, 25) (by decide +kernel)
set_option maxRecDepth 1000000 in
theorem ty_f_X4_drawWhim : ty_MO ty_mi ty_m_X4_drawWhim ty_i_X4_drawWhim := ty_mo (943, 117, 941, 942) (by decide +kernel)
set_option maxRecDepth 1000000 in
theorem ty_f_X4_openTo : ty_MO ty_mi ty_m_X4_openTo ty_i_X4_openTo := ty_mo (947, 117, 945, 946) (by decide +kernel)
set_option maxRecDepth 1000000 in
theorem ty_f_X4_firstOf : ty_MO ty_mi ty_m_X4_firstOf ty_i_X4_firstOf := ty_mo (951, 117, 950, 28) (by decide +kernel)
set_option maxRecDepth 1000000 in
theorem ty_f_X4_listen : ty_MO ty_mi ty_m_X4_listen ty_i_X4_listen := ty_mo (955, 117, 954, 29) (by decide +kernel)
