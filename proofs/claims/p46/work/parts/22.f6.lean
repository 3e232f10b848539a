set_option maxRecDepth 1000000 in
theorem ty_f_X10_areAllBy : ty_MO ty_mi ty_m_X10_areAllBy ty_i_X10_areAllBy := ty_mo (1857, 123, 1856, 103) (by decide +kernel)
set_option maxRecDepth 1000000 in
theorem ty_f_X10_soonest : ty_MO ty_mi ty_m_X10_soonest ty_i_X10_soonest := ty_mo (1850, 123, 1848, 1849) (by decide +kernel)
set_option maxRecDepth 1000000 in
theorem ty_f_X10_fewestOf : ty_MO ty_mi ty_m_X10_fewestOf ty_i_X10_fewestOf := ty_mo (1865, 123, 1864, 104) (by decide +kernel)
set_option maxRecDepth 1000000 in
theorem ty_f_X10_shortest : ty_MO ty_mi ty_m_X10_shortest ty_i_X10_shortest := ty_mo (1861, 123, 1859, 1860) (by decide +kernel)
set_option maxRecDepth 1000000 in
theorem ty_f_X10_honest : ty_MO ty_mi ty_m_X10_honest ty_i_X10_honest := ty_mo (1869, 123, 1867, 1868) (by decide +kernel)
set_option maxRecDepth 1000000 in
theorem ty_f_X10_spark : ty_MO ty_mi ty_m_X10_spark ty_i_X10_spark := ty_mo (1873, 123, 1871, 1872) (by decide +kernel)
set_option maxRecDepth 1000000 in
theorem ty_f_X10_drop : ty_MO ty_mi ty_m_X10_drop ty_i_X10_drop := ty_mo (1877, 123, 1875, 1876) (by decide +kernel)
set_option maxRecDepth 1000000 in
theorem ty_f_X10_coax : ty_MO ty_mi ty_m_X10_coax ty_i_X10_coax := ty_mo (1881, 123, 1879, 1880) (by decide +kernel)
set_option maxRecDepth 1000000 in
theorem ty_f_X10_law : ty_MO ty_mi ty_m_X10_law ty_i_X10_law := ty_mo (1885, 123, 1883, 1884) (by decide +kernel)
set_option maxRecDepth 1000000 in
theorem ty_f_X10_laySooner : ty_MO ty_mi ty_m_X10_laySooner ty_i_X10_laySooner := ty_mo (1893, 123, 1892, 105) (by decide +kernel)
set_option maxRecDepth 1000000 in
theorem ty_f_X10_isRest : ty_MO ty_mi ty_m_X10_isRest ty_i_X10_isRest := ty_mo (1897, 123, 1896, 106) (by decide +kernel)
set_option maxRecDepth 1000000 in
theorem ty_f_X10_rivals : ty_MO ty_mi ty_m_X10_rivals ty_i_X10_rivals := ty_mo (1889, 123, 1887, 1888) (by decide +kernel)
set_option maxRecDepth 1000000 in
theorem ty_f_X10_odds : ty_MO ty_mi ty_m_X10_odds ty_i_X10_odds := ty_mo (1901, 123, 1899, 1900) (by decide +kernel)
set_option maxRecDepth 1000000 in
theorem ty_f_X10_seen : ty_MO ty_mi ty_m_X10_seen ty_i_X10_seen := ty_mo (1908, 123, 1906, 1907) (by decide +kernel)
set_option maxRecDepth 1000000 in
theorem ty_f_X10_untell : ty_MO ty_mi ty_m_X10_untell ty_i_X10_untell := ty_mo (1912, 123, 1910, 1911) (by decide +kernel)
set_option maxRecDepth 1000000 in
theorem ty_f_X10_later : ty_MO ty_mi ty_m_X10_later ty_i_X10_later := ty_mo (1916, 123, 1914, 1915) (by decide +kernel)
set_option maxRecDepth 1000000 in
theorem ty_f_X10_layBy : ty_MO ty_mi ty_m_X10_layBy ty_i_X10_layBy := ty_mo (1925, 123, 1924, 107) (by decide +kernel)
set_option maxRecDepth 1000000 in
theorem ty_f_X10_doesFit : ty_MO ty_mi ty_m_X10_doesFit ty_i_X10_doesFit := ty_mo (1929, 123, 1928, 108) (by decide +kernel)
set_option maxRecDepth 1000000 in
theorem ty_f_X10_fits : ty_MO ty_mi ty_m_X10_fits ty_i_X10_fits := ty_mo (1921, 123, 1919, 1920) (by decide +kernel)
set_option maxRecDepth 1000000 in
theorem ty_f_X10_sure : ty_MO ty_mi ty_m_X10_sure ty_i_X10_sure := ty_mo (1933, 123, 1931, 1932) (by decide +kernel)
set_option maxRecDepth 1000000 in
theorem ty_f_X10_mostBehind : ty_MO ty_mi ty_m_X10_mostBehind ty_i_X10_mostBehind := ty_mo (1942, 123, 1941, 109) (by decide +kernel)
set_option maxRecDepth 1000000 in
theorem ty_f_X10_ask : ty_MO ty_mi ty_m_X10_ask ty_i_X10_ask := ty_mo (1938, 123, 1936, 1937) (by decide +kernel)
set_option maxRecDepth 1000000 in
theorem ty_f_X10_image : ty_MO ty_mi ty_m_X10_image ty_i_X10_image := ty_mo (1946, 123, 1944, 1945) (by decide +kernel)
set_option maxRecDepth 1000000 in
theorem ty_f_X10_back : ty_MO ty_mi ty_m_X10_back ty_i_X10_back := ty_mo (1950, 123, 1948, 1949) (by decide +kernel)
set_option maxRecDepth 1000000 in
theorem ty_f_X10_about : ty_MO ty_mi ty_m_X10_about ty_i_X10_about := ty_mo (1954, 123, 1952, 1953) (by decide +kernel)
set_option maxRecDepth 1000000 in
theorem ty_f_X10_feed : ty_MO ty_mi ty_m_X10_feed ty_i_X10_feed := ty_mo (1958, 123, 1956, 1957) (by decide +kernel)
set_option maxRecDepth 1000000 in
theorem ty_f_X10_end : ty_MO ty_mi ty_m_X10_end ty_i_X10_end := ty_mo (1962, 123, 1960, 1961) (by decide +kernel)
set_option maxRecDepth 1000000 in
theorem ty_f_J6_bitCount_0f7a4 : ty_MO ty_mi ty_m_J6_bitCount_0f7a4 ty_i_J6_bitCount_0f7a4 := ty_mo (790, 130, 789, 0) (by decide +kernel)
set_option maxRecDepth 1000000 in
theorem ty_f_J0_length_8abf5 : ty_MO ty_mi ty_m_J0_length_8abf5 ty_i_J0_length_8abf5 := ty_mo (686, 124, 684, 685) (by decide +kernel)
set_option maxRecDepth 1000000 in
theorem ty_f_J0_charAt_5068e : ty_MO ty_mi ty_m_J0_charAt_5068e ty_i_J0_charAt_5068e := ty_mo (630, 124, 628, 629) (by decide +kernel)
set_option maxRecDepth 1000000 in
theorem ty_f_J0_indexOf_0f7a4 : ty_MO ty_mi ty_m_J0_indexOf_0f7a4 ty_i_J0_indexOf_0f7a4 := ty_mo (678, 124, 676, 677) (by decide +kernel)
set_option maxRecDepth 1000000 in
theorem ty_f_J0_indexOf_7cf53 : ty_MO ty_mi ty_m_J0_indexOf_7cf53 ty_i_J0_indexOf_7cf53 := ty_mo (682, 124, 680, 681) (by decide +kernel)
set_option maxRecDepth 1000000 in
theorem ty_f_J0_coder_7d493 : ty_MO ty_mi ty_m_J0_coder_7d493 ty_i_J0_coder_7d493 := ty_mo (690, 124, 688, 689) (by decide +kernel)
set_option maxRecDepth 1000000 in
theorem ty_f_J0_isLatin1_aae02 : ty_MO ty_mi ty_m_J0_isLatin1_aae02 ty_i_J0_isLatin1_aae02 := ty_mo (634, 124, 632, 633) (by decide +kernel)
set_option maxRecDepth 1000000 in
theorem ty_f_J0_checkIndex_df160 : ty_MO ty_mi ty_m_J0_checkIndex_df160 ty_i_J0_checkIndex_df160 := ty_mo (642, 124, 641, 0) (by decide +kernel)
set_option maxRecDepth 1000000 in
theorem ty_f_J1_charAt_3b067 : ty_MO ty_mi ty_m_J1_charAt_3b067 ty_i_J1_charAt_3b067 := ty_mo (639, 125, 638, 0) (by decide +kernel)
set_option maxRecDepth 1000000 in
theorem ty_f_J1_canEncode_9a6ad : ty_MO ty_mi ty_m_J1_canEncode_9a6ad ty_i_J1_canEncode_9a6ad := ty_mo (696, 125, 695, 0) (by decide +kernel)
set_option maxRecDepth 1000000 in
theorem ty_f_J1_indexOf_4cfef : ty_MO ty_mi ty_m_J1_indexOf_4cfef ty_i_J1_indexOf_4cfef := ty_mo (693, 125, 692, 0) (by decide +kernel)
set_option maxRecDepth 1000000 in
theorem ty_f_J1_indexOfChar_4cfef : ty_MO ty_mi ty_m_J1_indexOfChar_4cfef ty_i_J1_indexOfChar_4cfef := ty_mo (705, 125, 704, 0) (by decide +kernel)
set_option maxRecDepth 1000000 in
theorem ty_f_J7_fill_53178 : ty_MO ty_mi ty_m_J7_fill_53178 ty_i_J7_fill_53178 := ty_mo (515, 121, 514, 0) (by decide +kernel)
set_option maxRecDepth 1000000 in
theorem ty_f_J3_checkIndex_8e157 : ty_MO ty_mi ty_m_J3_checkIndex_8e157 ty_i_J3_checkIndex_8e157 := ty_mo (647, 126, 646, 0) (by decide +kernel)
