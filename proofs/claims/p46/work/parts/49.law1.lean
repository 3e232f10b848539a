set_option maxRecDepth 1000000 in
set_option maxHeartbeats 0 in
theorem ty_lt_18 : ty_okT ty_mt ty_lcn 100000 ty_lgood 1 61 true ty_lawM ty_lmo ty_lts ty_T_18 = true := by decide +kernel
set_option maxRecDepth 1000000 in
set_option maxHeartbeats 0 in
theorem ty_lt_1581 : ty_okT ty_mt ty_lcn 100000 ty_lgood 1 61 true ty_lawM ty_lmo ty_lts ty_T_1581 = true := by decide +kernel
set_option maxRecDepth 1000000 in
set_option maxHeartbeats 0 in
theorem ty_lt_1558 : ty_okT ty_mt ty_lcn 100000 ty_lgood 1 61 true ty_lawM ty_lmo ty_lts ty_T_1558 = true := by decide +kernel
set_option maxRecDepth 1000000 in
set_option maxHeartbeats 0 in
theorem ty_lt_1535 : ty_okT ty_mt ty_lcn 100000 ty_lgood 1 61 true ty_lawM ty_lmo ty_lts ty_T_1535 = true := by decide +kernel
set_option maxRecDepth 1000000 in
set_option maxHeartbeats 0 in
theorem ty_lt_1512 : ty_okT ty_mt ty_lcn 100000 ty_lgood 1 61 true ty_lawM ty_lmo ty_lts ty_T_1512 = true := by decide +kernel
set_option maxRecDepth 1000000 in
set_option maxHeartbeats 0 in
theorem ty_lt_1479 : ty_okT ty_mt ty_lcn 100000 ty_lgood 1 61 true ty_lawM ty_lmo ty_lts ty_T_1479 = true := by decide +kernel
set_option maxRecDepth 1000000 in
set_option maxHeartbeats 0 in
theorem ty_lt_1446 : ty_okT ty_mt ty_lcn 100000 ty_lgood 1 61 true ty_lawM ty_lmo ty_lts ty_T_1446 = true := by decide +kernel
set_option maxRecDepth 1000000 in
set_option maxHeartbeats 0 in
theorem ty_lt_1423 : ty_okT ty_mt ty_lcn 100000 ty_lgood 1 61 true ty_lawM ty_lmo ty_lts ty_T_1423 = true := by decide +kernel
set_option maxRecDepth 1000000 in
set_option maxHeartbeats 0 in
theorem ty_lt_1400 : ty_okT ty_mt ty_lcn 100000 ty_lgood 1 61 true ty_lawM ty_lmo ty_lts ty_T_1400 = true := by decide +kernel
set_option maxRecDepth 1000000 in
set_option maxHeartbeats 0 in
theorem ty_lt_1377 : ty_okT ty_mt ty_lcn 100000 ty_lgood 1 61 true ty_lawM ty_lmo ty_lts ty_T_1377 = true := by decide +kernel
set_option maxRecDepth 1000000 in
set_option maxHeartbeats 0 in
theorem ty_lt_1318 : ty_okT ty_mt ty_lcn 100000 ty_lgood 1 61 true ty_lawM ty_lmo ty_lts ty_T_1318 = true := by decide +kernel
set_option maxRecDepth 1000000 in
set_option maxHeartbeats 0 in
theorem ty_lt_1295 : ty_okT ty_mt ty_lcn 100000 ty_lgood 1 61 true ty_lawM ty_lmo ty_lts ty_T_1295 = true := by decide +kernel
set_option maxRecDepth 1000000 in
set_option maxHeartbeats 0 in
theorem ty_lt_1262 : ty_okT ty_mt ty_lcn 100000 ty_lgood 1 61 true ty_lawM ty_lmo ty_lts ty_T_1262 = true := by decide +kernel
set_option maxRecDepth 1000000 in
set_option maxHeartbeats 0 in
theorem ty_lt_1239 : ty_okT ty_mt ty_lcn 100000 ty_lgood 1 61 true ty_lawM ty_lmo ty_lts ty_T_1239 = true := by decide +kernel
