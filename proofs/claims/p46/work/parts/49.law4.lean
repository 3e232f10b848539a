set_option maxRecDepth 1000000 in
set_option maxHeartbeats 0 in
theorem ty_lt_522 : ty_okT ty_mt ty_lcn 100000 ty_lgood 1 61 true ty_lawM ty_lmo ty_lts ty_T_522 = true := by decide +kernel
set_option maxRecDepth 1000000 in
set_option maxHeartbeats 0 in
theorem ty_lt_509 : ty_okT ty_mt ty_lcn 100000 ty_lgood 1 61 true ty_lawM ty_lmo ty_lts ty_T_509 = true := by decide +kernel
set_option maxRecDepth 1000000 in
set_option maxHeartbeats 0 in
theorem ty_lt_486 : ty_okT ty_mt ty_lcn 100000 ty_lgood 1 61 true ty_lawM ty_lmo ty_lts ty_T_486 = true := by decide +kernel
set_option maxRecDepth 1000000 in
set_option maxHeartbeats 0 in
theorem ty_lt_463 : ty_okT ty_mt ty_lcn 100000 ty_lgood 1 61 true ty_lawM ty_lmo ty_lts ty_T_463 = true := by decide +kernel
set_option maxRecDepth 1000000 in
set_option maxHeartbeats 0 in
theorem ty_lt_440 : ty_okT ty_mt ty_lcn 100000 ty_lgood 1 61 true ty_lawM ty_lmo ty_lts ty_T_440 = true := by decide +kernel
set_option maxRecDepth 1000000 in
set_option maxHeartbeats 0 in
theorem ty_lt_407 : ty_okT ty_mt ty_lcn 100000 ty_lgood 1 61 true ty_lawM ty_lmo ty_lts ty_T_407 = true := by decide +kernel
set_option maxRecDepth 1000000 in
set_option maxHeartbeats 0 in
theorem ty_lt_374 : ty_okT ty_mt ty_lcn 100000 ty_lgood 1 61 true ty_lawM ty_lmo ty_lts ty_T_374 = true := by decide +kernel
set_option maxRecDepth 1000000 in
set_option maxHeartbeats 0 in
theorem ty_lt_351 : ty_okT ty_mt ty_lcn 100000 ty_lgood 1 61 true ty_lawM ty_lmo ty_lts ty_T_351 = true := by decide +kernel
set_option maxRecDepth 1000000 in
set_option maxHeartbeats 0 in
theorem ty_lt_338 : ty_okT ty_mt ty_lcn 100000 ty_lgood 1 61 true ty_lawM ty_lmo ty_lts ty_T_338 = true := by decide +kernel
set_option maxRecDepth 1000000 in
set_option maxHeartbeats 0 in
theorem ty_lt_315 : ty_okT ty_mt ty_lcn 100000 ty_lgood 1 61 true ty_lawM ty_lmo ty_lts ty_T_315 = true := by decide +kernel
set_option maxRecDepth 1000000 in
set_option maxHeartbeats 0 in
theorem ty_lt_252 : ty_okT ty_mt ty_lcn 100000 ty_lgood 1 61 true ty_lawM ty_lmo ty_lts ty_T_252 = true := by decide +kernel
