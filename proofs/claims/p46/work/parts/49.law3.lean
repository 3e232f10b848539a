set_option maxRecDepth 1000000 in
set_option maxHeartbeats 0 in
theorem ty_lt_874 : ty_okT ty_mt ty_lcn 100000 ty_lgood 1 61 true ty_lawM ty_lmo ty_lts ty_T_874 = true := by decide +kernel
set_option maxRecDepth 1000000 in
set_option maxHeartbeats 0 in
theorem ty_lt_841 : ty_okT ty_mt ty_lcn 100000 ty_lgood 1 61 true ty_lawM ty_lmo ty_lts ty_T_841 = true := by decide +kernel
set_option maxRecDepth 1000000 in
set_option maxHeartbeats 0 in
theorem ty_lt_828 : ty_okT ty_mt ty_lcn 100000 ty_lgood 1 61 true ty_lawM ty_lmo ty_lts ty_T_828 = true := by decide +kernel
set_option maxRecDepth 1000000 in
set_option maxHeartbeats 0 in
theorem ty_lt_795 : ty_okT ty_mt ty_lcn 100000 ty_lgood 1 61 true ty_lawM ty_lmo ty_lts ty_T_795 = true := by decide +kernel
set_option maxRecDepth 1000000 in
set_option maxHeartbeats 0 in
theorem ty_lt_762 : ty_okT ty_mt ty_lcn 100000 ty_lgood 1 61 true ty_lawM ty_lmo ty_lts ty_T_762 = true := by decide +kernel
set_option maxRecDepth 1000000 in
set_option maxHeartbeats 0 in
theorem ty_lt_739 : ty_okT ty_mt ty_lcn 100000 ty_lgood 1 61 true ty_lawM ty_lmo ty_lts ty_T_739 = true := by decide +kernel
set_option maxRecDepth 1000000 in
set_option maxHeartbeats 0 in
theorem ty_lt_716 : ty_okT ty_mt ty_lcn 100000 ty_lgood 1 61 true ty_lawM ty_lmo ty_lts ty_T_716 = true := by decide +kernel
set_option maxRecDepth 1000000 in
set_option maxHeartbeats 0 in
theorem ty_lt_683 : ty_okT ty_mt ty_lcn 100000 ty_lgood 1 61 true ty_lawM ty_lmo ty_lts ty_T_683 = true := by decide +kernel
set_option maxRecDepth 1000000 in
set_option maxHeartbeats 0 in
theorem ty_lt_670 : ty_okT ty_mt ty_lcn 100000 ty_lgood 1 61 true ty_lawM ty_lmo ty_lts ty_T_670 = true := by decide +kernel
set_option maxRecDepth 1000000 in
set_option maxHeartbeats 0 in
theorem ty_lt_657 : ty_okT ty_mt ty_lcn 100000 ty_lgood 1 61 true ty_lawM ty_lmo ty_lts ty_T_657 = true := by decide +kernel
set_option maxRecDepth 1000000 in
set_option maxHeartbeats 0 in
theorem ty_lt_634 : ty_okT ty_mt ty_lcn 100000 ty_lgood 1 61 true ty_lawM ty_lmo ty_lts ty_T_634 = true := by decide +kernel
set_option maxRecDepth 1000000 in
set_option maxHeartbeats 0 in
theorem ty_lt_611 : ty_okT ty_mt ty_lcn 100000 ty_lgood 1 61 true ty_lawM ty_lmo ty_lts ty_T_611 = true := by decide +kernel
set_option maxRecDepth 1000000 in
set_option maxHeartbeats 0 in
theorem ty_lt_578 : ty_okT ty_mt ty_lcn 100000 ty_lgood 1 61 true ty_lawM ty_lmo ty_lts ty_T_578 = true := by decide +kernel
set_option maxRecDepth 1000000 in
set_option maxHeartbeats 0 in
theorem ty_lt_545 : ty_okT ty_mt ty_lcn 100000 ty_lgood 1 61 true ty_lawM ty_lmo ty_lts ty_T_545 = true := by decide +kernel
