set_option maxRecDepth 1000000 in
set_option maxHeartbeats 0 in
theorem ty_lt_1226 : ty_okT ty_mt ty_lcn 100000 ty_lgood 1 61 true ty_lawM ty_lmo ty_lts ty_T_1226 = true := by decide +kernel
set_option maxRecDepth 1000000 in
set_option maxHeartbeats 0 in
theorem ty_lt_1203 : ty_okT ty_mt ty_lcn 100000 ty_lgood 1 61 true ty_lawM ty_lmo ty_lts ty_T_1203 = true := by decide +kernel
set_option maxRecDepth 1000000 in
set_option maxHeartbeats 0 in
theorem ty_lt_1190 : ty_okT ty_mt ty_lcn 100000 ty_lgood 1 61 true ty_lawM ty_lmo ty_lts ty_T_1190 = true := by decide +kernel
set_option maxRecDepth 1000000 in
set_option maxHeartbeats 0 in
theorem ty_lt_1177 : ty_okT ty_mt ty_lcn 100000 ty_lgood 1 61 true ty_lawM ty_lmo ty_lts ty_T_1177 = true := by decide +kernel
set_option maxRecDepth 1000000 in
set_option maxHeartbeats 0 in
theorem ty_lt_1164 : ty_okT ty_mt ty_lcn 100000 ty_lgood 1 61 true ty_lawM ty_lmo ty_lts ty_T_1164 = true := by decide +kernel
set_option maxRecDepth 1000000 in
set_option maxHeartbeats 0 in
theorem ty_lt_1131 : ty_okT ty_mt ty_lcn 100000 ty_lgood 1 61 true ty_lawM ty_lmo ty_lts ty_T_1131 = true := by decide +kernel
set_option maxRecDepth 1000000 in
set_option maxHeartbeats 0 in
theorem ty_lt_1098 : ty_okT ty_mt ty_lcn 100000 ty_lgood 1 61 true ty_lawM ty_lmo ty_lts ty_T_1098 = true := by decide +kernel
set_option maxRecDepth 1000000 in
set_option maxHeartbeats 0 in
theorem ty_lt_1065 : ty_okT ty_mt ty_lcn 100000 ty_lgood 1 61 true ty_lawM ty_lmo ty_lts ty_T_1065 = true := by decide +kernel
set_option maxRecDepth 1000000 in
set_option maxHeartbeats 0 in
theorem ty_lt_1042 : ty_okT ty_mt ty_lcn 100000 ty_lgood 1 61 true ty_lawM ty_lmo ty_lts ty_T_1042 = true := by decide +kernel
set_option maxRecDepth 1000000 in
set_option maxHeartbeats 0 in
theorem ty_lt_1009 : ty_okT ty_mt ty_lcn 100000 ty_lgood 1 61 true ty_lawM ty_lmo ty_lts ty_T_1009 = true := by decide +kernel
set_option maxRecDepth 1000000 in
set_option maxHeartbeats 0 in
theorem ty_lt_986 : ty_okT ty_mt ty_lcn 100000 ty_lgood 1 61 true ty_lawM ty_lmo ty_lts ty_T_986 = true := by decide +kernel
set_option maxRecDepth 1000000 in
set_option maxHeartbeats 0 in
theorem ty_lt_953 : ty_okT ty_mt ty_lcn 100000 ty_lgood 1 61 true ty_lawM ty_lmo ty_lts ty_T_953 = true := by decide +kernel
set_option maxRecDepth 1000000 in
set_option maxHeartbeats 0 in
theorem ty_lt_930 : ty_okT ty_mt ty_lcn 100000 ty_lgood 1 61 true ty_lawM ty_lmo ty_lts ty_T_930 = true := by decide +kernel
set_option maxRecDepth 1000000 in
set_option maxHeartbeats 0 in
theorem ty_lt_897 : ty_okT ty_mt ty_lcn 100000 ty_lgood 1 61 true ty_lawM ty_lmo ty_lts ty_T_897 = true := by decide +kernel
