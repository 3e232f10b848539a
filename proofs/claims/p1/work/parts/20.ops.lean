set_option maxRecDepth 1000000 in
theorem ex_o0 : ex_fin (ex_run ex_mt ex_df 6 20000 1000000 20 true ex_law ex_en0 (ex_at0 252)) = true := by decide +kernel
set_option maxRecDepth 1000000 in
theorem ex_o1 : ex_fin (ex_run ex_mt ex_df 6 20000 1000000 20 true ex_law ex_en0 (ex_at0 315)) = true := by decide +kernel
set_option maxRecDepth 1000000 in
theorem ex_o2 : ex_fin (ex_run ex_mt ex_df 6 20000 1000000 20 true ex_law ex_en0 (ex_at0 338)) = true := by decide +kernel
set_option maxRecDepth 1000000 in
theorem ex_o3 : ex_fin (ex_run ex_mt ex_df 6 20000 1000000 20 true ex_law ex_en0 (ex_at0 351)) = true := by decide +kernel
set_option maxRecDepth 1000000 in
theorem ex_o4 : ex_fin (ex_run ex_mt ex_df 6 20000 1000000 20 true ex_law ex_en0 (ex_at0 374)) = true := by decide +kernel
set_option maxRecDepth 1000000 in
theorem ex_o5 : ex_fin (ex_run ex_mt ex_df 6 20000 1000000 20 true ex_law ex_en0 (ex_at0 407)) = true := by decide +kernel
set_option maxRecDepth 1000000 in
theorem ex_o6 : ex_fin (ex_run ex_mt ex_df 6 20000 1000000 20 true ex_law ex_en0 (ex_at0 440)) = true := by decide +kernel
set_option maxRecDepth 1000000 in
theorem ex_o7 : ex_fin (ex_run ex_mt ex_df 6 20000 1000000 20 true ex_law ex_en0 (ex_at0 463)) = true := by decide +kernel
set_option maxRecDepth 1000000 in
theorem ex_o8 : ex_fin (ex_run ex_mt ex_df 6 20000 1000000 20 true ex_law ex_en0 (ex_at0 486)) = true := by decide +kernel
set_option maxRecDepth 1000000 in
theorem ex_o9 : ex_fin (ex_run ex_mt ex_df 6 20000 1000000 20 true ex_law ex_en0 (ex_at0 509)) = true := by decide +kernel
set_option maxRecDepth 1000000 in
theorem ex_o10 : ex_fin (ex_run ex_mt ex_df 6 20000 1000000 20 true ex_law ex_en0 (ex_at0 522)) = true := by decide +kernel
set_option maxRecDepth 1000000 in
theorem ex_o11 : ex_fin (ex_run ex_mt ex_df 6 20000 1000000 20 true ex_law ex_en0 (ex_at0 545)) = true := by decide +kernel
set_option maxRecDepth 1000000 in
theorem ex_o12 : ex_fin (ex_run ex_mt ex_df 6 20000 1000000 20 true ex_law ex_en0 (ex_at0 578)) = true := by decide +kernel
set_option maxRecDepth 1000000 in
theorem ex_o13 : ex_fin (ex_run ex_mt ex_df 6 20000 1000000 20 true ex_law ex_en0 (ex_at0 611)) = true := by decide +kernel
set_option maxRecDepth 1000000 in
theorem ex_o14 : ex_fin (ex_run ex_mt ex_df 6 20000 1000000 20 true ex_law ex_en0 (ex_at0 634)) = true := by decide +kernel
set_option maxRecDepth 1000000 in
theorem ex_o15 : ex_fin (ex_run ex_mt ex_df 6 20000 1000000 20 true ex_law ex_en0 (ex_at0 657)) = true := by decide +kernel
set_option maxRecDepth 1000000 in
theorem ex_o16 : ex_fin (ex_run ex_mt ex_df 6 20000 1000000 20 true ex_law ex_en0 (ex_at0 670)) = true := by decide +kernel
set_option maxRecDepth 1000000 in
theorem ex_o18 : ex_fin (ex_run ex_mt ex_df 6 20000 1000000 20 true ex_law ex_en0 (ex_at0 716)) = true := by decide +kernel
set_option maxRecDepth 1000000 in
theorem ex_o20 : ex_fin (ex_run ex_mt ex_df 6 20000 1000000 20 true ex_law ex_en0 (ex_at0 762)) = true := by decide +kernel
set_option maxRecDepth 1000000 in
theorem ex_o21 : ex_fin (ex_run ex_mt ex_df 6 20000 1000000 20 true ex_law ex_en0 (ex_at0 795)) = true := by decide +kernel
set_option maxRecDepth 1000000 in
theorem ex_o22 : ex_fin (ex_run ex_mt ex_df 6 20000 1000000 20 true ex_law ex_en0 (ex_at0 828)) = true := by decide +kernel
set_option maxRecDepth 1000000 in
theorem ex_o23 : ex_fin (ex_run ex_mt ex_df 6 20000 1000000 20 true ex_law ex_en0 (ex_at0 841)) = true := by decide +kernel
set_option maxRecDepth 1000000 in
theorem ex_o24 : ex_fin (ex_run ex_mt ex_df 6 20000 1000000 20 true ex_law ex_en0 (ex_at0 874)) = true := by decide +kernel
set_option maxRecDepth 1000000 in
theorem ex_o25 : ex_fin (ex_run ex_mt ex_df 6 20000 1000000 20 true ex_law ex_en0 (ex_at0 897)) = true := by decide +kernel
set_option maxRecDepth 1000000 in
theorem ex_o27 : ex_fin (ex_run ex_mt ex_df 6 20000 1000000 20 true ex_law ex_en0 (ex_at0 953)) = true := by decide +kernel
set_option maxRecDepth 1000000 in
theorem ex_o28 : ex_fin (ex_run ex_mt ex_df 6 20000 1000000 20 true ex_law ex_en0 (ex_at0 986)) = true := by decide +kernel
set_option maxRecDepth 1000000 in
theorem ex_o29 : ex_fin (ex_run ex_mt ex_df 6 20000 1000000 20 true ex_law ex_en0 (ex_at0 1009)) = true := by decide +kernel
set_option maxRecDepth 1000000 in
theorem ex_o30 : ex_fin (ex_run ex_mt ex_df 6 20000 1000000 20 true ex_law ex_en0 (ex_at0 1042)) = true := by decide +kernel
set_option maxRecDepth 1000000 in
theorem ex_o31 : ex_fin (ex_run ex_mt ex_df 6 20000 1000000 20 true ex_law ex_en0 (ex_at0 1065)) = true := by decide +kernel
set_option maxRecDepth 1000000 in
theorem ex_o34 : ex_fin (ex_run ex_mt ex_df 6 20000 1000000 20 true ex_law ex_en0 (ex_at0 1164)) = true := by decide +kernel
set_option maxRecDepth 1000000 in
theorem ex_o35 : ex_fin (ex_run ex_mt ex_df 6 20000 1000000 20 true ex_law ex_en0 (ex_at0 1177)) = true := by decide +kernel
set_option maxRecDepth 1000000 in
theorem ex_o36 : ex_fin (ex_run ex_mt ex_df 6 20000 1000000 20 true ex_law ex_en0 (ex_at0 1190)) = true := by decide +kernel
set_option maxRecDepth 1000000 in
theorem ex_o37 : ex_fin (ex_run ex_mt ex_df 6 20000 1000000 20 true ex_law ex_en0 (ex_at0 1203)) = true := by decide +kernel
set_option maxRecDepth 1000000 in
theorem ex_o38 : ex_fin (ex_run ex_mt ex_df 6 20000 1000000 20 true ex_law ex_en0 (ex_at0 1226)) = true := by decide +kernel
set_option maxRecDepth 1000000 in
theorem ex_o40 : ex_fin (ex_run ex_mt ex_df 6 20000 1000000 20 true ex_law ex_en0 (ex_at0 1262)) = true := by decide +kernel
set_option maxRecDepth 1000000 in
theorem ex_o41 : ex_fin (ex_run ex_mt ex_df 6 20000 1000000 20 true ex_law ex_en0 (ex_at0 1295)) = true := by decide +kernel
set_option maxRecDepth 1000000 in
theorem ex_o42 : ex_fin (ex_run ex_mt ex_df 6 20000 1000000 20 true ex_law ex_en0 (ex_at0 1318)) = true := by decide +kernel
set_option maxRecDepth 1000000 in
theorem ex_o43 : ex_fin (ex_run ex_mt ex_df 6 20000 1000000 20 true ex_law ex_en0 (ex_at0 1377)) = true := by decide +kernel
set_option maxRecDepth 1000000 in
theorem ex_o44 : ex_fin (ex_run ex_mt ex_df 6 20000 1000000 20 true ex_law ex_en0 (ex_at0 1400)) = true := by decide +kernel
set_option maxRecDepth 1000000 in
theorem ex_o45 : ex_fin (ex_run ex_mt ex_df 6 20000 1000000 20 true ex_law ex_en0 (ex_at0 1423)) = true := by decide +kernel
set_option maxRecDepth 1000000 in
theorem ex_o46 : ex_fin (ex_run ex_mt ex_df 6 20000 1000000 20 true ex_law ex_en0 (ex_at0 1446)) = true := by decide +kernel
set_option maxRecDepth 1000000 in
theorem ex_o47 : ex_fin (ex_run ex_mt ex_df 6 20000 1000000 20 true ex_law ex_en0 (ex_at0 1479)) = true := by decide +kernel
set_option maxRecDepth 1000000 in
theorem ex_o48 : ex_fin (ex_run ex_mt ex_df 6 20000 1000000 20 true ex_law ex_en0 (ex_at0 1512)) = true := by decide +kernel
set_option maxRecDepth 1000000 in
theorem ex_o49 : ex_fin (ex_run ex_mt ex_df 6 20000 1000000 20 true ex_law ex_en0 (ex_at0 1535)) = true := by decide +kernel
set_option maxRecDepth 1000000 in
theorem ex_o50 : ex_fin (ex_run ex_mt ex_df 6 20000 1000000 20 true ex_law ex_en0 (ex_at0 1558)) = true := by decide +kernel
set_option maxRecDepth 1000000 in
theorem ex_o51 : ex_fin (ex_run ex_mt ex_df 6 20000 1000000 20 true ex_law ex_en0 (ex_at0 1581)) = true := by decide +kernel
