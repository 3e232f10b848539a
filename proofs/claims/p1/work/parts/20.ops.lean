set_option maxRecDepth 1000000 in
theorem ex_o0 : ex_fin (ex_run ex_mt ex_df 6 20000 1000000 20 true ex_law ex_en0 (ex_at0 252)) = true := by decide +kernel
set_option maxRecDepth 1000000 in
theorem ex_o34 : ex_fin (ex_run ex_mt ex_df 6 20000 1000000 20 true ex_law ex_en0 (ex_at0 1164)) = true := by decide +kernel
