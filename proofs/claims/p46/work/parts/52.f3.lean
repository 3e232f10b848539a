set_option maxRecDepth 1000000 in
theorem ex_z10 : ex_every (ex_zb ex_mi) ((ex_zl.drop 10).take 1) = true := by decide +kernel
set_option maxRecDepth 1000000 in
theorem ex_z11 : ex_every (ex_zb ex_mi) ((ex_zl.drop 11).take 1) = true := by decide +kernel
set_option maxRecDepth 1000000 in
theorem ex_z12 : ex_every (ex_zb ex_mi) ((ex_zl.drop 12).take 1) = true := by decide +kernel
set_option maxRecDepth 1000000 in
theorem ex_z13 : ex_every (ex_zb ex_mi) ((ex_zl.drop 13).take 1) = true := by decide +kernel
set_option maxRecDepth 1000000 in
theorem ex_z14 : ex_every (ex_zb ex_mi) ((ex_zl.drop 14).take 1) = true := by decide +kernel
