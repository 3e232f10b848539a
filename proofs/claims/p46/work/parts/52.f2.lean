set_option maxRecDepth 1000000 in
theorem ex_z5 : ex_every (ex_zb ex_mi) ((ex_zl.drop 5).take 1) = true := by decide +kernel
set_option maxRecDepth 1000000 in
theorem ex_z6 : ex_every (ex_zb ex_mi) ((ex_zl.drop 6).take 1) = true := by decide +kernel
set_option maxRecDepth 1000000 in
theorem ex_z7 : ex_every (ex_zb ex_mi) ((ex_zl.drop 7).take 1) = true := by decide +kernel
set_option maxRecDepth 1000000 in
theorem ex_z8 : ex_every (ex_zb ex_mi) ((ex_zl.drop 8).take 1) = true := by decide +kernel
set_option maxRecDepth 1000000 in
theorem ex_z9 : ex_every (ex_zb ex_mi) ((ex_zl.drop 9).take 1) = true := by decide +kernel
