set_option maxRecDepth 1000000 in
theorem ex_z0 : ex_every (ex_zb ex_mi) ((ex_zl.drop 0).take 1) = true := by decide +kernel
set_option maxRecDepth 1000000 in
theorem ex_z1 : ex_every (ex_zb ex_mi) ((ex_zl.drop 1).take 1) = true := by decide +kernel
set_option maxRecDepth 1000000 in
theorem ex_z2 : ex_every (ex_zb ex_mi) ((ex_zl.drop 2).take 1) = true := by decide +kernel
set_option maxRecDepth 1000000 in
theorem ex_z3 : ex_every (ex_zb ex_mi) ((ex_zl.drop 3).take 1) = true := by decide +kernel
set_option maxRecDepth 1000000 in
theorem ex_z4 : ex_every (ex_zb ex_mi) ((ex_zl.drop 4).take 1) = true := by decide +kernel
