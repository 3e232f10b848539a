set_option maxRecDepth 1000000 in
theorem ex_z15 : ex_every (ex_zb ex_mi) ((ex_zl.drop 15).take 1) = true := by decide +kernel
set_option maxRecDepth 1000000 in
theorem ex_z16 : ex_every (ex_zb ex_mi) ((ex_zl.drop 16).take 1) = true := by decide +kernel
set_option maxRecDepth 1000000 in
theorem ex_z17 : ex_every (ex_zb ex_mi) ((ex_zl.drop 17).take 1) = true := by decide +kernel
set_option maxRecDepth 1000000 in
theorem ex_z18 : ex_every (ex_zb ex_mi) ((ex_zl.drop 18).take 1) = true := by decide +kernel
set_option maxRecDepth 1000000 in
theorem ex_z19 : ex_every (ex_zb ex_mi) ((ex_zl.drop 19).take 1) = true := by decide +kernel
