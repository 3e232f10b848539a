set_option maxRecDepth 1000000 in
theorem ex_z20 : ex_every (ex_zb ex_mi) ((ex_zl.drop 20).take 1) = true := by decide +kernel
set_option maxRecDepth 1000000 in
theorem ex_z21 : ex_every (ex_zb ex_mi) ((ex_zl.drop 21).take 1) = true := by decide +kernel
set_option maxRecDepth 1000000 in
theorem ex_z22 : ex_every (ex_zb ex_mi) ((ex_zl.drop 22).take 1) = true := by decide +kernel
set_option maxRecDepth 1000000 in
theorem ex_z23 : ex_every (ex_zb ex_mi) ((ex_zl.drop 23).take 1) = true := by decide +kernel
set_option maxRecDepth 1000000 in
theorem ex_z24 : ex_every (ex_zb ex_mi) ((ex_zl.drop 24).take 1) = true := by decide +kernel
