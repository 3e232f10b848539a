set_option maxRecDepth 1000000 in
theorem t1 : ty_msb ty_i_J9_max_7cf53 2 (699, 128, 698, 0) = true := by decide +kernel
set_option maxRecDepth 1000000 in
theorem t2 : ty_pb ty_mi RJ9 "max" cJ9_max_7cf53 0 (some .int) (ty_p_J9_max_7cf53) = true := by decide +kernel
set_option maxRecDepth 1000000 in
theorem t3 : ex_wd 699 (Cond.code ty_i_J9_max_7cf53.1 ty_i_J9_max_7cf53.2.1 2 ty_i_J9_max_7cf53.2.2.1) = true := by decide +kernel
set_option maxRecDepth 1000000 in
theorem t4 : ex_wd 128 (Cond.initialized "java/lang/Math") = true := by decide +kernel
set_option maxRecDepth 1000000 in
theorem t5 : ex_wd 698 (Cond.static ty_i_J9_max_7cf53.1) = true := by decide +kernel
