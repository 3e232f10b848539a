def ty_c64 : ty_Con := (25, [.inr (.inl (3, (.ofNat 3, []))), .inl (.inl (.ofNat 5, [])), .inl (.inl (.ofNat 7, []))], (0, [], []), [], [((1, [(0, .ofNat 0, .ofNat 1)], []), [.inl (.inl (.ofNat 0, [(0, .ofNat 1)]))], [])], [(3, some 1), (3, some 2), (3, some 6), (3, some 7), (3, some 10), (4, some 6), (9, some 3), (10, none), (11, none)], 2)
def ty_t64 : List ty_Tp := []
theorem ty_j_X3_readLevel : ty_mi 25 = some ty_i_X3_readLevel := (ex_nth_get _ _).trans rfl
set_option maxRecDepth 1000000 in
set_option maxHeartbeats 0 in
/-- X3_readLevel 5 7 -/
theorem ty_h64 {l : Launch} : ty_ConOk ty_mi l ty_c64 := ty_chk (mt := ty_mt) (cn := [ty_c63]) (f := 100000) (ts := ty_t64) (ty_run_ok ty_gw ty_hmt (ty_kc ty_h63 ty_k0) _) ty_j_X3_readLevel ty_f_X3_readLevel (by decide +kernel) (ty_every_t (by decide +kernel))
def ty_c65 : ty_Con := (25, [.inr (.inl (3, (.ofNat 3, []))), .inl (.inl (.ofNat 4, [])), .inl (.inl (.ofNat 7, []))], (0, [], []), [], [((1, [(0, .ofNat 0, .ofNat 1)], []), [.inl (.inl (.ofNat 0, [(0, .ofNat 1)]))], [])], [(3, some 1), (3, some 2), (3, some 6), (3, some 7), (3, some 10), (4, some 6), (9, some 3), (10, none), (11, none)], 3)
def ty_t65 : List ty_Tp := [(60, (1, [(0, .ofNat 0, .ofNat 1600)], []), [(0, .inr (.inl (3, (.ofNat 3, [])))), (1, .inl (.inl (.ofNat 4, []))), (2, .inl (.inl (.ofNat 7, []))), (3, .inl (.inl (.ofNat 1600, []))), (4, .inl (.inl (.ofNat 0, [(0, .ofNat 1)])))], [], [(.ofNat 0, []), (.ofNat 0, [(0, .negSucc 0)]), (.ofNat 0, [])])]
set_option maxRecDepth 1000000 in
set_option maxHeartbeats 0 in
/-- X3_readLevel 4 7 -/
theorem ty_h65 {l : Launch} : ty_ConOk ty_mi l ty_c65 := ty_chk (mt := ty_mt) (cn := [ty_c16, ty_c64]) (f := 100000) (ts := ty_t65) (ty_run_ok ty_gw ty_hmt (ty_kc ty_h16 (ty_kc ty_h64 ty_k0)) _) ty_j_X3_readLevel ty_f_X3_readLevel (by decide +kernel) (ty_every_t (by decide +kernel))
def ty_c66 : ty_Con := (25, [.inr (.inl (3, (.ofNat 3, []))), .inl (.inl (.ofNat 3, [])), .inl (.inl (.ofNat 7, []))], (0, [], []), [], [((1, [(0, .ofNat 0, .ofNat 1)], []), [.inl (.inl (.ofNat 0, [(0, .ofNat 1)]))], [])], [(3, some 1), (3, some 2), (3, some 6), (3, some 7), (3, some 10), (4, some 6), (9, some 3), (10, none), (11, none)], 4)
def ty_t66 : List ty_Tp := [(60, (1, [(0, .ofNat 0, .ofNat 1600)], []), [(0, .inr (.inl (3, (.ofNat 3, [])))), (1, .inl (.inl (.ofNat 3, []))), (2, .inl (.inl (.ofNat 7, []))), (3, .inl (.inl (.ofNat 1600, []))), (4, .inl (.inl (.ofNat 0, [(0, .ofNat 1)])))], [], [(.ofNat 0, []), (.ofNat 0, [(0, .negSucc 0)]), (.ofNat 0, [])])]
set_option maxRecDepth 1000000 in
set_option maxHeartbeats 0 in
/-- X3_readLevel 3 7 -/
theorem ty_h66 {l : Launch} : ty_ConOk ty_mi l ty_c66 := ty_chk (mt := ty_mt) (cn := [ty_c16, ty_c64, ty_c65]) (f := 100000) (ts := ty_t66) (ty_run_ok ty_gw ty_hmt (ty_kc ty_h16 (ty_kc ty_h64 (ty_kc ty_h65 ty_k0))) _) ty_j_X3_readLevel ty_f_X3_readLevel (by decide +kernel) (ty_every_t (by decide +kernel))
def ty_c67 : ty_Con := (25, [.inr (.inl (3, (.ofNat 3, []))), .inl (.inl (.ofNat 2, [])), .inl (.inl (.ofNat 7, []))], (0, [], []), [], [((1, [(0, .ofNat 0, .ofNat 1)], []), [.inl (.inl (.ofNat 0, [(0, .ofNat 1)]))], [])], [(3, some 1), (3, some 2), (3, some 6), (3, some 7), (3, some 10), (4, some 6), (9, some 3), (10, none), (11, none)], 5)
def ty_t67 : List ty_Tp := [(60, (1, [(0, .ofNat 0, .ofNat 1)], []), [(0, .inr (.inl (3, (.ofNat 3, [])))), (1, .inl (.inl (.ofNat 2, []))), (2, .inl (.inl (.ofNat 7, []))), (3, .inl (.inl (.ofNat 1, []))), (4, .inl (.inl (.ofNat 0, [(0, .ofNat 1)])))], [], [(.ofNat 0, []), (.ofNat 0, [(0, .negSucc 0)]), (.ofNat 0, [])])]
set_option maxRecDepth 1000000 in
set_option maxHeartbeats 0 in
/-- X3_readLevel 2 7 -/
theorem ty_h67 {l : Launch} : ty_ConOk ty_mi l ty_c67 := ty_chk (mt := ty_mt) (cn := [ty_c16, ty_c64, ty_c65, ty_c66]) (f := 100000) (ts := ty_t67) (ty_run_ok ty_gw ty_hmt (ty_kc ty_h16 (ty_kc ty_h64 (ty_kc ty_h65 (ty_kc ty_h66 ty_k0)))) _) ty_j_X3_readLevel ty_f_X3_readLevel (by decide +kernel) (ty_every_t (by decide +kernel))
def ty_c68 : ty_Con := (25, [.inr (.inl (3, (.ofNat 3, []))), .inl (.inl (.ofNat 1, [])), .inl (.inl (.ofNat 7, []))], (0, [], []), [], [((1, [(0, .ofNat 0, .ofNat 1)], []), [.inl (.inl (.ofNat 0, [(0, .ofNat 1)]))], [])], [(3, some 1), (3, some 2), (3, some 6), (3, some 7), (3, some 10), (4, some 6), (9, some 3), (10, none), (11, none)], 6)
def ty_t68 : List ty_Tp := [(60, (1, [(0, .ofNat 0, .ofNat 1600)], []), [(0, .inr (.inl (3, (.ofNat 3, [])))), (1, .inl (.inl (.ofNat 1, []))), (2, .inl (.inl (.ofNat 7, []))), (3, .inl (.inl (.ofNat 1600, []))), (4, .inl (.inl (.ofNat 0, [(0, .ofNat 1)])))], [], [(.ofNat 0, []), (.ofNat 0, [(0, .negSucc 0)]), (.ofNat 0, [])])]
set_option maxRecDepth 1000000 in
set_option maxHeartbeats 0 in
/-- X3_readLevel 1 7 -/
theorem ty_h68 {l : Launch} : ty_ConOk ty_mi l ty_c68 := ty_chk (mt := ty_mt) (cn := [ty_c16, ty_c64, ty_c65, ty_c66, ty_c67]) (f := 100000) (ts := ty_t68) (ty_run_ok ty_gw ty_hmt (ty_kc ty_h16 (ty_kc ty_h64 (ty_kc ty_h65 (ty_kc ty_h66 (ty_kc ty_h67 ty_k0))))) _) ty_j_X3_readLevel ty_f_X3_readLevel (by decide +kernel) (ty_every_t (by decide +kernel))
def ty_c69 : ty_Con := (25, [.inr (.inl (3, (.ofNat 3, []))), .inl (.inl (.ofNat 0, [])), .inl (.inl (.ofNat 7, []))], (0, [], []), [], [((1, [(0, .ofNat 0, .ofNat 1)], []), [.inl (.inl (.ofNat 0, [(0, .ofNat 1)]))], [])], [(3, some 1), (3, some 2), (3, some 6), (3, some 7), (3, some 10), (4, some 6), (9, some 3), (10, none), (11, none)], 7)
def ty_t69 : List ty_Tp := [(60, (1, [(0, .ofNat 0, .ofNat 1600)], []), [(0, .inr (.inl (3, (.ofNat 3, [])))), (1, .inl (.inl (.ofNat 0, []))), (2, .inl (.inl (.ofNat 7, []))), (3, .inl (.inl (.ofNat 1600, []))), (4, .inl (.inl (.ofNat 0, [(0, .ofNat 1)])))], [], [(.ofNat 0, []), (.ofNat 0, [(0, .negSucc 0)]), (.ofNat 0, [])])]
set_option maxRecDepth 1000000 in
set_option maxHeartbeats 0 in
/-- X3_readLevel 0 7 -/
theorem ty_h69 {l : Launch} : ty_ConOk ty_mi l ty_c69 := ty_chk (mt := ty_mt) (cn := [ty_c16, ty_c64, ty_c65, ty_c66, ty_c67, ty_c68]) (f := 100000) (ts := ty_t69) (ty_run_ok ty_gw ty_hmt (ty_kc ty_h16 (ty_kc ty_h64 (ty_kc ty_h65 (ty_kc ty_h66 (ty_kc ty_h67 (ty_kc ty_h68 ty_k0)))))) _) ty_j_X3_readLevel ty_f_X3_readLevel (by decide +kernel) (ty_every_t (by decide +kernel))
def ty_c70 : ty_Con := (27, [.inr (.inl (3, (.ofNat 3, []))), .inl (.inl (.ofNat 6, []))], (0, [], []), [], [((1, [(0, .ofNat 0, .ofNat 1)], []), [.inl (.inl (.ofNat 0, [(0, .ofNat 1)]))], [])], [(3, some 1), (3, some 2), (3, some 6), (3, some 7), (3, some 10), (4, some 6), (9, some 3), (10, none), (11, none)], 8)
def ty_t70 : List ty_Tp := []
set_option maxRecDepth 1000000 in
set_option maxHeartbeats 0 in
/-- X3_readUnit 6 -/
theorem ty_h70 {l : Launch} : ty_ConOk ty_mi l ty_c70 := ty_chk (mt := ty_mt) (cn := [ty_c16, ty_c64, ty_c65, ty_c66, ty_c67, ty_c68, ty_c69]) (f := 100000) (ts := ty_t70) (ty_run_ok ty_gw ty_hmt (ty_kc ty_h16 (ty_kc ty_h64 (ty_kc ty_h65 (ty_kc ty_h66 (ty_kc ty_h67 (ty_kc ty_h68 (ty_kc ty_h69 ty_k0))))))) _) ty_j_X3_readUnit ty_f_X3_readUnit (by decide +kernel) (ty_every_t (by decide +kernel))
def ty_c71 : ty_Con := (25, [.inr (.inl (3, (.ofNat 3, []))), .inl (.inl (.ofNat 5, [])), .inl (.inl (.ofNat 6, []))], (0, [], []), [], [((1, [(0, .ofNat 0, .ofNat 1)], []), [.inl (.inl (.ofNat 0, [(0, .ofNat 1)]))], [])], [(3, some 1), (3, some 2), (3, some 6), (3, some 7), (3, some 10), (4, some 6), (9, some 3), (10, none), (11, none)], 9)
def ty_t71 : List ty_Tp := []
set_option maxRecDepth 1000000 in
set_option maxHeartbeats 0 in
/-- X3_readLevel 5 6 -/
theorem ty_h71 {l : Launch} : ty_ConOk ty_mi l ty_c71 := ty_chk (mt := ty_mt) (cn := [ty_c63, ty_c70]) (f := 100000) (ts := ty_t71) (ty_run_ok ty_gw ty_hmt (ty_kc ty_h63 (ty_kc ty_h70 ty_k0)) _) ty_j_X3_readLevel ty_f_X3_readLevel (by decide +kernel) (ty_every_t (by decide +kernel))
def ty_c72 : ty_Con := (25, [.inr (.inl (3, (.ofNat 3, []))), .inl (.inl (.ofNat 4, [])), .inl (.inl (.ofNat 6, []))], (0, [], []), [], [((1, [(0, .ofNat 0, .ofNat 1)], []), [.inl (.inl (.ofNat 0, [(0, .ofNat 1)]))], [])], [(3, some 1), (3, some 2), (3, some 6), (3, some 7), (3, some 10), (4, some 6), (9, some 3), (10, none), (11, none)], 10)
def ty_t72 : List ty_Tp := [(60, (1, [(0, .ofNat 0, .ofNat 1600)], []), [(0, .inr (.inl (3, (.ofNat 3, [])))), (1, .inl (.inl (.ofNat 4, []))), (2, .inl (.inl (.ofNat 6, []))), (3, .inl (.inl (.ofNat 1600, []))), (4, .inl (.inl (.ofNat 0, [(0, .ofNat 1)])))], [], [(.ofNat 0, []), (.ofNat 0, [(0, .negSucc 0)]), (.ofNat 0, [])])]
set_option maxRecDepth 1000000 in
set_option maxHeartbeats 0 in
/-- X3_readLevel 4 6 -/
theorem ty_h72 {l : Launch} : ty_ConOk ty_mi l ty_c72 := ty_chk (mt := ty_mt) (cn := [ty_c16, ty_c64, ty_c65, ty_c66, ty_c67, ty_c68, ty_c69, ty_c71]) (f := 100000) (ts := ty_t72) (ty_run_ok ty_gw ty_hmt (ty_kc ty_h16 (ty_kc ty_h64 (ty_kc ty_h65 (ty_kc ty_h66 (ty_kc ty_h67 (ty_kc ty_h68 (ty_kc ty_h69 (ty_kc ty_h71 ty_k0)))))))) _) ty_j_X3_readLevel ty_f_X3_readLevel (by decide +kernel) (ty_every_t (by decide +kernel))
def ty_c73 : ty_Con := (25, [.inr (.inl (3, (.ofNat 3, []))), .inl (.inl (.ofNat 3, [])), .inl (.inl (.ofNat 6, []))], (0, [], []), [], [((1, [(0, .ofNat 0, .ofNat 1)], []), [.inl (.inl (.ofNat 0, [(0, .ofNat 1)]))], [])], [(3, some 1), (3, some 2), (3, some 6), (3, some 7), (3, some 10), (4, some 6), (9, some 3), (10, none), (11, none)], 11)
def ty_t73 : List ty_Tp := [(60, (1, [(0, .ofNat 0, .ofNat 1600)], []), [(0, .inr (.inl (3, (.ofNat 3, [])))), (1, .inl (.inl (.ofNat 3, []))), (2, .inl (.inl (.ofNat 6, []))), (3, .inl (.inl (.ofNat 1600, []))), (4, .inl (.inl (.ofNat 0, [(0, .ofNat 1)])))], [], [(.ofNat 0, []), (.ofNat 0, [(0, .negSucc 0)]), (.ofNat 0, [])])]
set_option maxRecDepth 1000000 in
set_option maxHeartbeats 0 in
/-- X3_readLevel 3 6 -/
theorem ty_h73 {l : Launch} : ty_ConOk ty_mi l ty_c73 := ty_chk (mt := ty_mt) (cn := [ty_c16, ty_c64, ty_c65, ty_c66, ty_c67, ty_c68, ty_c69, ty_c71, ty_c72]) (f := 100000) (ts := ty_t73) (ty_run_ok ty_gw ty_hmt (ty_kc ty_h16 (ty_kc ty_h64 (ty_kc ty_h65 (ty_kc ty_h66 (ty_kc ty_h67 (ty_kc ty_h68 (ty_kc ty_h69 (ty_kc ty_h71 (ty_kc ty_h72 ty_k0))))))))) _) ty_j_X3_readLevel ty_f_X3_readLevel (by decide +kernel) (ty_every_t (by decide +kernel))
def ty_c74 : ty_Con := (25, [.inr (.inl (3, (.ofNat 3, []))), .inl (.inl (.ofNat 2, [])), .inl (.inl (.ofNat 6, []))], (0, [], []), [], [((1, [(0, .ofNat 0, .ofNat 1)], []), [.inl (.inl (.ofNat 0, [(0, .ofNat 1)]))], [])], [(3, some 1), (3, some 2), (3, some 6), (3, some 7), (3, some 10), (4, some 6), (9, some 3), (10, none), (11, none)], 12)
def ty_t74 : List ty_Tp := [(60, (1, [(0, .ofNat 0, .ofNat 1)], []), [(0, .inr (.inl (3, (.ofNat 3, [])))), (1, .inl (.inl (.ofNat 2, []))), (2, .inl (.inl (.ofNat 6, []))), (3, .inl (.inl (.ofNat 1, []))), (4, .inl (.inl (.ofNat 0, [(0, .ofNat 1)])))], [], [(.ofNat 0, []), (.ofNat 0, [(0, .negSucc 0)]), (.ofNat 0, [])])]
set_option maxRecDepth 1000000 in
set_option maxHeartbeats 0 in
/-- X3_readLevel 2 6 -/
theorem ty_h74 {l : Launch} : ty_ConOk ty_mi l ty_c74 := ty_chk (mt := ty_mt) (cn := [ty_c16, ty_c64, ty_c65, ty_c66, ty_c67, ty_c68, ty_c69, ty_c71, ty_c72, ty_c73]) (f := 100000) (ts := ty_t74) (ty_run_ok ty_gw ty_hmt (ty_kc ty_h16 (ty_kc ty_h64 (ty_kc ty_h65 (ty_kc ty_h66 (ty_kc ty_h67 (ty_kc ty_h68 (ty_kc ty_h69 (ty_kc ty_h71 (ty_kc ty_h72 (ty_kc ty_h73 ty_k0)))))))))) _) ty_j_X3_readLevel ty_f_X3_readLevel (by decide +kernel) (ty_every_t (by decide +kernel))
