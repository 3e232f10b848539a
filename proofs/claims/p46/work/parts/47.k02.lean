def ty_cn_68 : ty_Con := (25, [.inr (.inl (3, (.ofNat 3, []))), .inl (.inl (.ofNat 5, [])), .inl (.inl (.ofNat 7, []))], (0, [], []), [], [((1, [(0, .ofNat 0, .ofNat 1)], []), [.inl (.inl (.ofNat 0, [(0, .ofNat 1)]))], [])], [(3, some 1), (3, some 2), (3, some 6), (3, some 7), (3, some 10), (4, some 6), (9, some 3), (10, none), (11, none)], 2)
def ty_tn_68 : List ty_Tp := []
theorem ty_j_X3_readLevel : ty_mi 25 = some ty_i_X3_readLevel := (ex_nth_get _ _).trans rfl
set_option maxRecDepth 1000000 in
set_option maxHeartbeats 0 in
/-- X3_readLevel 5 7 -/
theorem ty_hn_68 {l : Launch} : ty_ConOk ty_mi l ty_cn_68 := ty_chk (mt := ty_mt) (cn := [ty_cn_67]) (f := 100000) (ts := ty_tn_68) (sp := none) (ty_run_ok ty_gw ty_hmt (ty_kc ty_hn_67 ty_k0) _) ty_j_X3_readLevel ty_f_X3_readLevel (by decide +kernel) (ty_every_t (by decide +kernel))
def ty_cn_69 : ty_Con := (25, [.inr (.inl (3, (.ofNat 3, []))), .inl (.inl (.ofNat 4, [])), .inl (.inl (.ofNat 7, []))], (0, [], []), [], [((1, [(0, .ofNat 0, .ofNat 1)], []), [.inl (.inl (.ofNat 0, [(0, .ofNat 1)]))], [])], [(3, some 1), (3, some 2), (3, some 6), (3, some 7), (3, some 10), (4, some 6), (9, some 3), (10, none), (11, none)], 3)
def ty_tn_69 : List ty_Tp := [(60, (1, [(0, .ofNat 0, .ofNat 1600)], []), [(0, .inr (.inl (3, (.ofNat 3, [])))), (1, .inl (.inl (.ofNat 4, []))), (2, .inl (.inl (.ofNat 7, []))), (3, .inl (.inl (.ofNat 1600, []))), (4, .inl (.inl (.ofNat 0, [(0, .ofNat 1)])))], [], [(.ofNat 0, []), (.ofNat 0, [(0, .negSucc 0)]), (.ofNat 0, [])])]
set_option maxRecDepth 1000000 in
set_option maxHeartbeats 0 in
/-- X3_readLevel 4 7 -/
theorem ty_hn_69 {l : Launch} : ty_ConOk ty_mi l ty_cn_69 := ty_chk (mt := ty_mt) (cn := [ty_cn_16, ty_cn_68]) (f := 100000) (ts := ty_tn_69) (sp := none) (ty_run_ok ty_gw ty_hmt (ty_kc ty_hn_16 (ty_kc ty_hn_68 ty_k0)) _) ty_j_X3_readLevel ty_f_X3_readLevel (by decide +kernel) (ty_every_t (by decide +kernel))
def ty_cn_70 : ty_Con := (25, [.inr (.inl (3, (.ofNat 3, []))), .inl (.inl (.ofNat 3, [])), .inl (.inl (.ofNat 7, []))], (0, [], []), [], [((1, [(0, .ofNat 0, .ofNat 1)], []), [.inl (.inl (.ofNat 0, [(0, .ofNat 1)]))], [])], [(3, some 1), (3, some 2), (3, some 6), (3, some 7), (3, some 10), (4, some 6), (9, some 3), (10, none), (11, none)], 4)
def ty_tn_70 : List ty_Tp := [(60, (1, [(0, .ofNat 0, .ofNat 1600)], []), [(0, .inr (.inl (3, (.ofNat 3, [])))), (1, .inl (.inl (.ofNat 3, []))), (2, .inl (.inl (.ofNat 7, []))), (3, .inl (.inl (.ofNat 1600, []))), (4, .inl (.inl (.ofNat 0, [(0, .ofNat 1)])))], [], [(.ofNat 0, []), (.ofNat 0, [(0, .negSucc 0)]), (.ofNat 0, [])])]
set_option maxRecDepth 1000000 in
set_option maxHeartbeats 0 in
/-- X3_readLevel 3 7 -/
theorem ty_hn_70 {l : Launch} : ty_ConOk ty_mi l ty_cn_70 := ty_chk (mt := ty_mt) (cn := [ty_cn_16, ty_cn_68, ty_cn_69]) (f := 100000) (ts := ty_tn_70) (sp := none) (ty_run_ok ty_gw ty_hmt (ty_kc ty_hn_16 (ty_kc ty_hn_68 (ty_kc ty_hn_69 ty_k0))) _) ty_j_X3_readLevel ty_f_X3_readLevel (by decide +kernel) (ty_every_t (by decide +kernel))
def ty_cn_71 : ty_Con := (25, [.inr (.inl (3, (.ofNat 3, []))), .inl (.inl (.ofNat 2, [])), .inl (.inl (.ofNat 7, []))], (0, [], []), [], [((1, [(0, .ofNat 0, .ofNat 1)], []), [.inl (.inl (.ofNat 0, [(0, .ofNat 1)]))], [])], [(3, some 1), (3, some 2), (3, some 6), (3, some 7), (3, some 10), (4, some 6), (9, some 3), (10, none), (11, none)], 5)
def ty_tn_71 : List ty_Tp := [(60, (1, [(0, .ofNat 0, .ofNat 1)], []), [(0, .inr (.inl (3, (.ofNat 3, [])))), (1, .inl (.inl (.ofNat 2, []))), (2, .inl (.inl (.ofNat 7, []))), (3, .inl (.inl (.ofNat 1, []))), (4, .inl (.inl (.ofNat 0, [(0, .ofNat 1)])))], [], [(.ofNat 0, []), (.ofNat 0, [(0, .negSucc 0)]), (.ofNat 0, [])])]
set_option maxRecDepth 1000000 in
set_option maxHeartbeats 0 in
/-- X3_readLevel 2 7 -/
theorem ty_hn_71 {l : Launch} : ty_ConOk ty_mi l ty_cn_71 := ty_chk (mt := ty_mt) (cn := [ty_cn_16, ty_cn_68, ty_cn_69, ty_cn_70]) (f := 100000) (ts := ty_tn_71) (sp := none) (ty_run_ok ty_gw ty_hmt (ty_kc ty_hn_16 (ty_kc ty_hn_68 (ty_kc ty_hn_69 (ty_kc ty_hn_70 ty_k0)))) _) ty_j_X3_readLevel ty_f_X3_readLevel (by decide +kernel) (ty_every_t (by decide +kernel))
def ty_cn_72 : ty_Con := (25, [.inr (.inl (3, (.ofNat 3, []))), .inl (.inl (.ofNat 1, [])), .inl (.inl (.ofNat 7, []))], (0, [], []), [], [((1, [(0, .ofNat 0, .ofNat 1)], []), [.inl (.inl (.ofNat 0, [(0, .ofNat 1)]))], [])], [(3, some 1), (3, some 2), (3, some 6), (3, some 7), (3, some 10), (4, some 6), (9, some 3), (10, none), (11, none)], 6)
def ty_tn_72 : List ty_Tp := [(60, (1, [(0, .ofNat 0, .ofNat 1600)], []), [(0, .inr (.inl (3, (.ofNat 3, [])))), (1, .inl (.inl (.ofNat 1, []))), (2, .inl (.inl (.ofNat 7, []))), (3, .inl (.inl (.ofNat 1600, []))), (4, .inl (.inl (.ofNat 0, [(0, .ofNat 1)])))], [], [(.ofNat 0, []), (.ofNat 0, [(0, .negSucc 0)]), (.ofNat 0, [])])]
set_option maxRecDepth 1000000 in
set_option maxHeartbeats 0 in
/-- X3_readLevel 1 7 -/
theorem ty_hn_72 {l : Launch} : ty_ConOk ty_mi l ty_cn_72 := ty_chk (mt := ty_mt) (cn := [ty_cn_16, ty_cn_68, ty_cn_69, ty_cn_70, ty_cn_71]) (f := 100000) (ts := ty_tn_72) (sp := none) (ty_run_ok ty_gw ty_hmt (ty_kc ty_hn_16 (ty_kc ty_hn_68 (ty_kc ty_hn_69 (ty_kc ty_hn_70 (ty_kc ty_hn_71 ty_k0))))) _) ty_j_X3_readLevel ty_f_X3_readLevel (by decide +kernel) (ty_every_t (by decide +kernel))
def ty_cn_73 : ty_Con := (25, [.inr (.inl (3, (.ofNat 3, []))), .inl (.inl (.ofNat 0, [])), .inl (.inl (.ofNat 7, []))], (0, [], []), [], [((1, [(0, .ofNat 0, .ofNat 1)], []), [.inl (.inl (.ofNat 0, [(0, .ofNat 1)]))], [])], [(3, some 1), (3, some 2), (3, some 6), (3, some 7), (3, some 10), (4, some 6), (9, some 3), (10, none), (11, none)], 7)
def ty_tn_73 : List ty_Tp := [(60, (1, [(0, .ofNat 0, .ofNat 1600)], []), [(0, .inr (.inl (3, (.ofNat 3, [])))), (1, .inl (.inl (.ofNat 0, []))), (2, .inl (.inl (.ofNat 7, []))), (3, .inl (.inl (.ofNat 1600, []))), (4, .inl (.inl (.ofNat 0, [(0, .ofNat 1)])))], [], [(.ofNat 0, []), (.ofNat 0, [(0, .negSucc 0)]), (.ofNat 0, [])])]
set_option maxRecDepth 1000000 in
set_option maxHeartbeats 0 in
/-- X3_readLevel 0 7 -/
theorem ty_hn_73 {l : Launch} : ty_ConOk ty_mi l ty_cn_73 := ty_chk (mt := ty_mt) (cn := [ty_cn_16, ty_cn_68, ty_cn_69, ty_cn_70, ty_cn_71, ty_cn_72]) (f := 100000) (ts := ty_tn_73) (sp := none) (ty_run_ok ty_gw ty_hmt (ty_kc ty_hn_16 (ty_kc ty_hn_68 (ty_kc ty_hn_69 (ty_kc ty_hn_70 (ty_kc ty_hn_71 (ty_kc ty_hn_72 ty_k0)))))) _) ty_j_X3_readLevel ty_f_X3_readLevel (by decide +kernel) (ty_every_t (by decide +kernel))
def ty_cn_74 : ty_Con := (27, [.inr (.inl (3, (.ofNat 3, []))), .inl (.inl (.ofNat 6, []))], (0, [], []), [], [((1, [(0, .ofNat 0, .ofNat 1)], []), [.inl (.inl (.ofNat 0, [(0, .ofNat 1)]))], [])], [(3, some 1), (3, some 2), (3, some 6), (3, some 7), (3, some 10), (4, some 6), (9, some 3), (10, none), (11, none)], 8)
def ty_tn_74 : List ty_Tp := []
set_option maxRecDepth 1000000 in
set_option maxHeartbeats 0 in
/-- X3_readUnit 6 -/
theorem ty_hn_74 {l : Launch} : ty_ConOk ty_mi l ty_cn_74 := ty_chk (mt := ty_mt) (cn := [ty_cn_16, ty_cn_68, ty_cn_69, ty_cn_70, ty_cn_71, ty_cn_72, ty_cn_73]) (f := 100000) (ts := ty_tn_74) (sp := none) (ty_run_ok ty_gw ty_hmt (ty_kc ty_hn_16 (ty_kc ty_hn_68 (ty_kc ty_hn_69 (ty_kc ty_hn_70 (ty_kc ty_hn_71 (ty_kc ty_hn_72 (ty_kc ty_hn_73 ty_k0))))))) _) ty_j_X3_readUnit ty_f_X3_readUnit (by decide +kernel) (ty_every_t (by decide +kernel))
def ty_cn_75 : ty_Con := (25, [.inr (.inl (3, (.ofNat 3, []))), .inl (.inl (.ofNat 5, [])), .inl (.inl (.ofNat 6, []))], (0, [], []), [], [((1, [(0, .ofNat 0, .ofNat 1)], []), [.inl (.inl (.ofNat 0, [(0, .ofNat 1)]))], [])], [(3, some 1), (3, some 2), (3, some 6), (3, some 7), (3, some 10), (4, some 6), (9, some 3), (10, none), (11, none)], 9)
def ty_tn_75 : List ty_Tp := []
set_option maxRecDepth 1000000 in
set_option maxHeartbeats 0 in
/-- X3_readLevel 5 6 -/
theorem ty_hn_75 {l : Launch} : ty_ConOk ty_mi l ty_cn_75 := ty_chk (mt := ty_mt) (cn := [ty_cn_67, ty_cn_74]) (f := 100000) (ts := ty_tn_75) (sp := none) (ty_run_ok ty_gw ty_hmt (ty_kc ty_hn_67 (ty_kc ty_hn_74 ty_k0)) _) ty_j_X3_readLevel ty_f_X3_readLevel (by decide +kernel) (ty_every_t (by decide +kernel))
def ty_cn_76 : ty_Con := (25, [.inr (.inl (3, (.ofNat 3, []))), .inl (.inl (.ofNat 4, [])), .inl (.inl (.ofNat 6, []))], (0, [], []), [], [((1, [(0, .ofNat 0, .ofNat 1)], []), [.inl (.inl (.ofNat 0, [(0, .ofNat 1)]))], [])], [(3, some 1), (3, some 2), (3, some 6), (3, some 7), (3, some 10), (4, some 6), (9, some 3), (10, none), (11, none)], 10)
def ty_tn_76 : List ty_Tp := [(60, (1, [(0, .ofNat 0, .ofNat 1600)], []), [(0, .inr (.inl (3, (.ofNat 3, [])))), (1, .inl (.inl (.ofNat 4, []))), (2, .inl (.inl (.ofNat 6, []))), (3, .inl (.inl (.ofNat 1600, []))), (4, .inl (.inl (.ofNat 0, [(0, .ofNat 1)])))], [], [(.ofNat 0, []), (.ofNat 0, [(0, .negSucc 0)]), (.ofNat 0, [])])]
set_option maxRecDepth 1000000 in
set_option maxHeartbeats 0 in
/-- X3_readLevel 4 6 -/
theorem ty_hn_76 {l : Launch} : ty_ConOk ty_mi l ty_cn_76 := ty_chk (mt := ty_mt) (cn := [ty_cn_16, ty_cn_68, ty_cn_69, ty_cn_70, ty_cn_71, ty_cn_72, ty_cn_73, ty_cn_75]) (f := 100000) (ts := ty_tn_76) (sp := none) (ty_run_ok ty_gw ty_hmt (ty_kc ty_hn_16 (ty_kc ty_hn_68 (ty_kc ty_hn_69 (ty_kc ty_hn_70 (ty_kc ty_hn_71 (ty_kc ty_hn_72 (ty_kc ty_hn_73 (ty_kc ty_hn_75 ty_k0)))))))) _) ty_j_X3_readLevel ty_f_X3_readLevel (by decide +kernel) (ty_every_t (by decide +kernel))
def ty_cn_77 : ty_Con := (25, [.inr (.inl (3, (.ofNat 3, []))), .inl (.inl (.ofNat 3, [])), .inl (.inl (.ofNat 6, []))], (0, [], []), [], [((1, [(0, .ofNat 0, .ofNat 1)], []), [.inl (.inl (.ofNat 0, [(0, .ofNat 1)]))], [])], [(3, some 1), (3, some 2), (3, some 6), (3, some 7), (3, some 10), (4, some 6), (9, some 3), (10, none), (11, none)], 11)
def ty_tn_77 : List ty_Tp := [(60, (1, [(0, .ofNat 0, .ofNat 1600)], []), [(0, .inr (.inl (3, (.ofNat 3, [])))), (1, .inl (.inl (.ofNat 3, []))), (2, .inl (.inl (.ofNat 6, []))), (3, .inl (.inl (.ofNat 1600, []))), (4, .inl (.inl (.ofNat 0, [(0, .ofNat 1)])))], [], [(.ofNat 0, []), (.ofNat 0, [(0, .negSucc 0)]), (.ofNat 0, [])])]
set_option maxRecDepth 1000000 in
set_option maxHeartbeats 0 in
/-- X3_readLevel 3 6 -/
theorem ty_hn_77 {l : Launch} : ty_ConOk ty_mi l ty_cn_77 := ty_chk (mt := ty_mt) (cn := [ty_cn_16, ty_cn_68, ty_cn_69, ty_cn_70, ty_cn_71, ty_cn_72, ty_cn_73, ty_cn_75, ty_cn_76]) (f := 100000) (ts := ty_tn_77) (sp := none) (ty_run_ok ty_gw ty_hmt (ty_kc ty_hn_16 (ty_kc ty_hn_68 (ty_kc ty_hn_69 (ty_kc ty_hn_70 (ty_kc ty_hn_71 (ty_kc ty_hn_72 (ty_kc ty_hn_73 (ty_kc ty_hn_75 (ty_kc ty_hn_76 ty_k0))))))))) _) ty_j_X3_readLevel ty_f_X3_readLevel (by decide +kernel) (ty_every_t (by decide +kernel))
def ty_cn_78 : ty_Con := (25, [.inr (.inl (3, (.ofNat 3, []))), .inl (.inl (.ofNat 2, [])), .inl (.inl (.ofNat 6, []))], (0, [], []), [], [((1, [(0, .ofNat 0, .ofNat 1)], []), [.inl (.inl (.ofNat 0, [(0, .ofNat 1)]))], [])], [(3, some 1), (3, some 2), (3, some 6), (3, some 7), (3, some 10), (4, some 6), (9, some 3), (10, none), (11, none)], 12)
def ty_tn_78 : List ty_Tp := [(60, (1, [(0, .ofNat 0, .ofNat 1)], []), [(0, .inr (.inl (3, (.ofNat 3, [])))), (1, .inl (.inl (.ofNat 2, []))), (2, .inl (.inl (.ofNat 6, []))), (3, .inl (.inl (.ofNat 1, []))), (4, .inl (.inl (.ofNat 0, [(0, .ofNat 1)])))], [], [(.ofNat 0, []), (.ofNat 0, [(0, .negSucc 0)]), (.ofNat 0, [])])]
set_option maxRecDepth 1000000 in
set_option maxHeartbeats 0 in
/-- X3_readLevel 2 6 -/
theorem ty_hn_78 {l : Launch} : ty_ConOk ty_mi l ty_cn_78 := ty_chk (mt := ty_mt) (cn := [ty_cn_16, ty_cn_68, ty_cn_69, ty_cn_70, ty_cn_71, ty_cn_72, ty_cn_73, ty_cn_75, ty_cn_76, ty_cn_77]) (f := 100000) (ts := ty_tn_78) (sp := none) (ty_run_ok ty_gw ty_hmt (ty_kc ty_hn_16 (ty_kc ty_hn_68 (ty_kc ty_hn_69 (ty_kc ty_hn_70 (ty_kc ty_hn_71 (ty_kc ty_hn_72 (ty_kc ty_hn_73 (ty_kc ty_hn_75 (ty_kc ty_hn_76 (ty_kc ty_hn_77 ty_k0)))))))))) _) ty_j_X3_readLevel ty_f_X3_readLevel (by decide +kernel) (ty_every_t (by decide +kernel))
