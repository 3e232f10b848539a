def ty_cn_199 : ty_Con := (191, [.inr (.inl (54, (.ofNat 494, [])))], (0, [], []), [], [((1, [(0, .ofNat 0, .ofNat 255)], []), [.inl (.inl (.ofNat 0, [(0, .ofNat 1)]))], [])], [], 1)
def ty_tn_199 : List ty_Tp := [(4, (2, [(0, .ofNat 0, .ofNat 8), (1, .ofNat 0, .ofNat 255)], []), [(0, .inr (.inl (54, (.ofNat 494, [])))), (1, .inl (.inl (.ofNat 0, [(1, .ofNat 1)]))), (2, .inl (.inl (.ofNat 0, [(0, .ofNat 1)])))], [], [(.ofNat 0, []), (.ofNat 0, [(0, .negSucc 0)]), (.ofNat 0, [])])]
theorem ty_j_X10_thoseBy : ty_mi 191 = some ty_i_X10_thoseBy := (ex_nth_get _ _).trans rfl
set_option maxRecDepth 1000000 in
set_option maxHeartbeats 0 in
/-- X10_thoseBy -/
theorem ty_hn_199 {l : Launch} : ty_ConOk ty_mi l ty_cn_199 := ty_chk (mt := ty_mt) (cn := []) (f := 100000) (ts := ty_tn_199) (sp := none) (ty_run_ok ty_gw ty_hmt ty_k0 _) ty_j_X10_thoseBy ty_f_X10_thoseBy (by decide +kernel) (ty_every_t (by decide +kernel))
def ty_cn_200 : ty_Con := (192, [.inr (.inl (54, (.ofNat 494, []))), .inl (.inl (.ofNat 0, [(0, .ofNat 1)]))], (1, [(0, .negSucc 2147483647, .ofNat 2147483647)], []), [], [((2, [(1, .ofNat 0, .ofNat 255)], []), [.inl (.inl (.ofNat 0, [(1, .ofNat 1)]))], [])], [], 1)
def ty_tn_200 : List ty_Tp := [(4, (3, [(0, .negSucc 2147483647, .ofNat 2147483647), (1, .ofNat 0, .ofNat 255), (2, .ofNat 0, .ofNat 8)], []), [(0, .inr (.inl (54, (.ofNat 494, [])))), (1, .inl (.inl (.ofNat 0, [(0, .ofNat 1)]))), (2, .inl (.inl (.ofNat 0, [(1, .ofNat 1)]))), (3, .inl (.inl (.ofNat 0, [(2, .ofNat 1)])))], [], [(.ofNat 0, []), (.ofNat 0, [(2, .negSucc 0)]), (.ofNat 0, [])])]
theorem ty_j_X10_rowOf : ty_mi 192 = some ty_i_X10_rowOf := (ex_nth_get _ _).trans rfl
set_option maxRecDepth 1000000 in
set_option maxHeartbeats 0 in
/-- X10_rowOf -/
theorem ty_hn_200 {l : Launch} : ty_ConOk ty_mi l ty_cn_200 := ty_chk (mt := ty_mt) (cn := []) (f := 100000) (ts := ty_tn_200) (sp := none) (ty_run_ok ty_gw ty_hmt ty_k0 _) ty_j_X10_rowOf ty_f_X10_rowOf (by decide +kernel) (ty_every_t (by decide +kernel))
def ty_cn_201 : ty_Con := (193, [.inr (.inl (54, (.ofNat 494, []))), .inl (.inl (.ofNat 0, [(0, .ofNat 1)]))], (1, [(0, .ofNat 0, .ofNat 7)], []), [], [((2, [(1, .negSucc 2147483647, .ofNat 2147483647)], []), [.inl (.inl (.ofNat 0, [(1, .ofNat 1)]))], [])], [], 1)
def ty_tn_201 : List ty_Tp := [(4, (3, [(0, .ofNat 0, .ofNat 7), (1, .negSucc 2147483647, .ofNat 2147483647), (2, .ofNat 0, .ofNat 8)], []), [(0, .inr (.inl (54, (.ofNat 494, [])))), (1, .inl (.inl (.ofNat 0, [(0, .ofNat 1)]))), (2, .inl (.inl (.ofNat 0, [(1, .ofNat 1)]))), (3, .inl (.inl (.ofNat 0, [(2, .ofNat 1)])))], [], [(.ofNat 0, []), (.ofNat 0, [(2, .negSucc 0)]), (.ofNat 0, [])])]
theorem ty_j_X10_placeOf : ty_mi 193 = some ty_i_X10_placeOf := (ex_nth_get _ _).trans rfl
set_option maxRecDepth 1000000 in
set_option maxHeartbeats 0 in
/-- X10_placeOf -/
theorem ty_hn_201 {l : Launch} : ty_ConOk ty_mi l ty_cn_201 := ty_chk (mt := ty_mt) (cn := []) (f := 100000) (ts := ty_tn_201) (sp := none) (ty_run_ok ty_gw ty_hmt ty_k0 _) ty_j_X10_placeOf ty_f_X10_placeOf (by decide +kernel) (ty_every_t (by decide +kernel))
def ty_cn_202 : ty_Con := (194, [.inr (.inl (54, (.ofNat 494, []))), .inl (.inl (.ofNat 0, [(0, .ofNat 1)]))], (1, [(0, .negSucc 2147483647, .ofNat 2147483647)], []), [], [((2, [(1, .negSucc 0, .ofNat 7)], []), [.inl (.inl (.ofNat 0, [(1, .ofNat 1)]))], [])], [], 1)
def ty_tn_202 : List ty_Tp := [(4, (3, [(0, .negSucc 2147483647, .ofNat 2147483647), (1, .negSucc 0, .ofNat 7), (2, .ofNat 0, .ofNat 8)], []), [(0, .inr (.inl (54, (.ofNat 494, [])))), (1, .inl (.inl (.ofNat 0, [(0, .ofNat 1)]))), (2, .inl (.inl (.ofNat 0, [(1, .ofNat 1)]))), (3, .inl (.inl (.ofNat 0, [(2, .ofNat 1)])))], [], [(.ofNat 0, []), (.ofNat 0, [(2, .negSucc 0)]), (.ofNat 0, [])])]
theorem ty_j_X10_firstOf : ty_mi 194 = some ty_i_X10_firstOf := (ex_nth_get _ _).trans rfl
set_option maxRecDepth 1000000 in
set_option maxHeartbeats 0 in
/-- X10_firstOf -/
theorem ty_hn_202 {l : Launch} : ty_ConOk ty_mi l ty_cn_202 := ty_chk (mt := ty_mt) (cn := []) (f := 100000) (ts := ty_tn_202) (sp := none) (ty_run_ok ty_gw ty_hmt ty_k0 _) ty_j_X10_firstOf ty_f_X10_firstOf (by decide +kernel) (ty_every_t (by decide +kernel))
def ty_cn_203 : ty_Con := (196, [.inr (.inl (54, (.ofNat 494, []))), .inl (.inl (.ofNat 0, [(0, .ofNat 1)]))], (1, [(0, .negSucc 2147483647, .ofNat 2147483647)], []), [], [((2, [(1, .negSucc 2147483647, .ofNat 2147483647)], []), [.inl (.inl (.ofNat 0, [(1, .ofNat 1)]))], [])], [], 1)
def ty_tn_203 : List ty_Tp := [(4, (3, [(0, .negSucc 2147483647, .ofNat 2147483647), (1, .ofNat 0, .ofNat 8), (2, .negSucc 2147483647, .ofNat 2147483647)], []), [(0, .inr (.inl (54, (.ofNat 494, [])))), (1, .inl (.inl (.ofNat 0, [(0, .ofNat 1)]))), (2, .inl (.inl (.ofNat 0, [(2, .ofNat 1)]))), (3, .inl (.inl (.ofNat 0, [(1, .ofNat 1)])))], [], [(.ofNat 0, []), (.ofNat 0, [(1, .negSucc 0)]), (.ofNat 0, [])])]
theorem ty_j_X10_movedBy : ty_mi 196 = some ty_i_X10_movedBy := (ex_nth_get _ _).trans rfl
set_option maxRecDepth 1000000 in
set_option maxHeartbeats 0 in
/-- X10_movedBy -/
theorem ty_hn_203 {l : Launch} : ty_ConOk ty_mi l ty_cn_203 := ty_chk (mt := ty_mt) (cn := []) (f := 100000) (ts := ty_tn_203) (sp := none) (ty_run_ok ty_gw ty_hmt ty_k0 _) ty_j_X10_movedBy ty_f_X10_movedBy (by decide +kernel) (ty_every_t (by decide +kernel))
def ty_cn_204 : ty_Con := (197, [.inr (.inl (54, (.ofNat 494, []))), .inl (.inl (.ofNat 0, [(0, .ofNat 1)])), .inl (.inl (.ofNat 0, [(1, .ofNat 1)]))], (2, [(0, .ofNat 0, .ofNat 7), (1, .negSucc 2147483647, .ofNat 2147483647)], []), [], [((2, [], []), [], [])], [(54, some 39), (54, some 40), (54, some 41), (54, some 42)], 2)
def ty_tn_204 : List ty_Tp := []
theorem ty_j_X10_layAsked : ty_mi 197 = some ty_i_X10_layAsked := (ex_nth_get _ _).trans rfl
set_option maxRecDepth 1000000 in
set_option maxHeartbeats 0 in
/-- X10_layAsked -/
theorem ty_hn_204 {l : Launch} : ty_ConOk ty_mi l ty_cn_204 := ty_chk (mt := ty_mt) (cn := [ty_cn_162, ty_cn_163, ty_cn_200, ty_cn_201, ty_cn_203]) (f := 100000) (ts := ty_tn_204) (sp := none) (ty_run_ok ty_gw ty_hmt (ty_kc ty_hn_162 (ty_kc ty_hn_163 (ty_kc ty_hn_200 (ty_kc ty_hn_201 (ty_kc ty_hn_203 ty_k0))))) _) ty_j_X10_layAsked ty_f_X10_layAsked (by decide +kernel) (ty_every_t (by decide +kernel))
def ty_cn_205 : ty_Con := (190, [.inr (.inl (54, (.ofNat 494, [])))], (0, [], []), [], [((0, [], []), [], [])], [(79, none)], 1)
def ty_tn_205 : List ty_Tp := [(2, (1, [(0, .ofNat 0, .ofNat 46)], []), [(0, .inr (.inl (54, (.ofNat 494, [])))), (1, .inl (.inl (.ofNat 0, [(0, .ofNat 1)])))], [], [(.ofNat 2, []), (.ofNat 0, [(0, .negSucc 0)]), (.ofNat 0, [])]), (23, (1, [(0, .ofNat 0, .ofNat 8)], []), [(0, .inr (.inl (54, (.ofNat 494, [])))), (1, .inl (.inl (.ofNat 0, [(0, .ofNat 1)])))], [], [(.ofNat 1, []), (.ofNat 0, [(0, .negSucc 0)]), (.ofNat 0, [])]), (85, (3, [(0, .ofNat 0, .ofNat 1), (1, .ofNat 0, .ofNat 8), (2, .ofNat 0, .ofNat 8)], []), [(0, .inr (.inl (54, (.ofNat 494, [])))), (1, .inl (.inl (.ofNat 0, [(2, .ofNat 1)])))], [(54, (.ofNat 494, []), (.ofNat 33, []), .inl (.inl (.ofNat 0, [(0, .ofNat 1)]))), (59, (.ofNat 499, []), (.ofNat 0, [(0, .ofNat 1)]), .inl (.inl (.ofNat 0, [(1, .ofNat 1)])))], [(.ofNat 0, []), (.ofNat 0, [(2, .negSucc 0)]), (.ofNat 0, [])])]
theorem ty_j_X10_layTold : ty_mi 190 = some ty_i_X10_layTold := (ex_nth_get _ _).trans rfl
set_option maxRecDepth 1000000 in
set_option maxHeartbeats 0 in
/-- X10_layTold -/
theorem ty_hn_205 {l : Launch} : ty_ConOk ty_mi l ty_cn_205 := ty_chk (mt := ty_mt) (cn := []) (f := 100000) (ts := ty_tn_205) (sp := none) (ty_run_ok ty_gw ty_hmt ty_k0 _) ty_j_X10_layTold ty_f_X10_layTold (by decide +kernel) (ty_every_t (by decide +kernel))
def ty_cn_206 : ty_Con := (189, [.inr (.inl (54, (.ofNat 494, [])))], (0, [], []), [], [((0, [], []), [], [(54, (.ofNat 494, []), (.ofNat 48, []), .inl (.inl (.ofNat 0, []))), (54, (.ofNat 494, []), (.ofNat 49, []), .inl (.inl (.ofNat 0, [])))])], [(54, some 48), (54, some 49), (54, some 52), (54, some 64), (79, none), (92, none)], 2)
def ty_tn_206 : List ty_Tp := [(26, (1, [(0, .ofNat 0, .ofNat 3)], []), [(0, .inr (.inl (54, (.ofNat 494, [])))), (1, .inl (.inl (.ofNat 0, [(0, .ofNat 1)])))], [(54, (.ofNat 494, []), (.ofNat 48, []), .inl (.inl (.ofNat 0, []))), (54, (.ofNat 494, []), (.ofNat 49, []), .inl (.inl (.ofNat 0, []))), (54, (.ofNat 494, []), (.ofNat 64, []), .inl (.inl (.ofNat 0, []))), (54, (.ofNat 494, []), (.ofNat 52, []), .inl (.inl (.ofNat 0, [])))], [(.ofNat 0, []), (.ofNat 0, [(0, .negSucc 0)]), (.ofNat 0, [])])]
theorem ty_j_X10_startAnew : ty_mi 189 = some ty_i_X10_startAnew := (ex_nth_get _ _).trans rfl
set_option maxRecDepth 1000000 in
set_option maxHeartbeats 0 in
/-- X10_startAnew -/
theorem ty_hn_206 {l : Launch} : ty_ConOk ty_mi l ty_cn_206 := ty_chk (mt := ty_mt) (cn := [ty_cn_205]) (f := 100000) (ts := ty_tn_206) (sp := none) (ty_run_ok ty_gw ty_hmt (ty_kc ty_hn_205 ty_k0) _) ty_j_X10_startAnew ty_f_X10_startAnew (by decide +kernel) (ty_every_t (by decide +kernel))
def ty_cn_207 : ty_Con := (204, [.inr (.inl (54, (.ofNat 494, []))), .inl (.inl (.ofNat 0, [(0, .ofNat 1)]))], (1, [(0, .negSucc 2147483647, .ofNat 2147483647)], []), [], [((2, [(1, .ofNat 0, .ofNat 255)], []), [.inl (.inl (.ofNat 0, [(1, .ofNat 1)]))], [])], [], 1)
def ty_tn_207 : List ty_Tp := [(4, (3, [(0, .negSucc 2147483647, .ofNat 2147483647), (1, .ofNat 0, .ofNat 8), (2, .ofNat 0, .ofNat 255)], []), [(0, .inr (.inl (54, (.ofNat 494, [])))), (1, .inl (.inl (.ofNat 0, [(0, .ofNat 1)]))), (2, .inl (.inl (.ofNat 0, [(2, .ofNat 1)]))), (3, .inl (.inl (.ofNat 0, [(1, .ofNat 1)])))], [], [(.ofNat 0, []), (.ofNat 0, [(1, .negSucc 0)]), (.ofNat 0, [])])]
theorem ty_j_X10_sayers : ty_mi 204 = some ty_i_X10_sayers := (ex_nth_get _ _).trans rfl
set_option maxRecDepth 1000000 in
set_option maxHeartbeats 0 in
/-- X10_sayers -/
theorem ty_hn_207 {l : Launch} : ty_ConOk ty_mi l ty_cn_207 := ty_chk (mt := ty_mt) (cn := []) (f := 100000) (ts := ty_tn_207) (sp := none) (ty_run_ok ty_gw ty_hmt ty_k0 _) ty_j_X10_sayers ty_f_X10_sayers (by decide +kernel) (ty_every_t (by decide +kernel))
def ty_cn_208 : ty_Con := (173, [.inr (.inl (54, (.ofNat 494, []))), .inl (.inl (.ofNat 0, []))], (2, [(0, .ofNat 0, .ofNat 1120), (1, .ofNat 0, .ofNat 1120)], []), [(54, (.ofNat 494, []), (.ofNat 33, []), .inl (.inl (.ofNat 0, []))), (70, (.ofNat 510, []), (.ofNat 0, []), .inl (.inl (.ofNat 0, [(0, .ofNat 1)]))), (71, (.ofNat 511, []), (.ofNat 0, []), .inl (.inl (.ofNat 0, [(1, .ofNat 1)]))), (1004, (.ofNat 0, [(0, .ofNat 1)]), (.ofNat 0, [(1, .ofNat 1)]), .inr (.inr (.inr (.inr ()))))], [((3, [(2, .negSucc 2147483647, .ofNat 2147483647)], []), [.inl (.inl (.ofNat 0, [(2, .ofNat 1)]))], [])], [(78, none)], 1)
def ty_tn_208 : List ty_Tp := [(16, (4, [(0, .ofNat 0, .ofNat 1120), (1, .ofNat 0, .ofNat 1120), (2, .ofNat 0, .ofNat 30), (3, .ofNat 0, .ofNat 1120)], []), [(0, .inr (.inl (54, (.ofNat 494, [])))), (1, .inl (.inl (.ofNat 0, []))), (2, .inl (.inl (.ofNat 0, [(2, .ofNat 1)]))), (3, .inl (.inl (.ofNat 0, [(3, .ofNat 1)])))], [(54, (.ofNat 494, []), (.ofNat 33, []), .inl (.inl (.ofNat 0, []))), (70, (.ofNat 510, []), (.ofNat 0, []), .inl (.inl (.ofNat 0, [(0, .ofNat 1)]))), (71, (.ofNat 511, []), (.ofNat 0, []), .inl (.inl (.ofNat 0, [(1, .ofNat 1)]))), (1004, (.ofNat 0, [(0, .ofNat 1)]), (.ofNat 0, [(1, .ofNat 1)]), .inr (.inr (.inr (.inr ())))), (1001, (.ofNat 0, [(0, .ofNat 1)]), (.ofNat 0, [(3, .ofNat 1)]), .inl (.inl (.ofNat 0, [(2, .ofNat 1)])))], [(.ofNat 0, []), (.ofNat 0, [(3, .negSucc 0)]), (.ofNat 0, [])])]
theorem ty_j_X10_comes : ty_mi 173 = some ty_i_X10_comes := (ex_nth_get _ _).trans rfl
set_option maxRecDepth 1000000 in
set_option maxHeartbeats 0 in
/-- X10_comes 0 0 -/
theorem ty_hn_208 {l : Launch} : ty_ConOk ty_mi l ty_cn_208 := ty_chk (mt := ty_mt) (cn := []) (f := 100000) (ts := ty_tn_208) (sp := none) (ty_run_ok ty_gw ty_hmt ty_k0 _) ty_j_X10_comes ty_f_X10_comes (by decide +kernel) (ty_every_t (by decide +kernel))
