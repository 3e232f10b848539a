def ty_c121 : ty_Con := (12, [.inr (.inl (3, (.ofNat 3, []))), .inr (.inl (1, (.ofNat 1, [])))], (0, [], []), [], [((0, [], []), [.inl (.inl (.ofNat 0, []))], []), ((1, [(0, .ofNat 1, .ofNat 4)], []), [.inl (.inl (.ofNat 1, []))], [(4, (.ofNat 4, []), (.ofNat 0, []), .inl (.inl (.ofNat 0, [(0, .ofNat 1)])))])], [(3, some 1), (3, some 2), (3, some 6), (3, some 7), (3, some 8), (3, some 9), (3, some 10), (3, some 11), (4, some 0), (4, some 1), (4, some 2), (4, some 3), (4, some 4), (4, some 5), (4, some 6), (5, none), (6, none), (7, none), (8, none), (9, some 3), (10, none), (11, none), (13, some 3), (14, none), (15, none), (16, none), (17, none), (18, none)], 59)
def ty_t121 : List ty_Tp := [(50, (2, [(0, .ofNat 0, .ofNat 1600), (1, .ofNat 1, .ofNat 4)], []), [(0, .inr (.inl (3, (.ofNat 3, [])))), (1, .inr (.inl (1, (.ofNat 1, [])))), (2, .inl (.inl (.ofNat 0, [(0, .ofNat 1)])))], [(4, (.ofNat 4, []), (.ofNat 0, []), .inl (.inl (.ofNat 0, [(1, .ofNat 1)])))], [(.ofNat 0, []), (.ofNat 0, [(0, .negSucc 0)]), (.ofNat 0, [])])]
theorem ty_j_X3_read : ty_mi 12 = some ty_i_X3_read := (ex_nth_get _ _).trans rfl
set_option maxRecDepth 1000000 in
set_option maxHeartbeats 0 in
/-- X3_read -/
theorem ty_h121 {l : Launch} : ty_ConOk ty_mi l ty_c121 := ty_chk (mt := ty_mt) (cn := [ty_c18, ty_c60, ty_c120]) (f := 100000) (ts := ty_t121) (ty_run_ok ty_gw ty_hmt (ty_kc ty_h18 (ty_kc ty_h60 (ty_kc ty_h120 ty_k0))) _) ty_j_X3_read ty_f_X3_read (by decide +kernel) (ty_every_t (by decide +kernel))
def ty_c122 : ty_Con := (67, [.inr (.inl (0, (.ofNat 0, []))), .inl (.inl (.ofNat 0, [(0, .ofNat 1)])), .inl (.inl (.ofNat 0, [(1, .ofNat 1)])), .inl (.inl (.ofNat 0, [(2, .ofNat 1)])), .inl (.inl (.ofNat 0, [(3, .ofNat 1)])), .inl (.inl (.ofNat 0, [(4, .ofNat 1)]))], (5, [(0, .negSucc 2147483647, .ofNat 2147483647), (1, .negSucc 2147483647, .ofNat 2147483647), (2, .negSucc 2147483647, .ofNat 2147483647), (3, .negSucc 2147483647, .ofNat 2147483647), (4, .negSucc 2147483647, .ofNat 2147483647)], []), [], [((6, [(5, .negSucc 0, .ofNat 1600)], []), [.inl (.inl (.ofNat 0, [(5, .ofNat 1)]))], [])], [(1, some 1), (2, none)], 1)
def ty_t122 : List ty_Tp := []
theorem ty_j_X9_feed : ty_mi 67 = some ty_i_X9_feed := (ex_nth_get _ _).trans rfl
set_option maxRecDepth 1000000 in
set_option maxHeartbeats 0 in
/-- X9_feed -/
theorem ty_h122 {l : Launch} : ty_ConOk ty_mi l ty_c122 := ty_chk (mt := ty_mt) (cn := [ty_c55]) (f := 100000) (ts := ty_t122) (ty_run_ok ty_gw ty_hmt (ty_kc ty_h55 ty_k0) _) ty_j_X9_feed ty_f_X9_feed (by decide +kernel) (ty_every_t (by decide +kernel))
def ty_c123 : ty_Con := (68, [.inr (.inl (0, (.ofNat 0, []))), .inl (.inl (.ofNat 0, [(0, .ofNat 1)]))], (1, [(0, .negSucc 2147483647, .ofNat 2147483647)], []), [], [((2, [(1, .negSucc 0, .ofNat 1600)], []), [.inl (.inl (.ofNat 0, [(1, .ofNat 1)]))], [])], [(1, some 1)], 0)
def ty_t123 : List ty_Tp := []
theorem ty_j_X9_end : ty_mi 68 = some ty_i_X9_end := (ex_nth_get _ _).trans rfl
set_option maxRecDepth 1000000 in
set_option maxHeartbeats 0 in
/-- X9_end -/
theorem ty_h123 {l : Launch} : ty_ConOk ty_mi l ty_c123 := ty_chk (mt := ty_mt) (cn := []) (f := 100000) (ts := ty_t123) (ty_run_ok ty_gw ty_hmt ty_k0 _) ty_j_X9_end ty_f_X9_end (by decide +kernel) (ty_every_t (by decide +kernel))
def ty_c124 : ty_Con := (69, [.inr (.inl (0, (.ofNat 0, [])))], (2, [(0, .ofNat 0, .ofNat 40), (1, .ofNat 0, .ofNat 40)], [(.ofNat 0, [(0, .ofNat 1), (1, .negSucc 0)])]), [(37, (.ofNat 53, []), (.ofNat 0, []), .inl (.inl (.ofNat 0, [(0, .ofNat 1)]))), (37, (.ofNat 53, []), (.ofNat 1, []), .inl (.inl (.ofNat 0, [(1, .ofNat 1)])))], [((5, [(2, .ofNat 0, .ofNat 40), (3, .ofNat 0, .ofNat 40), (4, .negSucc 0, .ofNat 8)], [(.ofNat 0, [(2, .ofNat 1), (3, .negSucc 0)])]), [.inl (.inl (.ofNat 0, [(4, .ofNat 1)]))], [(37, (.ofNat 53, []), (.ofNat 0, []), .inl (.inl (.ofNat 0, [(2, .ofNat 1)]))), (37, (.ofNat 53, []), (.ofNat 1, []), .inl (.inl (.ofNat 0, [(3, .ofNat 1)])))])], [(0, some 13), (1, some 1), (3, some 1), (3, some 2), (3, some 6), (3, some 7), (3, some 8), (3, some 9), (3, some 10), (3, some 11), (4, some 0), (4, some 1), (4, some 2), (4, some 3), (4, some 4), (4, some 5), (4, some 6), (5, none), (6, none), (7, none), (8, none), (9, some 3), (10, none), (11, none), (13, some 3), (14, none), (15, none), (16, none), (17, none), (18, none), (19, some 0), (19, some 1), (19, some 2), (19, some 3), (19, some 4), (19, some 5), (19, some 6), (20, none), (21, none), (22, none), (23, none), (24, some 3), (25, none), (26, none), (28, some 6), (28, some 7), (28, some 8), (28, some 9), (28, some 10), (29, none), (30, none), (31, none), (32, none), (33, none), (34, none), (37, some 0), (37, some 1), (37, some 3), (40, none), (41, some 0), (41, some 11)], 60)
def ty_t124 : List ty_Tp := []
theorem ty_j_X9_crossing : ty_mi 69 = some ty_i_X9_crossing := (ex_nth_get _ _).trans rfl
set_option maxRecDepth 1000000 in
set_option maxHeartbeats 0 in
/-- X9_crossing -/
theorem ty_h124 {l : Launch} : ty_ConOk ty_mi l ty_c124 := ty_chk (mt := ty_mt) (cn := [ty_c17, ty_c23, ty_c121]) (f := 100000) (ts := ty_t124) (ty_run_ok ty_gw ty_hmt (ty_kc ty_h17 (ty_kc ty_h23 (ty_kc ty_h121 ty_k0))) _) ty_j_X9_crossing ty_f_X9_crossing (by decide +kernel) (ty_every_t (by decide +kernel))
def ty_c125 : ty_Con := (70, [.inr (.inl (0, (.ofNat 0, []))), .inl (.inl (.ofNat 0, [(0, .ofNat 1)]))], (1, [(0, .negSucc 2147483647, .ofNat 2147483647)], []), [], [((2, [(1, .negSucc 2147483647, .ofNat 2147483647)], []), [.inl (.inl (.ofNat 0, [(1, .ofNat 1)]))], [])], [], 0)
def ty_t125 : List ty_Tp := []
theorem ty_j_X9_fault : ty_mi 70 = some ty_i_X9_fault := (ex_nth_get _ _).trans rfl
set_option maxRecDepth 1000000 in
set_option maxHeartbeats 0 in
/-- X9_fault -/
theorem ty_h125 {l : Launch} : ty_ConOk ty_mi l ty_c125 := ty_chk (mt := ty_mt) (cn := []) (f := 100000) (ts := ty_t125) (ty_run_ok ty_gw ty_hmt ty_k0 _) ty_j_X9_fault ty_f_X9_fault (by decide +kernel) (ty_every_t (by decide +kernel))
def ty_c126 : ty_Con := (72, [.inr (.inl (0, (.ofNat 0, []))), .inl (.inl (.ofNat 0, [(0, .ofNat 1)])), .inl (.inl (.ofNat 0, [(1, .ofNat 1)]))], (2, [(0, .negSucc 2147483647, .ofNat 2147483647), (1, .negSucc 2147483647, .ofNat 2147483647)], []), [], [((3, [(2, .negSucc 2147483647, .ofNat 2147483647)], []), [.inl (.inl (.ofNat 0, [(2, .ofNat 1)]))], [])], [], 1)
def ty_t126 : List ty_Tp := []
theorem ty_j_X9_word : ty_mi 72 = some ty_i_X9_word := (ex_nth_get _ _).trans rfl
set_option maxRecDepth 1000000 in
set_option maxHeartbeats 0 in
/-- X9_word -/
theorem ty_h126 {l : Launch} : ty_ConOk ty_mi l ty_c126 := ty_chk (mt := ty_mt) (cn := [ty_c8]) (f := 100000) (ts := ty_t126) (ty_run_ok ty_gw ty_hmt (ty_kc ty_h8 ty_k0) _) ty_j_X9_word ty_f_X9_word (by decide +kernel) (ty_every_t (by decide +kernel))
def ty_c127 : ty_Con := (73, [.inr (.inl (0, (.ofNat 0, []))), .inl (.inl (.ofNat 0, [(0, .ofNat 1)])), .inl (.inl (.ofNat 0, [(1, .ofNat 1)]))], (2, [(0, .negSucc 2147483647, .ofNat 2147483647), (1, .negSucc 2147483647, .ofNat 2147483647)], []), [], [((3, [(2, .negSucc 2147483647, .ofNat 2147483647)], []), [.inl (.inl (.ofNat 0, [(2, .ofNat 1)]))], [])], [], 1)
def ty_t127 : List ty_Tp := []
theorem ty_j_X9_comer : ty_mi 73 = some ty_i_X9_comer := (ex_nth_get _ _).trans rfl
set_option maxRecDepth 1000000 in
set_option maxHeartbeats 0 in
/-- X9_comer -/
theorem ty_h127 {l : Launch} : ty_ConOk ty_mi l ty_c127 := ty_chk (mt := ty_mt) (cn := []) (f := 100000) (ts := ty_t127) (ty_run_ok ty_gw ty_hmt ty_k0 _) ty_j_X9_comer ty_f_X9_comer (by decide +kernel) (ty_every_t (by decide +kernel))
def ty_c128 : ty_Con := (74, [.inr (.inl (0, (.ofNat 0, []))), .inl (.inl (.ofNat 0, [(0, .ofNat 1)]))], (1, [(0, .negSucc 2147483647, .ofNat 2147483647)], []), [], [((2, [(1, .negSucc 2147483647, .ofNat 2147483647)], []), [.inl (.inl (.ofNat 0, [(1, .ofNat 1)]))], [])], [(27, none), (35, some 0), (35, some 1), (35, some 2), (35, some 3), (35, some 4), (35, some 5)], 3)
def ty_t128 : List ty_Tp := []
theorem ty_j_X9_worth : ty_mi 74 = some ty_i_X9_worth := (ex_nth_get _ _).trans rfl
set_option maxRecDepth 1000000 in
set_option maxHeartbeats 0 in
/-- X9_worth -/
theorem ty_h128 {l : Launch} : ty_ConOk ty_mi l ty_c128 := ty_chk (mt := ty_mt) (cn := [ty_c4, ty_c6]) (f := 100000) (ts := ty_t128) (ty_run_ok ty_gw ty_hmt (ty_kc ty_h4 (ty_kc ty_h6 ty_k0)) _) ty_j_X9_worth ty_f_X9_worth (by decide +kernel) (ty_every_t (by decide +kernel))
def ty_c129 : ty_Con := (75, [.inr (.inl (0, (.ofNat 0, []))), .inl (.inl (.ofNat 0, [(0, .ofNat 1)]))], (1, [(0, .negSucc 2147483647, .ofNat 2147483647)], []), [], [((2, [(1, .negSucc 0, .ofNat 999)], []), [.inl (.inl (.ofNat 0, [(1, .ofNat 1)]))], [])], [(27, none), (35, some 0), (35, some 1), (35, some 2), (35, some 3), (35, some 4), (35, some 5)], 3)
def ty_t129 : List ty_Tp := []
theorem ty_j_X9_keeps : ty_mi 75 = some ty_i_X9_keeps := (ex_nth_get _ _).trans rfl
set_option maxRecDepth 1000000 in
set_option maxHeartbeats 0 in
/-- X9_keeps -/
theorem ty_h129 {l : Launch} : ty_ConOk ty_mi l ty_c129 := ty_chk (mt := ty_mt) (cn := [ty_c4, ty_c6]) (f := 100000) (ts := ty_t129) (ty_run_ok ty_gw ty_hmt (ty_kc ty_h4 (ty_kc ty_h6 ty_k0)) _) ty_j_X9_keeps ty_f_X9_keeps (by decide +kernel) (ty_every_t (by decide +kernel))
def ty_c130 : ty_Con := (76, [.inr (.inl (0, (.ofNat 0, []))), .inl (.inl (.ofNat 0, [(0, .ofNat 1)]))], (1, [(0, .negSucc 2147483647, .ofNat 2147483647)], []), [], [((2, [(1, .negSucc 2147483647, .ofNat 2147483647)], []), [.inl (.inl (.ofNat 0, [(1, .ofNat 1)]))], [])], [], 1)
def ty_t130 : List ty_Tp := []
theorem ty_j_X9_row : ty_mi 76 = some ty_i_X9_row := (ex_nth_get _ _).trans rfl
set_option maxRecDepth 1000000 in
set_option maxHeartbeats 0 in
/-- X9_row -/
theorem ty_h130 {l : Launch} : ty_ConOk ty_mi l ty_c130 := ty_chk (mt := ty_mt) (cn := []) (f := 100000) (ts := ty_t130) (ty_run_ok ty_gw ty_hmt ty_k0 _) ty_j_X9_row ty_f_X9_row (by decide +kernel) (ty_every_t (by decide +kernel))
def ty_c131 : ty_Con := (89, [.inr (.inl (0, (.ofNat 0, [])))], (2, [(0, .ofNat 0, .ofNat 40), (1, .ofNat 0, .ofNat 40)], [(.ofNat 0, [(0, .ofNat 1), (1, .negSucc 0)])]), [(37, (.ofNat 53, []), (.ofNat 0, []), .inl (.inl (.ofNat 0, [(0, .ofNat 1)]))), (37, (.ofNat 53, []), (.ofNat 1, []), .inl (.inl (.ofNat 0, [(1, .ofNat 1)])))], [((5, [(2, .ofNat 0, .ofNat 40), (3, .ofNat 0, .ofNat 40), (4, .negSucc 1, .ofNat 7)], [(.ofNat 0, [(2, .ofNat 1), (3, .negSucc 0)])]), [.inl (.inl (.ofNat 0, [(4, .ofNat 1)]))], [(37, (.ofNat 53, []), (.ofNat 0, []), .inl (.inl (.ofNat 0, [(2, .ofNat 1)]))), (37, (.ofNat 53, []), (.ofNat 1, []), .inl (.inl (.ofNat 0, [(3, .ofNat 1)])))])], [(27, none), (28, some 6), (28, some 7), (28, some 8), (28, some 9), (28, some 10), (29, none), (30, none), (31, none), (32, none), (33, none), (34, none), (35, some 0), (35, some 1), (35, some 2), (35, some 3), (35, some 4), (35, some 5), (37, some 0), (37, some 1), (37, some 3)], 5)
def ty_t131 : List ty_Tp := []
theorem ty_j_X9_hatch : ty_mi 89 = some ty_i_X9_hatch := (ex_nth_get _ _).trans rfl
set_option maxRecDepth 1000000 in
set_option maxHeartbeats 0 in
/-- X9_hatch -/
theorem ty_h131 {l : Launch} : ty_ConOk ty_mi l ty_c131 := ty_chk (mt := ty_mt) (cn := [ty_c12, ty_c15]) (f := 100000) (ts := ty_t131) (ty_run_ok ty_gw ty_hmt (ty_kc ty_h12 (ty_kc ty_h15 ty_k0)) _) ty_j_X9_hatch ty_f_X9_hatch (by decide +kernel) (ty_every_t (by decide +kernel))
def ty_c132 : ty_Con := (90, [.inr (.inl (0, (.ofNat 0, []))), .inl (.inl (.ofNat 0, [(0, .ofNat 1)]))], (3, [(0, .negSucc 2147483647, .ofNat 2147483647), (1, .ofNat 0, .ofNat 40), (2, .ofNat 0, .ofNat 40)], [(.ofNat 0, [(1, .ofNat 1), (2, .negSucc 0)])]), [(37, (.ofNat 53, []), (.ofNat 0, []), .inl (.inl (.ofNat 0, [(1, .ofNat 1)]))), (37, (.ofNat 53, []), (.ofNat 1, []), .inl (.inl (.ofNat 0, [(2, .ofNat 1)])))], [((6, [(3, .ofNat 0, .ofNat 40), (4, .ofNat 0, .ofNat 40), (5, .negSucc 1, .ofNat 7)], [(.ofNat 0, [(3, .ofNat 1), (4, .negSucc 0)])]), [.inl (.inl (.ofNat 0, [(5, .ofNat 1)]))], [(37, (.ofNat 53, []), (.ofNat 0, []), .inl (.inl (.ofNat 0, [(3, .ofNat 1)]))), (37, (.ofNat 53, []), (.ofNat 1, []), .inl (.inl (.ofNat 0, [(4, .ofNat 1)])))])], [(27, none), (28, some 6), (28, some 7), (28, some 8), (28, some 9), (28, some 10), (29, none), (30, none), (31, none), (32, none), (33, none), (34, none), (35, some 0), (35, some 1), (35, some 2), (35, some 3), (35, some 4), (35, some 5), (37, some 0), (37, some 1), (37, some 3)], 5)
def ty_t132 : List ty_Tp := []
theorem ty_j_X9_open : ty_mi 90 = some ty_i_X9_open := (ex_nth_get _ _).trans rfl
set_option maxRecDepth 1000000 in
set_option maxHeartbeats 0 in
/-- X9_open -/
theorem ty_h132 {l : Launch} : ty_ConOk ty_mi l ty_c132 := ty_chk (mt := ty_mt) (cn := [ty_c12, ty_c15]) (f := 100000) (ts := ty_t132) (ty_run_ok ty_gw ty_hmt (ty_kc ty_h12 (ty_kc ty_h15 ty_k0)) _) ty_j_X9_open ty_f_X9_open (by decide +kernel) (ty_every_t (by decide +kernel))
def ty_c133 : ty_Con := (92, [.inr (.inl (0, (.ofNat 0, []))), .inl (.inl (.ofNat 0, [(0, .ofNat 1)])), .inl (.inl (.ofNat 0, [(1, .ofNat 1)]))], (4, [(0, .negSucc 2147483647, .ofNat 2147483647), (1, .negSucc 2147483647, .ofNat 2147483647), (2, .ofNat 0, .ofNat 40), (3, .ofNat 0, .ofNat 40)], [(.ofNat 0, [(2, .ofNat 1), (3, .negSucc 0)])]), [(37, (.ofNat 53, []), (.ofNat 0, []), .inl (.inl (.ofNat 0, [(2, .ofNat 1)]))), (37, (.ofNat 53, []), (.ofNat 1, []), .inl (.inl (.ofNat 0, [(3, .ofNat 1)])))], [((7, [(4, .ofNat 0, .ofNat 40), (5, .ofNat 0, .ofNat 40), (6, .negSucc 2147483647, .ofNat 2147483647)], [(.ofNat 0, [(4, .ofNat 1), (5, .negSucc 0)])]), [.inl (.inl (.ofNat 0, [(6, .ofNat 1)]))], [(37, (.ofNat 53, []), (.ofNat 0, []), .inl (.inl (.ofNat 0, [(4, .ofNat 1)]))), (37, (.ofNat 53, []), (.ofNat 1, []), .inl (.inl (.ofNat 0, [(5, .ofNat 1)])))])], [(27, none), (28, some 6), (28, some 7), (28, some 8), (28, some 9), (28, some 10), (29, none), (30, none), (31, none), (32, none), (33, none), (34, none), (35, some 0), (35, some 1), (35, some 2), (35, some 3), (35, some 4), (35, some 5), (37, some 0), (37, some 1), (37, some 3)], 3)
def ty_t133 : List ty_Tp := []
theorem ty_j_X9_rehearse : ty_mi 92 = some ty_i_X9_rehearse := (ex_nth_get _ _).trans rfl
set_option maxRecDepth 1000000 in
set_option maxHeartbeats 0 in
/-- X9_rehearse -/
theorem ty_h133 {l : Launch} : ty_ConOk ty_mi l ty_c133 := ty_chk (mt := ty_mt) (cn := [ty_c3, ty_c4, ty_c6, ty_c15]) (f := 100000) (ts := ty_t133) (ty_run_ok ty_gw ty_hmt (ty_kc ty_h3 (ty_kc ty_h4 (ty_kc ty_h6 (ty_kc ty_h15 ty_k0)))) _) ty_j_X9_rehearse ty_f_X9_rehearse (by decide +kernel) (ty_every_t (by decide +kernel))
def ty_c134 : ty_Con := (94, [.inr (.inl (0, (.ofNat 0, []))), .inl (.inl (.ofNat 0, [(0, .ofNat 1)])), .inl (.inl (.ofNat 0, [(1, .ofNat 1)]))], (4, [(0, .negSucc 2147483647, .ofNat 2147483647), (1, .negSucc 2147483647, .ofNat 2147483647), (2, .ofNat 0, .ofNat 40), (3, .ofNat 0, .ofNat 40)], [(.ofNat 0, [(2, .ofNat 1), (3, .negSucc 0)])]), [(37, (.ofNat 53, []), (.ofNat 0, []), .inl (.inl (.ofNat 0, [(2, .ofNat 1)]))), (37, (.ofNat 53, []), (.ofNat 1, []), .inl (.inl (.ofNat 0, [(3, .ofNat 1)])))], [((7, [(4, .ofNat 0, .ofNat 40), (5, .ofNat 0, .ofNat 40), (6, .negSucc 2147483647, .ofNat 2147483647)], [(.ofNat 0, [(4, .ofNat 1), (5, .negSucc 0)])]), [.inl (.inl (.ofNat 0, [(6, .ofNat 1)]))], [(37, (.ofNat 53, []), (.ofNat 0, []), .inl (.inl (.ofNat 0, [(4, .ofNat 1)]))), (37, (.ofNat 53, []), (.ofNat 1, []), .inl (.inl (.ofNat 0, [(5, .ofNat 1)])))])], [(28, some 6), (28, some 7), (28, some 8), (28, some 9), (28, some 10), (29, none), (30, none), (31, none), (32, none), (33, none), (34, none), (37, some 0), (37, some 1), (37, some 3)], 2)
def ty_t134 : List ty_Tp := []
theorem ty_j_X9_turn : ty_mi 94 = some ty_i_X9_turn := (ex_nth_get _ _).trans rfl
set_option maxRecDepth 1000000 in
set_option maxHeartbeats 0 in
/-- X9_turn -/
theorem ty_h134 {l : Launch} : ty_ConOk ty_mi l ty_c134 := ty_chk (mt := ty_mt) (cn := [ty_c5, ty_c15]) (f := 100000) (ts := ty_t134) (ty_run_ok ty_gw ty_hmt (ty_kc ty_h5 (ty_kc ty_h15 ty_k0)) _) ty_j_X9_turn ty_f_X9_turn (by decide +kernel) (ty_every_t (by decide +kernel))
def ty_c135 : ty_Con := (95, [.inr (.inl (0, (.ofNat 0, []))), .inl (.inl (.ofNat 0, [(0, .ofNat 1)]))], (3, [(0, .negSucc 2147483647, .ofNat 2147483647), (1, .ofNat 0, .ofNat 40), (2, .ofNat 0, .ofNat 40)], [(.ofNat 0, [(1, .ofNat 1), (2, .negSucc 0)])]), [(37, (.ofNat 53, []), (.ofNat 0, []), .inl (.inl (.ofNat 0, [(1, .ofNat 1)]))), (37, (.ofNat 53, []), (.ofNat 1, []), .inl (.inl (.ofNat 0, [(2, .ofNat 1)])))], [((6, [(3, .ofNat 0, .ofNat 40), (4, .ofNat 0, .ofNat 40), (5, .negSucc 2147483647, .ofNat 2147483647)], [(.ofNat 0, [(3, .ofNat 1), (4, .negSucc 0)])]), [.inl (.inl (.ofNat 0, [(5, .ofNat 1)]))], [(37, (.ofNat 53, []), (.ofNat 0, []), .inl (.inl (.ofNat 0, [(3, .ofNat 1)]))), (37, (.ofNat 53, []), (.ofNat 1, []), .inl (.inl (.ofNat 0, [(4, .ofNat 1)])))])], [(28, some 6), (28, some 7), (28, some 8), (28, some 9), (28, some 10), (29, none), (30, none), (31, none), (32, none), (33, none), (34, none), (37, some 0), (37, some 1), (37, some 3)], 2)
def ty_t135 : List ty_Tp := []
theorem ty_j_X9_revive : ty_mi 95 = some ty_i_X9_revive := (ex_nth_get _ _).trans rfl
set_option maxRecDepth 1000000 in
set_option maxHeartbeats 0 in
/-- X9_revive -/
theorem ty_h135 {l : Launch} : ty_ConOk ty_mi l ty_c135 := ty_chk (mt := ty_mt) (cn := [ty_c15]) (f := 100000) (ts := ty_t135) (ty_run_ok ty_gw ty_hmt (ty_kc ty_h15 ty_k0) _) ty_j_X9_revive ty_f_X9_revive (by decide +kernel) (ty_every_t (by decide +kernel))
def ty_c136 : ty_Con := (96, [.inr (.inl (0, (.ofNat 0, []))), .inl (.inl (.ofNat 0, [(0, .ofNat 1)]))], (3, [(0, .negSucc 2147483647, .ofNat 2147483647), (1, .ofNat 0, .ofNat 40), (2, .ofNat 0, .ofNat 40)], [(.ofNat 0, [(1, .ofNat 1), (2, .negSucc 0)])]), [(37, (.ofNat 53, []), (.ofNat 0, []), .inl (.inl (.ofNat 0, [(1, .ofNat 1)]))), (37, (.ofNat 53, []), (.ofNat 1, []), .inl (.inl (.ofNat 0, [(2, .ofNat 1)])))], [((6, [(3, .ofNat 0, .ofNat 40), (4, .ofNat 0, .ofNat 40), (5, .negSucc 2147483647, .ofNat 2147483647)], [(.ofNat 0, [(3, .ofNat 1), (4, .negSucc 0)])]), [.inl (.inl (.ofNat 0, [(5, .ofNat 1)]))], [(37, (.ofNat 53, []), (.ofNat 0, []), .inl (.inl (.ofNat 0, [(3, .ofNat 1)]))), (37, (.ofNat 53, []), (.ofNat 1, []), .inl (.inl (.ofNat 0, [(4, .ofNat 1)])))])], [(28, some 6), (28, some 7), (28, some 8), (28, some 9), (28, some 10), (29, none), (30, none), (31, none), (32, none), (33, none), (34, none), (37, some 0), (37, some 1), (37, some 3)], 2)
def ty_t136 : List ty_Tp := []
theorem ty_j_X9_humour : ty_mi 96 = some ty_i_X9_humour := (ex_nth_get _ _).trans rfl
set_option maxRecDepth 1000000 in
set_option maxHeartbeats 0 in
/-- X9_humour -/
theorem ty_h136 {l : Launch} : ty_ConOk ty_mi l ty_c136 := ty_chk (mt := ty_mt) (cn := [ty_c15]) (f := 100000) (ts := ty_t136) (ty_run_ok ty_gw ty_hmt (ty_kc ty_h15 ty_k0) _) ty_j_X9_humour ty_f_X9_humour (by decide +kernel) (ty_every_t (by decide +kernel))
def ty_c137 : ty_Con := (97, [.inr (.inl (0, (.ofNat 0, [])))], (2, [(0, .ofNat 0, .ofNat 40), (1, .ofNat 0, .ofNat 40)], [(.ofNat 0, [(0, .ofNat 1), (1, .negSucc 0)])]), [(37, (.ofNat 53, []), (.ofNat 0, []), .inl (.inl (.ofNat 0, [(0, .ofNat 1)]))), (37, (.ofNat 53, []), (.ofNat 1, []), .inl (.inl (.ofNat 0, [(1, .ofNat 1)])))], [((5, [(2, .ofNat 0, .ofNat 40), (3, .ofNat 0, .ofNat 40), (4, .ofNat 0, .ofNat 1)], [(.ofNat 0, [(2, .ofNat 1), (3, .negSucc 0)])]), [.inl (.inl (.ofNat 0, [(4, .ofNat 1)]))], [(37, (.ofNat 53, []), (.ofNat 0, []), .inl (.inl (.ofNat 0, [(2, .ofNat 1)]))), (37, (.ofNat 53, []), (.ofNat 1, []), .inl (.inl (.ofNat 0, [(3, .ofNat 1)])))])], [(28, some 6), (28, some 7), (28, some 8), (28, some 9), (28, some 10), (29, none), (30, none), (31, none), (32, none), (33, none), (34, none), (37, some 0)], 2)
def ty_t137 : List ty_Tp := []
theorem ty_j_X9_undo : ty_mi 97 = some ty_i_X9_undo := (ex_nth_get _ _).trans rfl
set_option maxRecDepth 1000000 in
set_option maxHeartbeats 0 in
/-- X9_undo -/
theorem ty_h137 {l : Launch} : ty_ConOk ty_mi l ty_c137 := ty_chk (mt := ty_mt) (cn := [ty_c13]) (f := 100000) (ts := ty_t137) (ty_run_ok ty_gw ty_hmt (ty_kc ty_h13 ty_k0) _) ty_j_X9_undo ty_f_X9_undo (by decide +kernel) (ty_every_t (by decide +kernel))
def ty_c138 : ty_Con := (98, [.inr (.inl (0, (.ofNat 0, [])))], (2, [(0, .ofNat 0, .ofNat 40), (1, .ofNat 0, .ofNat 40)], [(.ofNat 0, [(0, .ofNat 1), (1, .negSucc 0)])]), [(37, (.ofNat 53, []), (.ofNat 0, []), .inl (.inl (.ofNat 0, [(0, .ofNat 1)]))), (37, (.ofNat 53, []), (.ofNat 1, []), .inl (.inl (.ofNat 0, [(1, .ofNat 1)])))], [((5, [(2, .ofNat 0, .ofNat 40), (3, .ofNat 0, .ofNat 40), (4, .ofNat 0, .ofNat 1)], [(.ofNat 0, [(2, .ofNat 1), (3, .negSucc 0)])]), [.inl (.inl (.ofNat 0, [(4, .ofNat 1)]))], [(37, (.ofNat 53, []), (.ofNat 0, []), .inl (.inl (.ofNat 0, [(2, .ofNat 1)]))), (37, (.ofNat 53, []), (.ofNat 1, []), .inl (.inl (.ofNat 0, [(3, .ofNat 1)])))])], [(28, some 6), (28, some 7), (28, some 8), (28, some 9), (28, some 10), (29, none), (30, none), (31, none), (32, none), (33, none), (34, none), (37, some 0)], 2)
def ty_t138 : List ty_Tp := []
theorem ty_j_X9_redo : ty_mi 98 = some ty_i_X9_redo := (ex_nth_get _ _).trans rfl
set_option maxRecDepth 1000000 in
set_option maxHeartbeats 0 in
/-- X9_redo -/
theorem ty_h138 {l : Launch} : ty_ConOk ty_mi l ty_c138 := ty_chk (mt := ty_mt) (cn := [ty_c13]) (f := 100000) (ts := ty_t138) (ty_run_ok ty_gw ty_hmt (ty_kc ty_h13 ty_k0) _) ty_j_X9_redo ty_f_X9_redo (by decide +kernel) (ty_every_t (by decide +kernel))
def ty_c139 : ty_Con := (102, [.inr (.inl (0, (.ofNat 0, []))), .inl (.inl (.ofNat 0, [(0, .ofNat 1)]))], (1, [(0, .negSucc 2147483647, .ofNat 2147483647)], []), [], [((2, [(1, .negSucc 0, .ofNat 60)], []), [.inl (.inl (.ofNat 0, [(1, .ofNat 1)]))], [])], [(27, none), (28, some 6), (28, some 7), (28, some 8), (28, some 9), (28, some 10), (29, none), (30, none), (31, none), (32, none), (33, none), (34, none), (35, some 0), (35, some 1), (35, some 2), (35, some 3), (35, some 4), (35, some 5)], 5)
def ty_t139 : List ty_Tp := []
theorem ty_j_X9_when : ty_mi 102 = some ty_i_X9_when := (ex_nth_get _ _).trans rfl
set_option maxRecDepth 1000000 in
set_option maxHeartbeats 0 in
/-- X9_when -/
theorem ty_h139 {l : Launch} : ty_ConOk ty_mi l ty_c139 := ty_chk (mt := ty_mt) (cn := [ty_c13, ty_c27]) (f := 100000) (ts := ty_t139) (ty_run_ok ty_gw ty_hmt (ty_kc ty_h13 (ty_kc ty_h27 ty_k0)) _) ty_j_X9_when ty_f_X9_when (by decide +kernel) (ty_every_t (by decide +kernel))
def ty_c140 : ty_Con := (105, [.inr (.inl (0, (.ofNat 0, []))), .inl (.inl (.ofNat 0, [(0, .ofNat 1)]))], (1, [(0, .negSucc 2147483647, .ofNat 2147483647)], []), [], [((2, [(1, .negSucc 2147483647, .ofNat 2147483647)], []), [.inl (.inl (.ofNat 0, [(1, .ofNat 1)]))], [])], [(27, none), (28, some 6), (28, some 7), (28, some 8), (28, some 9), (28, some 10), (29, none), (30, none), (31, none), (32, none), (33, none), (34, none), (35, some 0), (35, some 1), (35, some 2), (35, some 3), (35, some 4), (35, some 5)], 5)
def ty_t140 : List ty_Tp := []
theorem ty_j_X9_clock : ty_mi 105 = some ty_i_X9_clock := (ex_nth_get _ _).trans rfl
set_option maxRecDepth 1000000 in
set_option maxHeartbeats 0 in
/-- X9_clock -/
theorem ty_h140 {l : Launch} : ty_ConOk ty_mi l ty_c140 := ty_chk (mt := ty_mt) (cn := [ty_c28]) (f := 100000) (ts := ty_t140) (ty_run_ok ty_gw ty_hmt (ty_kc ty_h28 ty_k0) _) ty_j_X9_clock ty_f_X9_clock (by decide +kernel) (ty_every_t (by decide +kernel))
def ty_c141 : ty_Con := (120, [.inr (.inl (0, (.ofNat 0, []))), .inl (.inl (.ofNat 0, [(0, .ofNat 1)])), .inl (.inl (.ofNat 0, [(1, .ofNat 1)]))], (2, [(0, .negSucc 2147483647, .ofNat 2147483647), (1, .negSucc 2147483647, .ofNat 2147483647)], []), [], [((3, [(2, .negSucc 0, .ofNat 255)], []), [.inl (.inl (.ofNat 0, [(2, .ofNat 1)]))], [])], [(27, none), (35, some 0), (35, some 1), (35, some 2), (35, some 3), (35, some 4), (35, some 5)], 4)
def ty_t141 : List ty_Tp := []
theorem ty_j_X9_shortest : ty_mi 120 = some ty_i_X9_shortest := (ex_nth_get _ _).trans rfl
set_option maxRecDepth 1000000 in
set_option maxHeartbeats 0 in
/-- X9_shortest -/
theorem ty_h141 {l : Launch} : ty_ConOk ty_mi l ty_c141 := ty_chk (mt := ty_mt) (cn := [ty_c39]) (f := 100000) (ts := ty_t141) (ty_run_ok ty_gw ty_hmt (ty_kc ty_h39 ty_k0) _) ty_j_X9_shortest ty_f_X9_shortest (by decide +kernel) (ty_every_t (by decide +kernel))
def ty_c142 : ty_Con := (121, [.inr (.inl (0, (.ofNat 0, []))), .inl (.inl (.ofNat 0, [(0, .ofNat 1)])), .inl (.inl (.ofNat 0, [(1, .ofNat 1)]))], (2, [(0, .negSucc 2147483647, .ofNat 2147483647), (1, .negSucc 2147483647, .ofNat 2147483647)], []), [], [((3, [(2, .negSucc 0, .ofNat 255)], []), [.inl (.inl (.ofNat 0, [(2, .ofNat 1)]))], [])], [(27, none), (35, some 0), (35, some 1), (35, some 2), (35, some 3), (35, some 4), (35, some 5)], 4)
def ty_t142 : List ty_Tp := []
theorem ty_j_X9_honest : ty_mi 121 = some ty_i_X9_honest := (ex_nth_get _ _).trans rfl
set_option maxRecDepth 1000000 in
set_option maxHeartbeats 0 in
/-- X9_honest -/
theorem ty_h142 {l : Launch} : ty_ConOk ty_mi l ty_c142 := ty_chk (mt := ty_mt) (cn := [ty_c39]) (f := 100000) (ts := ty_t142) (ty_run_ok ty_gw ty_hmt (ty_kc ty_h39 ty_k0) _) ty_j_X9_honest ty_f_X9_honest (by decide +kernel) (ty_every_t (by decide +kernel))
def ty_c143 : ty_Con := (80, [.inr (.inl (0, (.ofNat 0, []))), .inl (.inl (.ofNat 0, [(0, .ofNat 1)]))], (1, [(0, .negSucc 2147483647, .ofNat 2147483647)], []), [], [((2, [(1, .negSucc 2147483647, .ofNat 2147483647)], []), [.inl (.inl (.ofNat 0, [(1, .ofNat 1)]))], [])], [], 1)
def ty_t143 : List ty_Tp := []
theorem ty_j_X9_lull : ty_mi 80 = some ty_i_X9_lull := (ex_nth_get _ _).trans rfl
set_option maxRecDepth 1000000 in
set_option maxHeartbeats 0 in
/-- X9_lull -/
theorem ty_h143 {l : Launch} : ty_ConOk ty_mi l ty_c143 := ty_chk (mt := ty_mt) (cn := []) (f := 100000) (ts := ty_t143) (ty_run_ok ty_gw ty_hmt ty_k0 _) ty_j_X9_lull ty_f_X9_lull (by decide +kernel) (ty_every_t (by decide +kernel))
def ty_c144 : ty_Con := (109, [.inr (.inl (0, (.ofNat 0, []))), .inl (.inl (.ofNat 0, [(0, .ofNat 1)]))], (1, [(0, .negSucc 2147483647, .ofNat 2147483647)], []), [], [((2, [(1, .negSucc 2147483647, .ofNat 2147483647)], []), [.inl (.inl (.ofNat 0, [(1, .ofNat 1)]))], [])], [(27, none), (28, some 6), (28, some 7), (28, some 8), (28, some 9), (28, some 10), (29, none), (30, none), (31, none), (32, none), (33, none), (34, none), (35, some 0), (35, some 1), (35, some 2), (35, some 3), (35, some 4), (35, some 5)], 5)
def ty_t144 : List ty_Tp := []
theorem ty_j_X9_press : ty_mi 109 = some ty_i_X9_press := (ex_nth_get _ _).trans rfl
set_option maxRecDepth 1000000 in
set_option maxHeartbeats 0 in
/-- X9_press -/
theorem ty_h144 {l : Launch} : ty_ConOk ty_mi l ty_c144 := ty_chk (mt := ty_mt) (cn := [ty_c13, ty_c31]) (f := 100000) (ts := ty_t144) (ty_run_ok ty_gw ty_hmt (ty_kc ty_h13 (ty_kc ty_h31 ty_k0)) _) ty_j_X9_press ty_f_X9_press (by decide +kernel) (ty_every_t (by decide +kernel))
def ty_c145 : ty_Con := (123, [.inr (.inl (0, (.ofNat 0, []))), .inl (.inl (.ofNat 0, [(0, .ofNat 1)])), .inl (.inl (.ofNat 0, [(1, .ofNat 1)]))], (2, [(0, .negSucc 2147483647, .ofNat 2147483647), (1, .negSucc 2147483647, .ofNat 2147483647)], []), [], [((3, [(2, .negSucc 2147483647, .ofNat 2147483647)], []), [.inl (.inl (.ofNat 0, [(2, .ofNat 1)]))], [])], [(27, none), (35, some 0), (35, some 1), (35, some 2), (35, some 3), (35, some 4), (35, some 5)], 4)
def ty_t145 : List ty_Tp := []
theorem ty_j_X9_spark : ty_mi 123 = some ty_i_X9_spark := (ex_nth_get _ _).trans rfl
set_option maxRecDepth 1000000 in
set_option maxHeartbeats 0 in
/-- X9_spark -/
theorem ty_h145 {l : Launch} : ty_ConOk ty_mi l ty_c145 := ty_chk (mt := ty_mt) (cn := [ty_c3, ty_c40]) (f := 100000) (ts := ty_t145) (ty_run_ok ty_gw ty_hmt (ty_kc ty_h3 (ty_kc ty_h40 ty_k0)) _) ty_j_X9_spark ty_f_X9_spark (by decide +kernel) (ty_every_t (by decide +kernel))
def ty_c146 : ty_Con := (124, [.inr (.inl (0, (.ofNat 0, []))), .inl (.inl (.ofNat 0, [(0, .ofNat 1)])), .inl (.inl (.ofNat 0, [(1, .ofNat 1)]))], (2, [(0, .negSucc 2147483647, .ofNat 2147483647), (1, .negSucc 2147483647, .ofNat 2147483647)], []), [], [((3, [(2, .negSucc 2147483647, .ofNat 2147483647)], []), [.inl (.inl (.ofNat 0, [(2, .ofNat 1)]))], [])], [(27, none), (35, some 0), (35, some 1), (35, some 2), (35, some 3), (35, some 4), (35, some 5)], 4)
def ty_t146 : List ty_Tp := []
theorem ty_j_X9_drop : ty_mi 124 = some ty_i_X9_drop := (ex_nth_get _ _).trans rfl
set_option maxRecDepth 1000000 in
set_option maxHeartbeats 0 in
/-- X9_drop -/
theorem ty_h146 {l : Launch} : ty_ConOk ty_mi l ty_c146 := ty_chk (mt := ty_mt) (cn := [ty_c3, ty_c40]) (f := 100000) (ts := ty_t146) (ty_run_ok ty_gw ty_hmt (ty_kc ty_h3 (ty_kc ty_h40 ty_k0)) _) ty_j_X9_drop ty_f_X9_drop (by decide +kernel) (ty_every_t (by decide +kernel))
def ty_c147 : ty_Con := (108, [.inr (.inl (0, (.ofNat 0, [])))], (0, [], []), [], [((1, [(0, .ofNat 0, .ofNat 255)], []), [.inl (.inl (.ofNat 0, [(0, .ofNat 1)]))], [])], [(27, none), (28, some 6), (28, some 7), (28, some 8), (28, some 9), (28, some 10), (29, none), (30, none), (31, none), (32, none), (33, none), (34, none), (35, some 0), (35, some 1), (35, some 2), (35, some 3), (35, some 4), (35, some 5)], 5)
def ty_t147 : List ty_Tp := []
theorem ty_j_X9_jam : ty_mi 108 = some ty_i_X9_jam := (ex_nth_get _ _).trans rfl
set_option maxRecDepth 1000000 in
set_option maxHeartbeats 0 in
/-- X9_jam -/
theorem ty_h147 {l : Launch} : ty_ConOk ty_mi l ty_c147 := ty_chk (mt := ty_mt) (cn := [ty_c7, ty_c28]) (f := 100000) (ts := ty_t147) (ty_run_ok ty_gw ty_hmt (ty_kc ty_h7 (ty_kc ty_h28 ty_k0)) _) ty_j_X9_jam ty_f_X9_jam (by decide +kernel) (ty_every_t (by decide +kernel))
def ty_c148 : ty_Con := (106, [.inr (.inl (0, (.ofNat 0, []))), .inl (.inl (.ofNat 0, [(0, .ofNat 1)]))], (1, [(0, .negSucc 2147483647, .ofNat 2147483647)], []), [], [((2, [(1, .negSucc 2147483647, .ofNat 2147483647)], []), [.inl (.inl (.ofNat 0, [(1, .ofNat 1)]))], [])], [(27, none), (28, some 6), (28, some 7), (28, some 8), (28, some 9), (28, some 10), (29, none), (30, none), (31, none), (32, none), (33, none), (34, none), (35, some 0), (35, some 1), (35, some 2), (35, some 3), (35, some 4), (35, some 5)], 5)
def ty_t148 : List ty_Tp := []
theorem ty_j_X9_temper : ty_mi 106 = some ty_i_X9_temper := (ex_nth_get _ _).trans rfl
set_option maxRecDepth 1000000 in
set_option maxHeartbeats 0 in
/-- X9_temper -/
theorem ty_h148 {l : Launch} : ty_ConOk ty_mi l ty_c148 := ty_chk (mt := ty_mt) (cn := [ty_c28]) (f := 100000) (ts := ty_t148) (ty_run_ok ty_gw ty_hmt (ty_kc ty_h28 ty_k0) _) ty_j_X9_temper ty_f_X9_temper (by decide +kernel) (ty_every_t (by decide +kernel))
def ty_c149 : ty_Con := (81, [.inr (.inl (0, (.ofNat 0, []))), .inl (.inl (.ofNat 0, [(0, .ofNat 1)]))], (1, [(0, .negSucc 2147483647, .ofNat 2147483647)], []), [], [((2, [(1, .negSucc 2147483647, .ofNat 2147483647)], []), [.inl (.inl (.ofNat 0, [(1, .ofNat 1)]))], [])], [], 0)
def ty_t149 : List ty_Tp := []
theorem ty_j_X9_lies : ty_mi 81 = some ty_i_X9_lies := (ex_nth_get _ _).trans rfl
set_option maxRecDepth 1000000 in
set_option maxHeartbeats 0 in
/-- X9_lies -/
theorem ty_h149 {l : Launch} : ty_ConOk ty_mi l ty_c149 := ty_chk (mt := ty_mt) (cn := []) (f := 100000) (ts := ty_t149) (ty_run_ok ty_gw ty_hmt ty_k0 _) ty_j_X9_lies ty_f_X9_lies (by decide +kernel) (ty_every_t (by decide +kernel))
def ty_c150 : ty_Con := (130, [.inr (.inl (0, (.ofNat 0, []))), .inl (.inl (.ofNat 0, [(0, .ofNat 1)])), .inl (.inl (.ofNat 0, [(1, .ofNat 1)])), .inl (.inl (.ofNat 0, [(2, .ofNat 1)]))], (3, [(0, .negSucc 2147483647, .ofNat 2147483647), (1, .negSucc 2147483647, .ofNat 2147483647), (2, .ofNat 0, .ofNat 1)], []), [], [((4, [(3, .negSucc 0, .ofNat 29)], []), [.inl (.inl (.ofNat 0, [(3, .ofNat 1)]))], [])], [(41, some 0), (43, none), (44, none), (45, none), (46, none), (48, none)], 1)
def ty_t150 : List ty_Tp := []
theorem ty_j_X9_seen : ty_mi 130 = some ty_i_X9_seen := (ex_nth_get _ _).trans rfl
set_option maxRecDepth 1000000 in
set_option maxHeartbeats 0 in
/-- X9_seen -/
theorem ty_h150 {l : Launch} : ty_ConOk ty_mi l ty_c150 := ty_chk (mt := ty_mt) (cn := []) (f := 100000) (ts := ty_t150) (ty_run_ok ty_gw ty_hmt ty_k0 _) ty_j_X9_seen ty_f_X9_seen (by decide +kernel) (ty_every_t (by decide +kernel))
def ty_c151 : ty_Con := (131, [.inr (.inl (0, (.ofNat 0, []))), .inl (.inl (.ofNat 0, [(0, .ofNat 1)]))], (1, [(0, .negSucc 2147483647, .ofNat 2147483647)], []), [], [((2, [(1, .ofNat 0, .ofNat 1)], []), [.inl (.inl (.ofNat 0, [(1, .ofNat 1)]))], [])], [(47, none), (48, none)], 1)
def ty_t151 : List ty_Tp := []
theorem ty_j_X9_untell : ty_mi 131 = some ty_i_X9_untell := (ex_nth_get _ _).trans rfl
set_option maxRecDepth 1000000 in
set_option maxHeartbeats 0 in
/-- X9_untell -/
theorem ty_h151 {l : Launch} : ty_ConOk ty_mi l ty_c151 := ty_chk (mt := ty_mt) (cn := []) (f := 100000) (ts := ty_t151) (ty_run_ok ty_gw ty_hmt ty_k0 _) ty_j_X9_untell ty_f_X9_untell (by decide +kernel) (ty_every_t (by decide +kernel))
def ty_c152 : ty_Con := (132, [.inr (.inl (0, (.ofNat 0, []))), .inl (.inl (.ofNat 0, [(0, .ofNat 1)]))], (1, [(0, .negSucc 2147483647, .ofNat 2147483647)], []), [], [((2, [(1, .negSucc 0, .ofNat 100000)], []), [.inl (.inl (.ofNat 0, [(1, .ofNat 1)]))], [])], [(0, some 14)], 0)
def ty_t152 : List ty_Tp := []
theorem ty_j_X9_later : ty_mi 132 = some ty_i_X9_later := (ex_nth_get _ _).trans rfl
set_option maxRecDepth 1000000 in
set_option maxHeartbeats 0 in
/-- X9_later -/
theorem ty_h152 {l : Launch} : ty_ConOk ty_mi l ty_c152 := ty_chk (mt := ty_mt) (cn := []) (f := 100000) (ts := ty_t152) (ty_run_ok ty_gw ty_hmt ty_k0 _) ty_j_X9_later ty_f_X9_later (by decide +kernel) (ty_every_t (by decide +kernel))
def ty_c153 : ty_Con := (133, [.inr (.inl (0, (.ofNat 0, []))), .inl (.inl (.ofNat 0, [(0, .ofNat 1)]))], (1, [(0, .negSucc 2147483647, .ofNat 2147483647)], []), [], [((2, [(1, .ofNat 0, .ofNat 100)], []), [.inl (.inl (.ofNat 0, [(1, .ofNat 1)]))], [])], [(27, none), (28, some 6), (28, some 7), (28, some 8), (28, some 9), (28, some 10), (29, none), (30, none), (31, none), (32, none), (33, none), (34, none), (35, some 0), (35, some 1), (35, some 2), (35, some 3), (35, some 4), (35, some 5), (41, some 11), (42, none), (49, none)], 6)
def ty_t153 : List ty_Tp := []
theorem ty_j_X9_fits : ty_mi 133 = some ty_i_X9_fits := (ex_nth_get _ _).trans rfl
set_option maxRecDepth 1000000 in
set_option maxHeartbeats 0 in
/-- X9_fits -/
theorem ty_h153 {l : Launch} : ty_ConOk ty_mi l ty_c153 := ty_chk (mt := ty_mt) (cn := [ty_c21]) (f := 100000) (ts := ty_t153) (ty_run_ok ty_gw ty_hmt (ty_kc ty_h21 ty_k0) _) ty_j_X9_fits ty_f_X9_fits (by decide +kernel) (ty_every_t (by decide +kernel))
def ty_c154 : ty_Con := (134, [.inr (.inl (0, (.ofNat 0, []))), .inl (.inl (.ofNat 0, [(0, .ofNat 1)])), .inl (.inl (.ofNat 0, [(1, .ofNat 1)]))], (2, [(0, .negSucc 2147483647, .ofNat 2147483647), (1, .negSucc 2147483647, .ofNat 2147483647)], []), [], [((3, [(2, .negSucc 0, .ofNat 99)], []), [.inl (.inl (.ofNat 0, [(2, .ofNat 1)]))], [])], [(27, none), (28, some 6), (28, some 7), (28, some 8), (28, some 9), (28, some 10), (29, none), (30, none), (31, none), (32, none), (33, none), (34, none), (35, some 0), (35, some 1), (35, some 2), (35, some 3), (35, some 4), (35, some 5), (41, some 11), (42, none), (49, none)], 6)
def ty_t154 : List ty_Tp := []
theorem ty_j_X9_sure : ty_mi 134 = some ty_i_X9_sure := (ex_nth_get _ _).trans rfl
set_option maxRecDepth 1000000 in
set_option maxHeartbeats 0 in
/-- X9_sure -/
theorem ty_h154 {l : Launch} : ty_ConOk ty_mi l ty_c154 := ty_chk (mt := ty_mt) (cn := [ty_c21]) (f := 100000) (ts := ty_t154) (ty_run_ok ty_gw ty_hmt (ty_kc ty_h21 ty_k0) _) ty_j_X9_sure ty_f_X9_sure (by decide +kernel) (ty_every_t (by decide +kernel))
def ty_c155 : ty_Con := (99, [.inr (.inl (0, (.ofNat 0, []))), .inl (.inl (.ofNat 0, [(0, .ofNat 1)]))], (1, [(0, .negSucc 2147483647, .ofNat 2147483647)], []), [], [((2, [(1, .negSucc 2147483647, .ofNat 2147483647)], []), [.inl (.inl (.ofNat 0, [(1, .ofNat 1)]))], [])], [(28, some 6), (28, some 7), (28, some 8), (28, some 9), (28, some 10), (29, none), (30, none), (31, none), (32, none), (33, none), (34, none), (40, none)], 1)
def ty_t155 : List ty_Tp := []
theorem ty_j_X9_image : ty_mi 99 = some ty_i_X9_image := (ex_nth_get _ _).trans rfl
set_option maxRecDepth 1000000 in
set_option maxHeartbeats 0 in
/-- X9_image -/
theorem ty_h155 {l : Launch} : ty_ConOk ty_mi l ty_c155 := ty_chk (mt := ty_mt) (cn := [ty_c13]) (f := 100000) (ts := ty_t155) (ty_run_ok ty_gw ty_hmt (ty_kc ty_h13 ty_k0) _) ty_j_X9_image ty_f_X9_image (by decide +kernel) (ty_every_t (by decide +kernel))
def ty_c156 : ty_Con := (100, [.inr (.inl (0, (.ofNat 0, []))), .inl (.inl (.ofNat 0, [(0, .ofNat 1)]))], (3, [(0, .negSucc 2147483647, .ofNat 2147483647), (1, .ofNat 0, .ofNat 40), (2, .ofNat 0, .ofNat 40)], [(.ofNat 0, [(1, .ofNat 1), (2, .negSucc 0)])]), [(37, (.ofNat 53, []), (.ofNat 0, []), .inl (.inl (.ofNat 0, [(1, .ofNat 1)]))), (37, (.ofNat 53, []), (.ofNat 1, []), .inl (.inl (.ofNat 0, [(2, .ofNat 1)])))], [((6, [(3, .ofNat 0, .ofNat 40), (4, .ofNat 0, .ofNat 40), (5, .negSucc 2147483647, .ofNat 2147483647)], [(.ofNat 0, [(3, .ofNat 1), (4, .negSucc 0)])]), [.inl (.inl (.ofNat 0, [(5, .ofNat 1)]))], [(37, (.ofNat 53, []), (.ofNat 0, []), .inl (.inl (.ofNat 0, [(3, .ofNat 1)]))), (37, (.ofNat 53, []), (.ofNat 1, []), .inl (.inl (.ofNat 0, [(4, .ofNat 1)])))])], [(28, some 6), (28, some 7), (28, some 8), (28, some 9), (28, some 10), (29, none), (30, none), (31, none), (32, none), (33, none), (34, none), (37, some 0), (37, some 1), (37, some 3)], 2)
def ty_t156 : List ty_Tp := []
theorem ty_j_X9_back : ty_mi 100 = some ty_i_X9_back := (ex_nth_get _ _).trans rfl
set_option maxRecDepth 1000000 in
set_option maxHeartbeats 0 in
/-- X9_back -/
theorem ty_h156 {l : Launch} : ty_ConOk ty_mi l ty_c156 := ty_chk (mt := ty_mt) (cn := [ty_c13, ty_c14]) (f := 100000) (ts := ty_t156) (ty_run_ok ty_gw ty_hmt (ty_kc ty_h13 (ty_kc ty_h14 ty_k0)) _) ty_j_X9_back ty_f_X9_back (by decide +kernel) (ty_every_t (by decide +kernel))
def ty_c157 : ty_Con := (82, [.inr (.inl (0, (.ofNat 0, []))), .inl (.inl (.ofNat 0, [(0, .ofNat 1)]))], (1, [(0, .negSucc 2147483647, .ofNat 2147483647)], []), [], [((2, [(1, .negSucc 2147483647, .ofNat 2147483647)], []), [.inl (.inl (.ofNat 0, [(1, .ofNat 1)]))], [])], [], 1)
def ty_t157 : List ty_Tp := []
theorem ty_j_X9_about : ty_mi 82 = some ty_i_X9_about := (ex_nth_get _ _).trans rfl
set_option maxRecDepth 1000000 in
set_option maxHeartbeats 0 in
/-- X9_about -/
theorem ty_h157 {l : Launch} : ty_ConOk ty_mi l ty_c157 := ty_chk (mt := ty_mt) (cn := [ty_c7]) (f := 100000) (ts := ty_t157) (ty_run_ok ty_gw ty_hmt (ty_kc ty_h7 ty_k0) _) ty_j_X9_about ty_f_X9_about (by decide +kernel) (ty_every_t (by decide +kernel))
