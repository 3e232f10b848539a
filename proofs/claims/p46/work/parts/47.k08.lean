def ty_cn_125 : ty_Con := (12, [.inr (.inl (3, (.ofNat 3, []))), .inr (.inl (1, (.ofNat 1, [])))], (0, [], []), [], [((0, [], []), [.inl (.inl (.ofNat 0, []))], []), ((1, [(0, .ofNat 1, .ofNat 4)], []), [.inl (.inl (.ofNat 1, []))], [(4, (.ofNat 4, []), (.ofNat 0, []), .inl (.inl (.ofNat 0, [(0, .ofNat 1)])))])], [(3, some 1), (3, some 2), (3, some 6), (3, some 7), (3, some 8), (3, some 9), (3, some 10), (3, some 11), (4, some 0), (4, some 1), (4, some 2), (4, some 3), (4, some 4), (4, some 5), (4, some 6), (5, none), (6, none), (7, none), (8, none), (9, some 3), (10, none), (11, none), (13, some 3), (14, none), (15, none), (16, none), (17, none), (18, none)], 59)
def ty_tn_125 : List ty_Tp := [(50, (2, [(0, .ofNat 0, .ofNat 1600), (1, .ofNat 1, .ofNat 4)], []), [(0, .inr (.inl (3, (.ofNat 3, [])))), (1, .inr (.inl (1, (.ofNat 1, [])))), (2, .inl (.inl (.ofNat 0, [(0, .ofNat 1)])))], [(4, (.ofNat 4, []), (.ofNat 0, []), .inl (.inl (.ofNat 0, [(1, .ofNat 1)])))], [(.ofNat 0, []), (.ofNat 0, [(0, .negSucc 0)]), (.ofNat 0, [])])]
theorem ty_j_X3_read : ty_mi 12 = some ty_i_X3_read := (ex_nth_get _ _).trans rfl
set_option maxRecDepth 1000000 in
set_option maxHeartbeats 0 in
/-- X3_read -/
theorem ty_hn_125 {l : Launch} : ty_ConOk ty_mi l ty_cn_125 := ty_chk (mt := ty_mt) (cn := [ty_cn_18, ty_cn_64, ty_cn_124]) (f := 100000) (ts := ty_tn_125) (sp := none) (ty_run_ok ty_gw ty_hmt (ty_kc ty_hn_18 (ty_kc ty_hn_64 (ty_kc ty_hn_124 ty_k0))) _) ty_j_X3_read ty_f_X3_read (by decide +kernel) (ty_every_t (by decide +kernel))
def ty_cn_126 : ty_Con := (134, [.inr (.inl (0, (.ofNat 0, []))), .inl (.inl (.ofNat 0, [(0, .ofNat 1)]))], (2, [(0, .negSucc 2147483647, .ofNat 2147483647), (1, .ofNat 0, .ofNat 100000)], []), [(0, (.ofNat 0, []), (.ofNat 14, []), .inl (.inl (.ofNat 0, [(1, .ofNat 1)])))], [((2, [], [(.ofNat 1, [(0, .ofNat 1)])]), [.inl (.inl (.negSucc 0, []))], [(0, (.ofNat 0, []), (.ofNat 14, []), .inl (.inl (.ofNat 0, [(1, .ofNat 1)])))]), ((2, [], [(.ofNat 1001, [(0, .negSucc 0)])]), [.inl (.inl (.negSucc 0, []))], [(0, (.ofNat 0, []), (.ofNat 14, []), .inl (.inl (.ofNat 0, [(1, .ofNat 1)])))]), ((2, [], [(.ofNat 0, [(0, .negSucc 0)]), (.negSucc 999, [(0, .ofNat 1)]), (.ofNat 100001, [(0, .negSucc 0), (1, .negSucc 0)])]), [.inl (.inl (.negSucc 0, []))], [(0, (.ofNat 0, []), (.ofNat 14, []), .inl (.inl (.ofNat 0, [(1, .ofNat 1)])))]), ((2, [], [(.ofNat 0, [(0, .negSucc 0)]), (.negSucc 999, [(0, .ofNat 1)]), (.negSucc 99999, [(0, .ofNat 1), (1, .ofNat 1)])]), [.inl (.inl (.ofNat 0, [(0, .ofNat 1), (1, .ofNat 1)]))], [(0, (.ofNat 0, []), (.ofNat 14, []), .inl (.inl (.ofNat 0, [(0, .ofNat 1), (1, .ofNat 1)])))])], [(0, some 14)], 0)
def ty_tn_126 : List ty_Tp := []
theorem ty_j_X9_later : ty_mi 134 = some ty_i_X9_later := (ex_nth_get _ _).trans rfl
set_option maxRecDepth 1000000 in
set_option maxHeartbeats 0 in
/-- X9_later -/
theorem ty_hn_126 {l : Launch} : ty_ConOk ty_mi l ty_cn_126 := ty_chk (mt := ty_mt) (cn := []) (f := 100000) (ts := ty_tn_126) (sp := none) (ty_run_ok ty_gw ty_hmt ty_k0 _) ty_j_X9_later ty_f_X9_later (by decide +kernel) (ty_every_t (by decide +kernel))
def ty_cn_127 : ty_Con := (69, [.inr (.inl (0, (.ofNat 0, []))), .inl (.inl (.ofNat 0, [(0, .ofNat 1)])), .inl (.inl (.ofNat 0, [(1, .ofNat 1)])), .inl (.inl (.ofNat 0, [(2, .ofNat 1)])), .inl (.inl (.ofNat 0, [(3, .ofNat 1)])), .inl (.inl (.ofNat 0, [(4, .ofNat 1)]))], (5, [(0, .negSucc 2147483647, .ofNat 2147483647), (1, .negSucc 2147483647, .ofNat 2147483647), (2, .negSucc 2147483647, .ofNat 2147483647), (3, .negSucc 2147483647, .ofNat 2147483647), (4, .negSucc 2147483647, .ofNat 2147483647)], []), [], [((6, [(5, .negSucc 0, .ofNat 1600)], []), [.inl (.inl (.ofNat 0, [(5, .ofNat 1)]))], [])], [(1, some 1), (2, none)], 1)
def ty_tn_127 : List ty_Tp := []
theorem ty_j_X9_feed : ty_mi 69 = some ty_i_X9_feed := (ex_nth_get _ _).trans rfl
set_option maxRecDepth 1000000 in
set_option maxHeartbeats 0 in
/-- X9_feed -/
theorem ty_hn_127 {l : Launch} : ty_ConOk ty_mi l ty_cn_127 := ty_chk (mt := ty_mt) (cn := [ty_cn_55]) (f := 100000) (ts := ty_tn_127) (sp := none) (ty_run_ok ty_gw ty_hmt (ty_kc ty_hn_55 ty_k0) _) ty_j_X9_feed ty_f_X9_feed (by decide +kernel) (ty_every_t (by decide +kernel))
def ty_cn_128 : ty_Con := (70, [.inr (.inl (0, (.ofNat 0, []))), .inl (.inl (.ofNat 0, [(0, .ofNat 1)]))], (1, [(0, .negSucc 2147483647, .ofNat 2147483647)], []), [], [((2, [(1, .negSucc 0, .ofNat 1600)], []), [.inl (.inl (.ofNat 0, [(1, .ofNat 1)]))], [])], [(1, some 1)], 0)
def ty_tn_128 : List ty_Tp := []
theorem ty_j_X9_end : ty_mi 70 = some ty_i_X9_end := (ex_nth_get _ _).trans rfl
set_option maxRecDepth 1000000 in
set_option maxHeartbeats 0 in
/-- X9_end -/
theorem ty_hn_128 {l : Launch} : ty_ConOk ty_mi l ty_cn_128 := ty_chk (mt := ty_mt) (cn := []) (f := 100000) (ts := ty_tn_128) (sp := none) (ty_run_ok ty_gw ty_hmt ty_k0 _) ty_j_X9_end ty_f_X9_end (by decide +kernel) (ty_every_t (by decide +kernel))
def ty_cn_129 : ty_Con := (71, [.inr (.inl (0, (.ofNat 0, [])))], (2, [(0, .ofNat 0, .ofNat 40), (1, .ofNat 0, .ofNat 40)], [(.ofNat 0, [(0, .ofNat 1), (1, .negSucc 0)])]), [(37, (.ofNat 53, []), (.ofNat 0, []), .inl (.inl (.ofNat 0, [(0, .ofNat 1)]))), (37, (.ofNat 53, []), (.ofNat 1, []), .inl (.inl (.ofNat 0, [(1, .ofNat 1)])))], [((5, [(2, .ofNat 0, .ofNat 40), (3, .ofNat 0, .ofNat 40), (4, .negSucc 0, .ofNat 8)], [(.ofNat 0, [(2, .ofNat 1), (3, .negSucc 0)])]), [.inl (.inl (.ofNat 0, [(4, .ofNat 1)]))], [(37, (.ofNat 53, []), (.ofNat 0, []), .inl (.inl (.ofNat 0, [(2, .ofNat 1)]))), (37, (.ofNat 53, []), (.ofNat 1, []), .inl (.inl (.ofNat 0, [(3, .ofNat 1)])))])], [(0, some 13), (1, some 1), (3, some 1), (3, some 2), (3, some 6), (3, some 7), (3, some 8), (3, some 9), (3, some 10), (3, some 11), (4, some 0), (4, some 1), (4, some 2), (4, some 3), (4, some 4), (4, some 5), (4, some 6), (5, none), (6, none), (7, none), (8, none), (9, some 3), (10, none), (11, none), (13, some 3), (14, none), (15, none), (16, none), (17, none), (18, none), (19, some 0), (19, some 1), (19, some 2), (19, some 3), (19, some 4), (19, some 5), (19, some 6), (20, none), (21, none), (22, none), (23, none), (24, some 3), (25, none), (26, none), (28, some 6), (28, some 7), (28, some 8), (28, some 9), (28, some 10), (29, none), (30, none), (31, none), (32, none), (33, none), (34, none), (37, some 0), (37, some 1), (37, some 3), (40, none), (41, some 0), (41, some 11)], 60)
def ty_tn_129 : List ty_Tp := []
theorem ty_j_X9_crossing : ty_mi 71 = some ty_i_X9_crossing := (ex_nth_get _ _).trans rfl
set_option maxRecDepth 1000000 in
set_option maxHeartbeats 0 in
/-- X9_crossing -/
theorem ty_hn_129 {l : Launch} : ty_ConOk ty_mi l ty_cn_129 := ty_chk (mt := ty_mt) (cn := [ty_cn_17, ty_cn_23, ty_cn_125]) (f := 100000) (ts := ty_tn_129) (sp := none) (ty_run_ok ty_gw ty_hmt (ty_kc ty_hn_17 (ty_kc ty_hn_23 (ty_kc ty_hn_125 ty_k0))) _) ty_j_X9_crossing ty_f_X9_crossing (by decide +kernel) (ty_every_t (by decide +kernel))
def ty_cn_130 : ty_Con := (72, [.inr (.inl (0, (.ofNat 0, []))), .inl (.inl (.ofNat 0, [(0, .ofNat 1)]))], (1, [(0, .negSucc 2147483647, .ofNat 2147483647)], []), [], [((2, [(1, .negSucc 2147483647, .ofNat 2147483647)], []), [.inl (.inl (.ofNat 0, [(1, .ofNat 1)]))], [])], [], 0)
def ty_tn_130 : List ty_Tp := []
theorem ty_j_X9_fault : ty_mi 72 = some ty_i_X9_fault := (ex_nth_get _ _).trans rfl
set_option maxRecDepth 1000000 in
set_option maxHeartbeats 0 in
/-- X9_fault -/
theorem ty_hn_130 {l : Launch} : ty_ConOk ty_mi l ty_cn_130 := ty_chk (mt := ty_mt) (cn := []) (f := 100000) (ts := ty_tn_130) (sp := none) (ty_run_ok ty_gw ty_hmt ty_k0 _) ty_j_X9_fault ty_f_X9_fault (by decide +kernel) (ty_every_t (by decide +kernel))
def ty_cn_131 : ty_Con := (74, [.inr (.inl (0, (.ofNat 0, []))), .inl (.inl (.ofNat 0, [(0, .ofNat 1)])), .inl (.inl (.ofNat 0, [(1, .ofNat 1)]))], (2, [(0, .negSucc 2147483647, .ofNat 2147483647), (1, .negSucc 2147483647, .ofNat 2147483647)], []), [], [((3, [(2, .negSucc 2147483647, .ofNat 2147483647)], []), [.inl (.inl (.ofNat 0, [(2, .ofNat 1)]))], [])], [], 1)
def ty_tn_131 : List ty_Tp := []
theorem ty_j_X9_word : ty_mi 74 = some ty_i_X9_word := (ex_nth_get _ _).trans rfl
set_option maxRecDepth 1000000 in
set_option maxHeartbeats 0 in
/-- X9_word -/
theorem ty_hn_131 {l : Launch} : ty_ConOk ty_mi l ty_cn_131 := ty_chk (mt := ty_mt) (cn := [ty_cn_8]) (f := 100000) (ts := ty_tn_131) (sp := none) (ty_run_ok ty_gw ty_hmt (ty_kc ty_hn_8 ty_k0) _) ty_j_X9_word ty_f_X9_word (by decide +kernel) (ty_every_t (by decide +kernel))
def ty_cn_132 : ty_Con := (75, [.inr (.inl (0, (.ofNat 0, []))), .inl (.inl (.ofNat 0, [(0, .ofNat 1)])), .inl (.inl (.ofNat 0, [(1, .ofNat 1)]))], (2, [(0, .negSucc 2147483647, .ofNat 2147483647), (1, .negSucc 2147483647, .ofNat 2147483647)], []), [], [((3, [(2, .negSucc 2147483647, .ofNat 2147483647)], []), [.inl (.inl (.ofNat 0, [(2, .ofNat 1)]))], [])], [], 1)
def ty_tn_132 : List ty_Tp := []
theorem ty_j_X9_comer : ty_mi 75 = some ty_i_X9_comer := (ex_nth_get _ _).trans rfl
set_option maxRecDepth 1000000 in
set_option maxHeartbeats 0 in
/-- X9_comer -/
theorem ty_hn_132 {l : Launch} : ty_ConOk ty_mi l ty_cn_132 := ty_chk (mt := ty_mt) (cn := []) (f := 100000) (ts := ty_tn_132) (sp := none) (ty_run_ok ty_gw ty_hmt ty_k0 _) ty_j_X9_comer ty_f_X9_comer (by decide +kernel) (ty_every_t (by decide +kernel))
def ty_cn_133 : ty_Con := (76, [.inr (.inl (0, (.ofNat 0, []))), .inl (.inl (.ofNat 0, [(0, .ofNat 1)]))], (1, [(0, .negSucc 2147483647, .ofNat 2147483647)], []), [], [((2, [(1, .negSucc 2147483647, .ofNat 2147483647)], []), [.inl (.inl (.ofNat 0, [(1, .ofNat 1)]))], [])], [(27, none), (35, some 0), (35, some 1), (35, some 2), (35, some 3), (35, some 4), (35, some 5)], 3)
def ty_tn_133 : List ty_Tp := []
theorem ty_j_X9_worth : ty_mi 76 = some ty_i_X9_worth := (ex_nth_get _ _).trans rfl
set_option maxRecDepth 1000000 in
set_option maxHeartbeats 0 in
/-- X9_worth -/
theorem ty_hn_133 {l : Launch} : ty_ConOk ty_mi l ty_cn_133 := ty_chk (mt := ty_mt) (cn := [ty_cn_4, ty_cn_6]) (f := 100000) (ts := ty_tn_133) (sp := none) (ty_run_ok ty_gw ty_hmt (ty_kc ty_hn_4 (ty_kc ty_hn_6 ty_k0)) _) ty_j_X9_worth ty_f_X9_worth (by decide +kernel) (ty_every_t (by decide +kernel))
def ty_cn_134 : ty_Con := (77, [.inr (.inl (0, (.ofNat 0, []))), .inl (.inl (.ofNat 0, [(0, .ofNat 1)]))], (1, [(0, .negSucc 2147483647, .ofNat 2147483647)], []), [], [((2, [(1, .negSucc 0, .ofNat 999)], []), [.inl (.inl (.ofNat 0, [(1, .ofNat 1)]))], [])], [(27, none), (35, some 0), (35, some 1), (35, some 2), (35, some 3), (35, some 4), (35, some 5)], 3)
def ty_tn_134 : List ty_Tp := []
theorem ty_j_X9_keeps : ty_mi 77 = some ty_i_X9_keeps := (ex_nth_get _ _).trans rfl
set_option maxRecDepth 1000000 in
set_option maxHeartbeats 0 in
/-- X9_keeps -/
theorem ty_hn_134 {l : Launch} : ty_ConOk ty_mi l ty_cn_134 := ty_chk (mt := ty_mt) (cn := [ty_cn_4, ty_cn_6]) (f := 100000) (ts := ty_tn_134) (sp := none) (ty_run_ok ty_gw ty_hmt (ty_kc ty_hn_4 (ty_kc ty_hn_6 ty_k0)) _) ty_j_X9_keeps ty_f_X9_keeps (by decide +kernel) (ty_every_t (by decide +kernel))
def ty_cn_135 : ty_Con := (78, [.inr (.inl (0, (.ofNat 0, []))), .inl (.inl (.ofNat 0, [(0, .ofNat 1)]))], (1, [(0, .negSucc 2147483647, .ofNat 2147483647)], []), [], [((2, [(1, .negSucc 2147483647, .ofNat 2147483647)], []), [.inl (.inl (.ofNat 0, [(1, .ofNat 1)]))], [])], [], 1)
def ty_tn_135 : List ty_Tp := []
theorem ty_j_X9_row : ty_mi 78 = some ty_i_X9_row := (ex_nth_get _ _).trans rfl
set_option maxRecDepth 1000000 in
set_option maxHeartbeats 0 in
/-- X9_row -/
theorem ty_hn_135 {l : Launch} : ty_ConOk ty_mi l ty_cn_135 := ty_chk (mt := ty_mt) (cn := []) (f := 100000) (ts := ty_tn_135) (sp := none) (ty_run_ok ty_gw ty_hmt ty_k0 _) ty_j_X9_row ty_f_X9_row (by decide +kernel) (ty_every_t (by decide +kernel))
def ty_cn_136 : ty_Con := (91, [.inr (.inl (0, (.ofNat 0, [])))], (2, [(0, .ofNat 0, .ofNat 40), (1, .ofNat 0, .ofNat 40)], [(.ofNat 0, [(0, .ofNat 1), (1, .negSucc 0)])]), [(37, (.ofNat 53, []), (.ofNat 0, []), .inl (.inl (.ofNat 0, [(0, .ofNat 1)]))), (37, (.ofNat 53, []), (.ofNat 1, []), .inl (.inl (.ofNat 0, [(1, .ofNat 1)])))], [((5, [(2, .ofNat 0, .ofNat 40), (3, .ofNat 0, .ofNat 40), (4, .negSucc 1, .ofNat 7)], [(.ofNat 0, [(2, .ofNat 1), (3, .negSucc 0)])]), [.inl (.inl (.ofNat 0, [(4, .ofNat 1)]))], [(37, (.ofNat 53, []), (.ofNat 0, []), .inl (.inl (.ofNat 0, [(2, .ofNat 1)]))), (37, (.ofNat 53, []), (.ofNat 1, []), .inl (.inl (.ofNat 0, [(3, .ofNat 1)])))])], [(27, none), (28, some 6), (28, some 7), (28, some 8), (28, some 9), (28, some 10), (29, none), (30, none), (31, none), (32, none), (33, none), (34, none), (35, some 0), (35, some 1), (35, some 2), (35, some 3), (35, some 4), (35, some 5), (37, some 0), (37, some 1), (37, some 3)], 5)
def ty_tn_136 : List ty_Tp := []
theorem ty_j_X9_hatch : ty_mi 91 = some ty_i_X9_hatch := (ex_nth_get _ _).trans rfl
set_option maxRecDepth 1000000 in
set_option maxHeartbeats 0 in
/-- X9_hatch -/
theorem ty_hn_136 {l : Launch} : ty_ConOk ty_mi l ty_cn_136 := ty_chk (mt := ty_mt) (cn := [ty_cn_12, ty_cn_15]) (f := 100000) (ts := ty_tn_136) (sp := none) (ty_run_ok ty_gw ty_hmt (ty_kc ty_hn_12 (ty_kc ty_hn_15 ty_k0)) _) ty_j_X9_hatch ty_f_X9_hatch (by decide +kernel) (ty_every_t (by decide +kernel))
def ty_cn_137 : ty_Con := (92, [.inr (.inl (0, (.ofNat 0, []))), .inl (.inl (.ofNat 0, [(0, .ofNat 1)]))], (3, [(0, .negSucc 2147483647, .ofNat 2147483647), (1, .ofNat 0, .ofNat 40), (2, .ofNat 0, .ofNat 40)], [(.ofNat 0, [(1, .ofNat 1), (2, .negSucc 0)])]), [(37, (.ofNat 53, []), (.ofNat 0, []), .inl (.inl (.ofNat 0, [(1, .ofNat 1)]))), (37, (.ofNat 53, []), (.ofNat 1, []), .inl (.inl (.ofNat 0, [(2, .ofNat 1)])))], [((6, [(3, .ofNat 0, .ofNat 40), (4, .ofNat 0, .ofNat 40), (5, .negSucc 1, .ofNat 7)], [(.ofNat 0, [(3, .ofNat 1), (4, .negSucc 0)])]), [.inl (.inl (.ofNat 0, [(5, .ofNat 1)]))], [(37, (.ofNat 53, []), (.ofNat 0, []), .inl (.inl (.ofNat 0, [(3, .ofNat 1)]))), (37, (.ofNat 53, []), (.ofNat 1, []), .inl (.inl (.ofNat 0, [(4, .ofNat 1)])))])], [(27, none), (28, some 6), (28, some 7), (28, some 8), (28, some 9), (28, some 10), (29, none), (30, none), (31, none), (32, none), (33, none), (34, none), (35, some 0), (35, some 1), (35, some 2), (35, some 3), (35, some 4), (35, some 5), (37, some 0), (37, some 1), (37, some 3)], 5)
def ty_tn_137 : List ty_Tp := []
theorem ty_j_X9_open : ty_mi 92 = some ty_i_X9_open := (ex_nth_get _ _).trans rfl
set_option maxRecDepth 1000000 in
set_option maxHeartbeats 0 in
/-- X9_open -/
theorem ty_hn_137 {l : Launch} : ty_ConOk ty_mi l ty_cn_137 := ty_chk (mt := ty_mt) (cn := [ty_cn_12, ty_cn_15]) (f := 100000) (ts := ty_tn_137) (sp := none) (ty_run_ok ty_gw ty_hmt (ty_kc ty_hn_12 (ty_kc ty_hn_15 ty_k0)) _) ty_j_X9_open ty_f_X9_open (by decide +kernel) (ty_every_t (by decide +kernel))
def ty_cn_138 : ty_Con := (94, [.inr (.inl (0, (.ofNat 0, []))), .inl (.inl (.ofNat 0, [(0, .ofNat 1)])), .inl (.inl (.ofNat 0, [(1, .ofNat 1)]))], (4, [(0, .negSucc 2147483647, .ofNat 2147483647), (1, .negSucc 2147483647, .ofNat 2147483647), (2, .ofNat 0, .ofNat 40), (3, .ofNat 0, .ofNat 40)], [(.ofNat 0, [(2, .ofNat 1), (3, .negSucc 0)])]), [(37, (.ofNat 53, []), (.ofNat 0, []), .inl (.inl (.ofNat 0, [(2, .ofNat 1)]))), (37, (.ofNat 53, []), (.ofNat 1, []), .inl (.inl (.ofNat 0, [(3, .ofNat 1)])))], [((7, [(4, .ofNat 0, .ofNat 40), (5, .ofNat 0, .ofNat 40), (6, .negSucc 2147483647, .ofNat 2147483647)], [(.ofNat 0, [(4, .ofNat 1), (5, .negSucc 0)])]), [.inl (.inl (.ofNat 0, [(6, .ofNat 1)]))], [(37, (.ofNat 53, []), (.ofNat 0, []), .inl (.inl (.ofNat 0, [(4, .ofNat 1)]))), (37, (.ofNat 53, []), (.ofNat 1, []), .inl (.inl (.ofNat 0, [(5, .ofNat 1)])))])], [(27, none), (28, some 6), (28, some 7), (28, some 8), (28, some 9), (28, some 10), (29, none), (30, none), (31, none), (32, none), (33, none), (34, none), (35, some 0), (35, some 1), (35, some 2), (35, some 3), (35, some 4), (35, some 5), (37, some 0), (37, some 1), (37, some 3)], 3)
def ty_tn_138 : List ty_Tp := []
theorem ty_j_X9_rehearse : ty_mi 94 = some ty_i_X9_rehearse := (ex_nth_get _ _).trans rfl
set_option maxRecDepth 1000000 in
set_option maxHeartbeats 0 in
/-- X9_rehearse -/
theorem ty_hn_138 {l : Launch} : ty_ConOk ty_mi l ty_cn_138 := ty_chk (mt := ty_mt) (cn := [ty_cn_3, ty_cn_4, ty_cn_6, ty_cn_15]) (f := 100000) (ts := ty_tn_138) (sp := none) (ty_run_ok ty_gw ty_hmt (ty_kc ty_hn_3 (ty_kc ty_hn_4 (ty_kc ty_hn_6 (ty_kc ty_hn_15 ty_k0)))) _) ty_j_X9_rehearse ty_f_X9_rehearse (by decide +kernel) (ty_every_t (by decide +kernel))
def ty_cn_139 : ty_Con := (96, [.inr (.inl (0, (.ofNat 0, []))), .inl (.inl (.ofNat 0, [(0, .ofNat 1)])), .inl (.inl (.ofNat 0, [(1, .ofNat 1)]))], (4, [(0, .negSucc 2147483647, .ofNat 2147483647), (1, .negSucc 2147483647, .ofNat 2147483647), (2, .ofNat 0, .ofNat 40), (3, .ofNat 0, .ofNat 40)], [(.ofNat 0, [(2, .ofNat 1), (3, .negSucc 0)])]), [(37, (.ofNat 53, []), (.ofNat 0, []), .inl (.inl (.ofNat 0, [(2, .ofNat 1)]))), (37, (.ofNat 53, []), (.ofNat 1, []), .inl (.inl (.ofNat 0, [(3, .ofNat 1)])))], [((7, [(4, .ofNat 0, .ofNat 40), (5, .ofNat 0, .ofNat 40), (6, .negSucc 2147483647, .ofNat 2147483647)], [(.ofNat 0, [(4, .ofNat 1), (5, .negSucc 0)])]), [.inl (.inl (.ofNat 0, [(6, .ofNat 1)]))], [(37, (.ofNat 53, []), (.ofNat 0, []), .inl (.inl (.ofNat 0, [(4, .ofNat 1)]))), (37, (.ofNat 53, []), (.ofNat 1, []), .inl (.inl (.ofNat 0, [(5, .ofNat 1)])))])], [(28, some 6), (28, some 7), (28, some 8), (28, some 9), (28, some 10), (29, none), (30, none), (31, none), (32, none), (33, none), (34, none), (37, some 0), (37, some 1), (37, some 3)], 2)
def ty_tn_139 : List ty_Tp := []
theorem ty_j_X9_turn : ty_mi 96 = some ty_i_X9_turn := (ex_nth_get _ _).trans rfl
set_option maxRecDepth 1000000 in
set_option maxHeartbeats 0 in
/-- X9_turn -/
theorem ty_hn_139 {l : Launch} : ty_ConOk ty_mi l ty_cn_139 := ty_chk (mt := ty_mt) (cn := [ty_cn_5, ty_cn_15]) (f := 100000) (ts := ty_tn_139) (sp := none) (ty_run_ok ty_gw ty_hmt (ty_kc ty_hn_5 (ty_kc ty_hn_15 ty_k0)) _) ty_j_X9_turn ty_f_X9_turn (by decide +kernel) (ty_every_t (by decide +kernel))
def ty_cn_140 : ty_Con := (97, [.inr (.inl (0, (.ofNat 0, []))), .inl (.inl (.ofNat 0, [(0, .ofNat 1)]))], (3, [(0, .negSucc 2147483647, .ofNat 2147483647), (1, .ofNat 0, .ofNat 40), (2, .ofNat 0, .ofNat 40)], [(.ofNat 0, [(1, .ofNat 1), (2, .negSucc 0)])]), [(37, (.ofNat 53, []), (.ofNat 0, []), .inl (.inl (.ofNat 0, [(1, .ofNat 1)]))), (37, (.ofNat 53, []), (.ofNat 1, []), .inl (.inl (.ofNat 0, [(2, .ofNat 1)])))], [((6, [(3, .ofNat 0, .ofNat 40), (4, .ofNat 0, .ofNat 40), (5, .negSucc 2147483647, .ofNat 2147483647)], [(.ofNat 0, [(3, .ofNat 1), (4, .negSucc 0)])]), [.inl (.inl (.ofNat 0, [(5, .ofNat 1)]))], [(37, (.ofNat 53, []), (.ofNat 0, []), .inl (.inl (.ofNat 0, [(3, .ofNat 1)]))), (37, (.ofNat 53, []), (.ofNat 1, []), .inl (.inl (.ofNat 0, [(4, .ofNat 1)])))])], [(28, some 6), (28, some 7), (28, some 8), (28, some 9), (28, some 10), (29, none), (30, none), (31, none), (32, none), (33, none), (34, none), (37, some 0), (37, some 1), (37, some 3)], 2)
def ty_tn_140 : List ty_Tp := []
theorem ty_j_X9_revive : ty_mi 97 = some ty_i_X9_revive := (ex_nth_get _ _).trans rfl
set_option maxRecDepth 1000000 in
set_option maxHeartbeats 0 in
/-- X9_revive -/
theorem ty_hn_140 {l : Launch} : ty_ConOk ty_mi l ty_cn_140 := ty_chk (mt := ty_mt) (cn := [ty_cn_15]) (f := 100000) (ts := ty_tn_140) (sp := none) (ty_run_ok ty_gw ty_hmt (ty_kc ty_hn_15 ty_k0) _) ty_j_X9_revive ty_f_X9_revive (by decide +kernel) (ty_every_t (by decide +kernel))
def ty_cn_141 : ty_Con := (98, [.inr (.inl (0, (.ofNat 0, []))), .inl (.inl (.ofNat 0, [(0, .ofNat 1)]))], (3, [(0, .negSucc 2147483647, .ofNat 2147483647), (1, .ofNat 0, .ofNat 40), (2, .ofNat 0, .ofNat 40)], [(.ofNat 0, [(1, .ofNat 1), (2, .negSucc 0)])]), [(37, (.ofNat 53, []), (.ofNat 0, []), .inl (.inl (.ofNat 0, [(1, .ofNat 1)]))), (37, (.ofNat 53, []), (.ofNat 1, []), .inl (.inl (.ofNat 0, [(2, .ofNat 1)])))], [((6, [(3, .ofNat 0, .ofNat 40), (4, .ofNat 0, .ofNat 40), (5, .negSucc 2147483647, .ofNat 2147483647)], [(.ofNat 0, [(3, .ofNat 1), (4, .negSucc 0)])]), [.inl (.inl (.ofNat 0, [(5, .ofNat 1)]))], [(37, (.ofNat 53, []), (.ofNat 0, []), .inl (.inl (.ofNat 0, [(3, .ofNat 1)]))), (37, (.ofNat 53, []), (.ofNat 1, []), .inl (.inl (.ofNat 0, [(4, .ofNat 1)])))])], [(28, some 6), (28, some 7), (28, some 8), (28, some 9), (28, some 10), (29, none), (30, none), (31, none), (32, none), (33, none), (34, none), (37, some 0), (37, some 1), (37, some 3)], 2)
def ty_tn_141 : List ty_Tp := []
theorem ty_j_X9_humour : ty_mi 98 = some ty_i_X9_humour := (ex_nth_get _ _).trans rfl
set_option maxRecDepth 1000000 in
set_option maxHeartbeats 0 in
/-- X9_humour -/
theorem ty_hn_141 {l : Launch} : ty_ConOk ty_mi l ty_cn_141 := ty_chk (mt := ty_mt) (cn := [ty_cn_15]) (f := 100000) (ts := ty_tn_141) (sp := none) (ty_run_ok ty_gw ty_hmt (ty_kc ty_hn_15 ty_k0) _) ty_j_X9_humour ty_f_X9_humour (by decide +kernel) (ty_every_t (by decide +kernel))
def ty_cn_142 : ty_Con := (99, [.inr (.inl (0, (.ofNat 0, [])))], (2, [(0, .ofNat 0, .ofNat 40), (1, .ofNat 0, .ofNat 40)], [(.ofNat 0, [(0, .ofNat 1), (1, .negSucc 0)])]), [(37, (.ofNat 53, []), (.ofNat 0, []), .inl (.inl (.ofNat 0, [(0, .ofNat 1)]))), (37, (.ofNat 53, []), (.ofNat 1, []), .inl (.inl (.ofNat 0, [(1, .ofNat 1)])))], [((5, [(2, .ofNat 0, .ofNat 40), (3, .ofNat 0, .ofNat 40), (4, .ofNat 0, .ofNat 1)], [(.ofNat 0, [(2, .ofNat 1), (3, .negSucc 0)])]), [.inl (.inl (.ofNat 0, [(4, .ofNat 1)]))], [(37, (.ofNat 53, []), (.ofNat 0, []), .inl (.inl (.ofNat 0, [(2, .ofNat 1)]))), (37, (.ofNat 53, []), (.ofNat 1, []), .inl (.inl (.ofNat 0, [(3, .ofNat 1)])))])], [(28, some 6), (28, some 7), (28, some 8), (28, some 9), (28, some 10), (29, none), (30, none), (31, none), (32, none), (33, none), (34, none), (37, some 0)], 2)
def ty_tn_142 : List ty_Tp := []
theorem ty_j_X9_undo : ty_mi 99 = some ty_i_X9_undo := (ex_nth_get _ _).trans rfl
set_option maxRecDepth 1000000 in
set_option maxHeartbeats 0 in
/-- X9_undo -/
theorem ty_hn_142 {l : Launch} : ty_ConOk ty_mi l ty_cn_142 := ty_chk (mt := ty_mt) (cn := [ty_cn_13]) (f := 100000) (ts := ty_tn_142) (sp := none) (ty_run_ok ty_gw ty_hmt (ty_kc ty_hn_13 ty_k0) _) ty_j_X9_undo ty_f_X9_undo (by decide +kernel) (ty_every_t (by decide +kernel))
def ty_cn_143 : ty_Con := (100, [.inr (.inl (0, (.ofNat 0, [])))], (2, [(0, .ofNat 0, .ofNat 40), (1, .ofNat 0, .ofNat 40)], [(.ofNat 0, [(0, .ofNat 1), (1, .negSucc 0)])]), [(37, (.ofNat 53, []), (.ofNat 0, []), .inl (.inl (.ofNat 0, [(0, .ofNat 1)]))), (37, (.ofNat 53, []), (.ofNat 1, []), .inl (.inl (.ofNat 0, [(1, .ofNat 1)])))], [((5, [(2, .ofNat 0, .ofNat 40), (3, .ofNat 0, .ofNat 40), (4, .ofNat 0, .ofNat 1)], [(.ofNat 0, [(2, .ofNat 1), (3, .negSucc 0)])]), [.inl (.inl (.ofNat 0, [(4, .ofNat 1)]))], [(37, (.ofNat 53, []), (.ofNat 0, []), .inl (.inl (.ofNat 0, [(2, .ofNat 1)]))), (37, (.ofNat 53, []), (.ofNat 1, []), .inl (.inl (.ofNat 0, [(3, .ofNat 1)])))])], [(28, some 6), (28, some 7), (28, some 8), (28, some 9), (28, some 10), (29, none), (30, none), (31, none), (32, none), (33, none), (34, none), (37, some 0)], 2)
def ty_tn_143 : List ty_Tp := []
theorem ty_j_X9_redo : ty_mi 100 = some ty_i_X9_redo := (ex_nth_get _ _).trans rfl
set_option maxRecDepth 1000000 in
set_option maxHeartbeats 0 in
/-- X9_redo -/
theorem ty_hn_143 {l : Launch} : ty_ConOk ty_mi l ty_cn_143 := ty_chk (mt := ty_mt) (cn := [ty_cn_13]) (f := 100000) (ts := ty_tn_143) (sp := none) (ty_run_ok ty_gw ty_hmt (ty_kc ty_hn_13 ty_k0) _) ty_j_X9_redo ty_f_X9_redo (by decide +kernel) (ty_every_t (by decide +kernel))
def ty_cn_144 : ty_Con := (104, [.inr (.inl (0, (.ofNat 0, []))), .inl (.inl (.ofNat 0, [(0, .ofNat 1)]))], (1, [(0, .negSucc 2147483647, .ofNat 2147483647)], []), [], [((2, [(1, .negSucc 0, .ofNat 60)], []), [.inl (.inl (.ofNat 0, [(1, .ofNat 1)]))], [])], [(27, none), (28, some 6), (28, some 7), (28, some 8), (28, some 9), (28, some 10), (29, none), (30, none), (31, none), (32, none), (33, none), (34, none), (35, some 0), (35, some 1), (35, some 2), (35, some 3), (35, some 4), (35, some 5)], 5)
def ty_tn_144 : List ty_Tp := []
theorem ty_j_X9_when : ty_mi 104 = some ty_i_X9_when := (ex_nth_get _ _).trans rfl
set_option maxRecDepth 1000000 in
set_option maxHeartbeats 0 in
/-- X9_when -/
theorem ty_hn_144 {l : Launch} : ty_ConOk ty_mi l ty_cn_144 := ty_chk (mt := ty_mt) (cn := [ty_cn_13, ty_cn_27]) (f := 100000) (ts := ty_tn_144) (sp := none) (ty_run_ok ty_gw ty_hmt (ty_kc ty_hn_13 (ty_kc ty_hn_27 ty_k0)) _) ty_j_X9_when ty_f_X9_when (by decide +kernel) (ty_every_t (by decide +kernel))
def ty_cn_145 : ty_Con := (107, [.inr (.inl (0, (.ofNat 0, []))), .inl (.inl (.ofNat 0, [(0, .ofNat 1)]))], (1, [(0, .negSucc 2147483647, .ofNat 2147483647)], []), [], [((2, [(1, .negSucc 2147483647, .ofNat 2147483647)], []), [.inl (.inl (.ofNat 0, [(1, .ofNat 1)]))], [])], [(27, none), (28, some 6), (28, some 7), (28, some 8), (28, some 9), (28, some 10), (29, none), (30, none), (31, none), (32, none), (33, none), (34, none), (35, some 0), (35, some 1), (35, some 2), (35, some 3), (35, some 4), (35, some 5)], 5)
def ty_tn_145 : List ty_Tp := []
theorem ty_j_X9_clock : ty_mi 107 = some ty_i_X9_clock := (ex_nth_get _ _).trans rfl
set_option maxRecDepth 1000000 in
set_option maxHeartbeats 0 in
/-- X9_clock -/
theorem ty_hn_145 {l : Launch} : ty_ConOk ty_mi l ty_cn_145 := ty_chk (mt := ty_mt) (cn := [ty_cn_28]) (f := 100000) (ts := ty_tn_145) (sp := none) (ty_run_ok ty_gw ty_hmt (ty_kc ty_hn_28 ty_k0) _) ty_j_X9_clock ty_f_X9_clock (by decide +kernel) (ty_every_t (by decide +kernel))
def ty_cn_146 : ty_Con := (122, [.inr (.inl (0, (.ofNat 0, []))), .inl (.inl (.ofNat 0, [(0, .ofNat 1)])), .inl (.inl (.ofNat 0, [(1, .ofNat 1)]))], (2, [(0, .negSucc 2147483647, .ofNat 2147483647), (1, .negSucc 2147483647, .ofNat 2147483647)], []), [], [((3, [(2, .negSucc 0, .ofNat 255)], []), [.inl (.inl (.ofNat 0, [(2, .ofNat 1)]))], [])], [(27, none), (35, some 0), (35, some 1), (35, some 2), (35, some 3), (35, some 4), (35, some 5)], 4)
def ty_tn_146 : List ty_Tp := []
theorem ty_j_X9_shortest : ty_mi 122 = some ty_i_X9_shortest := (ex_nth_get _ _).trans rfl
set_option maxRecDepth 1000000 in
set_option maxHeartbeats 0 in
/-- X9_shortest -/
theorem ty_hn_146 {l : Launch} : ty_ConOk ty_mi l ty_cn_146 := ty_chk (mt := ty_mt) (cn := [ty_cn_39]) (f := 100000) (ts := ty_tn_146) (sp := none) (ty_run_ok ty_gw ty_hmt (ty_kc ty_hn_39 ty_k0) _) ty_j_X9_shortest ty_f_X9_shortest (by decide +kernel) (ty_every_t (by decide +kernel))
def ty_cn_147 : ty_Con := (123, [.inr (.inl (0, (.ofNat 0, []))), .inl (.inl (.ofNat 0, [(0, .ofNat 1)])), .inl (.inl (.ofNat 0, [(1, .ofNat 1)]))], (2, [(0, .negSucc 2147483647, .ofNat 2147483647), (1, .negSucc 2147483647, .ofNat 2147483647)], []), [], [((3, [(2, .negSucc 0, .ofNat 255)], []), [.inl (.inl (.ofNat 0, [(2, .ofNat 1)]))], [])], [(27, none), (35, some 0), (35, some 1), (35, some 2), (35, some 3), (35, some 4), (35, some 5)], 4)
def ty_tn_147 : List ty_Tp := []
theorem ty_j_X9_honest : ty_mi 123 = some ty_i_X9_honest := (ex_nth_get _ _).trans rfl
set_option maxRecDepth 1000000 in
set_option maxHeartbeats 0 in
/-- X9_honest -/
theorem ty_hn_147 {l : Launch} : ty_ConOk ty_mi l ty_cn_147 := ty_chk (mt := ty_mt) (cn := [ty_cn_39]) (f := 100000) (ts := ty_tn_147) (sp := none) (ty_run_ok ty_gw ty_hmt (ty_kc ty_hn_39 ty_k0) _) ty_j_X9_honest ty_f_X9_honest (by decide +kernel) (ty_every_t (by decide +kernel))
def ty_cn_148 : ty_Con := (82, [.inr (.inl (0, (.ofNat 0, []))), .inl (.inl (.ofNat 0, [(0, .ofNat 1)]))], (1, [(0, .negSucc 2147483647, .ofNat 2147483647)], []), [], [((2, [(1, .negSucc 2147483647, .ofNat 2147483647)], []), [.inl (.inl (.ofNat 0, [(1, .ofNat 1)]))], [])], [], 1)
def ty_tn_148 : List ty_Tp := []
theorem ty_j_X9_lull : ty_mi 82 = some ty_i_X9_lull := (ex_nth_get _ _).trans rfl
set_option maxRecDepth 1000000 in
set_option maxHeartbeats 0 in
/-- X9_lull -/
theorem ty_hn_148 {l : Launch} : ty_ConOk ty_mi l ty_cn_148 := ty_chk (mt := ty_mt) (cn := []) (f := 100000) (ts := ty_tn_148) (sp := none) (ty_run_ok ty_gw ty_hmt ty_k0 _) ty_j_X9_lull ty_f_X9_lull (by decide +kernel) (ty_every_t (by decide +kernel))
def ty_cn_149 : ty_Con := (111, [.inr (.inl (0, (.ofNat 0, []))), .inl (.inl (.ofNat 0, [(0, .ofNat 1)]))], (1, [(0, .negSucc 2147483647, .ofNat 2147483647)], []), [], [((2, [(1, .negSucc 2147483647, .ofNat 2147483647)], []), [.inl (.inl (.ofNat 0, [(1, .ofNat 1)]))], [])], [(27, none), (28, some 6), (28, some 7), (28, some 8), (28, some 9), (28, some 10), (29, none), (30, none), (31, none), (32, none), (33, none), (34, none), (35, some 0), (35, some 1), (35, some 2), (35, some 3), (35, some 4), (35, some 5)], 5)
def ty_tn_149 : List ty_Tp := []
theorem ty_j_X9_press : ty_mi 111 = some ty_i_X9_press := (ex_nth_get _ _).trans rfl
set_option maxRecDepth 1000000 in
set_option maxHeartbeats 0 in
/-- X9_press -/
theorem ty_hn_149 {l : Launch} : ty_ConOk ty_mi l ty_cn_149 := ty_chk (mt := ty_mt) (cn := [ty_cn_13, ty_cn_31]) (f := 100000) (ts := ty_tn_149) (sp := none) (ty_run_ok ty_gw ty_hmt (ty_kc ty_hn_13 (ty_kc ty_hn_31 ty_k0)) _) ty_j_X9_press ty_f_X9_press (by decide +kernel) (ty_every_t (by decide +kernel))
def ty_cn_150 : ty_Con := (125, [.inr (.inl (0, (.ofNat 0, []))), .inl (.inl (.ofNat 0, [(0, .ofNat 1)])), .inl (.inl (.ofNat 0, [(1, .ofNat 1)]))], (2, [(0, .negSucc 2147483647, .ofNat 2147483647), (1, .negSucc 2147483647, .ofNat 2147483647)], []), [], [((3, [(2, .negSucc 2147483647, .ofNat 2147483647)], []), [.inl (.inl (.ofNat 0, [(2, .ofNat 1)]))], [])], [(27, none), (35, some 0), (35, some 1), (35, some 2), (35, some 3), (35, some 4), (35, some 5)], 4)
def ty_tn_150 : List ty_Tp := []
theorem ty_j_X9_spark : ty_mi 125 = some ty_i_X9_spark := (ex_nth_get _ _).trans rfl
set_option maxRecDepth 1000000 in
set_option maxHeartbeats 0 in
/-- X9_spark -/
theorem ty_hn_150 {l : Launch} : ty_ConOk ty_mi l ty_cn_150 := ty_chk (mt := ty_mt) (cn := [ty_cn_3, ty_cn_40]) (f := 100000) (ts := ty_tn_150) (sp := none) (ty_run_ok ty_gw ty_hmt (ty_kc ty_hn_3 (ty_kc ty_hn_40 ty_k0)) _) ty_j_X9_spark ty_f_X9_spark (by decide +kernel) (ty_every_t (by decide +kernel))
def ty_cn_151 : ty_Con := (126, [.inr (.inl (0, (.ofNat 0, []))), .inl (.inl (.ofNat 0, [(0, .ofNat 1)])), .inl (.inl (.ofNat 0, [(1, .ofNat 1)]))], (2, [(0, .negSucc 2147483647, .ofNat 2147483647), (1, .negSucc 2147483647, .ofNat 2147483647)], []), [], [((3, [(2, .negSucc 2147483647, .ofNat 2147483647)], []), [.inl (.inl (.ofNat 0, [(2, .ofNat 1)]))], [])], [(27, none), (35, some 0), (35, some 1), (35, some 2), (35, some 3), (35, some 4), (35, some 5)], 4)
def ty_tn_151 : List ty_Tp := []
theorem ty_j_X9_drop : ty_mi 126 = some ty_i_X9_drop := (ex_nth_get _ _).trans rfl
set_option maxRecDepth 1000000 in
set_option maxHeartbeats 0 in
/-- X9_drop -/
theorem ty_hn_151 {l : Launch} : ty_ConOk ty_mi l ty_cn_151 := ty_chk (mt := ty_mt) (cn := [ty_cn_3, ty_cn_40]) (f := 100000) (ts := ty_tn_151) (sp := none) (ty_run_ok ty_gw ty_hmt (ty_kc ty_hn_3 (ty_kc ty_hn_40 ty_k0)) _) ty_j_X9_drop ty_f_X9_drop (by decide +kernel) (ty_every_t (by decide +kernel))
def ty_cn_152 : ty_Con := (110, [.inr (.inl (0, (.ofNat 0, [])))], (0, [], []), [], [((1, [(0, .ofNat 0, .ofNat 255)], []), [.inl (.inl (.ofNat 0, [(0, .ofNat 1)]))], [])], [(27, none), (28, some 6), (28, some 7), (28, some 8), (28, some 9), (28, some 10), (29, none), (30, none), (31, none), (32, none), (33, none), (34, none), (35, some 0), (35, some 1), (35, some 2), (35, some 3), (35, some 4), (35, some 5)], 5)
def ty_tn_152 : List ty_Tp := []
theorem ty_j_X9_jam : ty_mi 110 = some ty_i_X9_jam := (ex_nth_get _ _).trans rfl
set_option maxRecDepth 1000000 in
set_option maxHeartbeats 0 in
/-- X9_jam -/
theorem ty_hn_152 {l : Launch} : ty_ConOk ty_mi l ty_cn_152 := ty_chk (mt := ty_mt) (cn := [ty_cn_7, ty_cn_28]) (f := 100000) (ts := ty_tn_152) (sp := none) (ty_run_ok ty_gw ty_hmt (ty_kc ty_hn_7 (ty_kc ty_hn_28 ty_k0)) _) ty_j_X9_jam ty_f_X9_jam (by decide +kernel) (ty_every_t (by decide +kernel))
def ty_cn_153 : ty_Con := (108, [.inr (.inl (0, (.ofNat 0, []))), .inl (.inl (.ofNat 0, [(0, .ofNat 1)]))], (1, [(0, .negSucc 2147483647, .ofNat 2147483647)], []), [], [((2, [(1, .negSucc 2147483647, .ofNat 2147483647)], []), [.inl (.inl (.ofNat 0, [(1, .ofNat 1)]))], [])], [(27, none), (28, some 6), (28, some 7), (28, some 8), (28, some 9), (28, some 10), (29, none), (30, none), (31, none), (32, none), (33, none), (34, none), (35, some 0), (35, some 1), (35, some 2), (35, some 3), (35, some 4), (35, some 5)], 5)
def ty_tn_153 : List ty_Tp := []
theorem ty_j_X9_temper : ty_mi 108 = some ty_i_X9_temper := (ex_nth_get _ _).trans rfl
set_option maxRecDepth 1000000 in
set_option maxHeartbeats 0 in
/-- X9_temper -/
theorem ty_hn_153 {l : Launch} : ty_ConOk ty_mi l ty_cn_153 := ty_chk (mt := ty_mt) (cn := [ty_cn_28]) (f := 100000) (ts := ty_tn_153) (sp := none) (ty_run_ok ty_gw ty_hmt (ty_kc ty_hn_28 ty_k0) _) ty_j_X9_temper ty_f_X9_temper (by decide +kernel) (ty_every_t (by decide +kernel))
def ty_cn_154 : ty_Con := (83, [.inr (.inl (0, (.ofNat 0, []))), .inl (.inl (.ofNat 0, [(0, .ofNat 1)]))], (1, [(0, .negSucc 2147483647, .ofNat 2147483647)], []), [], [((2, [(1, .negSucc 2147483647, .ofNat 2147483647)], []), [.inl (.inl (.ofNat 0, [(1, .ofNat 1)]))], [])], [], 0)
def ty_tn_154 : List ty_Tp := []
theorem ty_j_X9_lies : ty_mi 83 = some ty_i_X9_lies := (ex_nth_get _ _).trans rfl
set_option maxRecDepth 1000000 in
set_option maxHeartbeats 0 in
/-- X9_lies -/
theorem ty_hn_154 {l : Launch} : ty_ConOk ty_mi l ty_cn_154 := ty_chk (mt := ty_mt) (cn := []) (f := 100000) (ts := ty_tn_154) (sp := none) (ty_run_ok ty_gw ty_hmt ty_k0 _) ty_j_X9_lies ty_f_X9_lies (by decide +kernel) (ty_every_t (by decide +kernel))
def ty_cn_155 : ty_Con := (132, [.inr (.inl (0, (.ofNat 0, []))), .inl (.inl (.ofNat 0, [(0, .ofNat 1)])), .inl (.inl (.ofNat 0, [(1, .ofNat 1)])), .inl (.inl (.ofNat 0, [(2, .ofNat 1)]))], (3, [(0, .negSucc 2147483647, .ofNat 2147483647), (1, .negSucc 2147483647, .ofNat 2147483647), (2, .ofNat 0, .ofNat 1)], []), [], [((4, [(3, .negSucc 0, .ofNat 29)], []), [.inl (.inl (.ofNat 0, [(3, .ofNat 1)]))], [])], [(41, some 0), (43, none), (44, none), (45, none), (46, none), (48, none)], 1)
def ty_tn_155 : List ty_Tp := []
theorem ty_j_X9_seen : ty_mi 132 = some ty_i_X9_seen := (ex_nth_get _ _).trans rfl
set_option maxRecDepth 1000000 in
set_option maxHeartbeats 0 in
/-- X9_seen -/
theorem ty_hn_155 {l : Launch} : ty_ConOk ty_mi l ty_cn_155 := ty_chk (mt := ty_mt) (cn := []) (f := 100000) (ts := ty_tn_155) (sp := none) (ty_run_ok ty_gw ty_hmt ty_k0 _) ty_j_X9_seen ty_f_X9_seen (by decide +kernel) (ty_every_t (by decide +kernel))
def ty_cn_156 : ty_Con := (133, [.inr (.inl (0, (.ofNat 0, []))), .inl (.inl (.ofNat 0, [(0, .ofNat 1)]))], (1, [(0, .negSucc 2147483647, .ofNat 2147483647)], []), [], [((2, [(1, .ofNat 0, .ofNat 1)], []), [.inl (.inl (.ofNat 0, [(1, .ofNat 1)]))], [])], [(47, none), (48, none)], 1)
def ty_tn_156 : List ty_Tp := []
theorem ty_j_X9_untell : ty_mi 133 = some ty_i_X9_untell := (ex_nth_get _ _).trans rfl
set_option maxRecDepth 1000000 in
set_option maxHeartbeats 0 in
/-- X9_untell -/
theorem ty_hn_156 {l : Launch} : ty_ConOk ty_mi l ty_cn_156 := ty_chk (mt := ty_mt) (cn := []) (f := 100000) (ts := ty_tn_156) (sp := none) (ty_run_ok ty_gw ty_hmt ty_k0 _) ty_j_X9_untell ty_f_X9_untell (by decide +kernel) (ty_every_t (by decide +kernel))
def ty_cn_157 : ty_Con := (135, [.inr (.inl (0, (.ofNat 0, []))), .inl (.inl (.ofNat 0, [(0, .ofNat 1)]))], (1, [(0, .negSucc 2147483647, .ofNat 2147483647)], []), [], [((2, [(1, .ofNat 0, .ofNat 100)], []), [.inl (.inl (.ofNat 0, [(1, .ofNat 1)]))], [])], [(27, none), (28, some 6), (28, some 7), (28, some 8), (28, some 9), (28, some 10), (29, none), (30, none), (31, none), (32, none), (33, none), (34, none), (35, some 0), (35, some 1), (35, some 2), (35, some 3), (35, some 4), (35, some 5), (41, some 11), (42, none), (49, none)], 6)
def ty_tn_157 : List ty_Tp := []
theorem ty_j_X9_fits : ty_mi 135 = some ty_i_X9_fits := (ex_nth_get _ _).trans rfl
set_option maxRecDepth 1000000 in
set_option maxHeartbeats 0 in
/-- X9_fits -/
theorem ty_hn_157 {l : Launch} : ty_ConOk ty_mi l ty_cn_157 := ty_chk (mt := ty_mt) (cn := [ty_cn_21]) (f := 100000) (ts := ty_tn_157) (sp := none) (ty_run_ok ty_gw ty_hmt (ty_kc ty_hn_21 ty_k0) _) ty_j_X9_fits ty_f_X9_fits (by decide +kernel) (ty_every_t (by decide +kernel))
def ty_cn_158 : ty_Con := (136, [.inr (.inl (0, (.ofNat 0, []))), .inl (.inl (.ofNat 0, [(0, .ofNat 1)])), .inl (.inl (.ofNat 0, [(1, .ofNat 1)]))], (2, [(0, .negSucc 2147483647, .ofNat 2147483647), (1, .negSucc 2147483647, .ofNat 2147483647)], []), [], [((3, [(2, .negSucc 0, .ofNat 99)], []), [.inl (.inl (.ofNat 0, [(2, .ofNat 1)]))], [])], [(27, none), (28, some 6), (28, some 7), (28, some 8), (28, some 9), (28, some 10), (29, none), (30, none), (31, none), (32, none), (33, none), (34, none), (35, some 0), (35, some 1), (35, some 2), (35, some 3), (35, some 4), (35, some 5), (41, some 11), (42, none), (49, none)], 6)
def ty_tn_158 : List ty_Tp := []
theorem ty_j_X9_sure : ty_mi 136 = some ty_i_X9_sure := (ex_nth_get _ _).trans rfl
set_option maxRecDepth 1000000 in
set_option maxHeartbeats 0 in
/-- X9_sure -/
theorem ty_hn_158 {l : Launch} : ty_ConOk ty_mi l ty_cn_158 := ty_chk (mt := ty_mt) (cn := [ty_cn_21]) (f := 100000) (ts := ty_tn_158) (sp := none) (ty_run_ok ty_gw ty_hmt (ty_kc ty_hn_21 ty_k0) _) ty_j_X9_sure ty_f_X9_sure (by decide +kernel) (ty_every_t (by decide +kernel))
def ty_cn_159 : ty_Con := (101, [.inr (.inl (0, (.ofNat 0, []))), .inl (.inl (.ofNat 0, [(0, .ofNat 1)]))], (1, [(0, .negSucc 2147483647, .ofNat 2147483647)], []), [], [((2, [(1, .negSucc 2147483647, .ofNat 2147483647)], []), [.inl (.inl (.ofNat 0, [(1, .ofNat 1)]))], [])], [(28, some 6), (28, some 7), (28, some 8), (28, some 9), (28, some 10), (29, none), (30, none), (31, none), (32, none), (33, none), (34, none), (40, none)], 1)
def ty_tn_159 : List ty_Tp := []
theorem ty_j_X9_image : ty_mi 101 = some ty_i_X9_image := (ex_nth_get _ _).trans rfl
set_option maxRecDepth 1000000 in
set_option maxHeartbeats 0 in
/-- X9_image -/
theorem ty_hn_159 {l : Launch} : ty_ConOk ty_mi l ty_cn_159 := ty_chk (mt := ty_mt) (cn := [ty_cn_13]) (f := 100000) (ts := ty_tn_159) (sp := none) (ty_run_ok ty_gw ty_hmt (ty_kc ty_hn_13 ty_k0) _) ty_j_X9_image ty_f_X9_image (by decide +kernel) (ty_every_t (by decide +kernel))
def ty_cn_160 : ty_Con := (102, [.inr (.inl (0, (.ofNat 0, []))), .inl (.inl (.ofNat 0, [(0, .ofNat 1)]))], (3, [(0, .negSucc 2147483647, .ofNat 2147483647), (1, .ofNat 0, .ofNat 40), (2, .ofNat 0, .ofNat 40)], [(.ofNat 0, [(1, .ofNat 1), (2, .negSucc 0)])]), [(37, (.ofNat 53, []), (.ofNat 0, []), .inl (.inl (.ofNat 0, [(1, .ofNat 1)]))), (37, (.ofNat 53, []), (.ofNat 1, []), .inl (.inl (.ofNat 0, [(2, .ofNat 1)])))], [((6, [(3, .ofNat 0, .ofNat 40), (4, .ofNat 0, .ofNat 40), (5, .negSucc 2147483647, .ofNat 2147483647)], [(.ofNat 0, [(3, .ofNat 1), (4, .negSucc 0)])]), [.inl (.inl (.ofNat 0, [(5, .ofNat 1)]))], [(37, (.ofNat 53, []), (.ofNat 0, []), .inl (.inl (.ofNat 0, [(3, .ofNat 1)]))), (37, (.ofNat 53, []), (.ofNat 1, []), .inl (.inl (.ofNat 0, [(4, .ofNat 1)])))])], [(28, some 6), (28, some 7), (28, some 8), (28, some 9), (28, some 10), (29, none), (30, none), (31, none), (32, none), (33, none), (34, none), (37, some 0), (37, some 1), (37, some 3)], 2)
def ty_tn_160 : List ty_Tp := []
theorem ty_j_X9_back : ty_mi 102 = some ty_i_X9_back := (ex_nth_get _ _).trans rfl
set_option maxRecDepth 1000000 in
set_option maxHeartbeats 0 in
/-- X9_back -/
theorem ty_hn_160 {l : Launch} : ty_ConOk ty_mi l ty_cn_160 := ty_chk (mt := ty_mt) (cn := [ty_cn_13, ty_cn_14]) (f := 100000) (ts := ty_tn_160) (sp := none) (ty_run_ok ty_gw ty_hmt (ty_kc ty_hn_13 (ty_kc ty_hn_14 ty_k0)) _) ty_j_X9_back ty_f_X9_back (by decide +kernel) (ty_every_t (by decide +kernel))
def ty_cn_161 : ty_Con := (84, [.inr (.inl (0, (.ofNat 0, []))), .inl (.inl (.ofNat 0, [(0, .ofNat 1)]))], (1, [(0, .negSucc 2147483647, .ofNat 2147483647)], []), [], [((2, [(1, .negSucc 2147483647, .ofNat 2147483647)], []), [.inl (.inl (.ofNat 0, [(1, .ofNat 1)]))], [])], [], 1)
def ty_tn_161 : List ty_Tp := []
theorem ty_j_X9_about : ty_mi 84 = some ty_i_X9_about := (ex_nth_get _ _).trans rfl
set_option maxRecDepth 1000000 in
set_option maxHeartbeats 0 in
/-- X9_about -/
theorem ty_hn_161 {l : Launch} : ty_ConOk ty_mi l ty_cn_161 := ty_chk (mt := ty_mt) (cn := [ty_cn_7]) (f := 100000) (ts := ty_tn_161) (sp := none) (ty_run_ok ty_gw ty_hmt (ty_kc ty_hn_7 ty_k0) _) ty_j_X9_about ty_f_X9_about (by decide +kernel) (ty_every_t (by decide +kernel))
