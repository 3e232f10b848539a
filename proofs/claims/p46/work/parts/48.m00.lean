def ty_cn_162 : ty_Con := (178, [.inl (.inl (.ofNat 0, [(0, .ofNat 1)]))], (1, [(0, .ofNat 0, .ofNat 2147483647)], []), [], [((2, [(1, .negSucc 2147483647, .ofNat 2147483647)], []), [.inl (.inl (.ofNat 0, [(1, .ofNat 1)]))], [])], [], 0)
def ty_tn_162 : List ty_Tp := [(4, (3, [(0, .ofNat 0, .ofNat 2147483647), (1, .negSucc 2147483647, .ofNat 2147483647), (2, .ofNat 0, .ofNat 2147483647)], []), [(0, .inl (.inl (.ofNat 0, [(0, .ofNat 1)]))), (1, .inl (.inl (.ofNat 0, [(1, .ofNat 1)]))), (2, .inl (.inl (.ofNat 0, [(2, .ofNat 1)])))], [], [(.ofNat 0, []), (.ofNat 0, [(2, .ofNat 1)]), (.ofNat 0, [])])]
theorem ty_j_X10_bitsOf : ty_mi 178 = some ty_i_X10_bitsOf := (ex_nth_get _ _).trans rfl
set_option maxRecDepth 1000000 in
set_option maxHeartbeats 0 in
/-- X10_bitsOf + -/
theorem ty_hn_162 {l : Launch} : ty_ConOk ty_mi l ty_cn_162 := ty_chk (mt := ty_mt) (cn := []) (f := 100000) (ts := ty_tn_162) (sp := none) (ty_run_ok ty_gw ty_hmt ty_k0 _) ty_j_X10_bitsOf ty_f_X10_bitsOf (by decide +kernel) (ty_every_t (by decide +kernel))
def ty_cn_163 : ty_Con := (178, [.inl (.inl (.ofNat 0, [(0, .ofNat 1)]))], (1, [(0, .negSucc 2147483647, .ofNat 2147483647)], []), [], [((2, [(1, .negSucc 2147483647, .ofNat 2147483647)], []), [.inl (.inl (.ofNat 0, [(1, .ofNat 1)]))], [])], [], 0)
def ty_tn_163 : List ty_Tp := [(4, (3, [(0, .negSucc 2147483647, .ofNat 2147483647), (1, .negSucc 2147483647, .ofNat 2147483647), (2, .ofNat 0, .ofNat 2147483647)], []), [(0, .inl (.inl (.ofNat 0, [(0, .ofNat 1)]))), (1, .inl (.inl (.ofNat 0, [(1, .ofNat 1)]))), (2, .inl (.inl (.ofNat 0, [(2, .ofNat 1)])))], [], [(.ofNat 0, []), (.ofNat 0, [(2, .ofNat 1)]), (.ofNat 0, [])]), (4, (3, [(0, .negSucc 2147483647, .negSucc 0), (1, .negSucc 2147483647, .ofNat 2147483647), (2, .negSucc 2147483647, .negSucc 0)], []), [(0, .inl (.inl (.ofNat 0, [(0, .ofNat 1)]))), (1, .inl (.inl (.ofNat 0, [(1, .ofNat 1)]))), (2, .inl (.inl (.ofNat 0, [(2, .ofNat 1)])))], [], [(.ofNat 1, []), (.ofNat 0, [(2, .ofNat 1)]), (.ofNat 0, [])])]
set_option maxRecDepth 1000000 in
set_option maxHeartbeats 0 in
/-- X10_bitsOf any -/
theorem ty_hn_163 {l : Launch} : ty_ConOk ty_mi l ty_cn_163 := ty_chk (mt := ty_mt) (cn := []) (f := 100000) (ts := ty_tn_163) (sp := some (.inr (.ofNat 0, [(0, .ofNat 1)]))) (ty_run_ok ty_gw ty_hmt ty_k0 _) ty_j_X10_bitsOf ty_f_X10_bitsOf (by decide +kernel) (ty_every_t (by decide +kernel))
def ty_cn_164 : ty_Con := (179, [.inl (.inl (.ofNat 0, [(0, .ofNat 1)])), .inl (.inl (.ofNat 0, [(1, .ofNat 1)]))], (2, [(0, .ofNat 1, .ofNat 2147483647), (1, .negSucc 2147483647, .ofNat 2147483647)], []), [], [((3, [(2, .ofNat 1, .ofNat 2147483647)], []), [.inl (.inl (.ofNat 0, [(2, .ofNat 1)]))], [])], [], 0)
def ty_tn_164 : List ty_Tp := [(4, (4, [(0, .ofNat 1, .ofNat 2147483647), (1, .negSucc 2147483647, .ofNat 2147483647), (2, .ofNat 1, .ofNat 2147483647), (3, .negSucc 2147483647, .ofNat 2147483647)], []), [(0, .inl (.inl (.ofNat 0, [(0, .ofNat 1)]))), (1, .inl (.inl (.ofNat 0, [(1, .ofNat 1)]))), (2, .inl (.inl (.ofNat 0, [(2, .ofNat 1)]))), (3, .inl (.inl (.ofNat 0, [(3, .ofNat 1)])))], [], [(.ofNat 0, []), (.ofNat 0, [(3, .ofNat 1)]), (.ofNat 0, [])])]
theorem ty_j_X10_divisor : ty_mi 179 = some ty_i_X10_divisor := (ex_nth_get _ _).trans rfl
set_option maxRecDepth 1000000 in
set_option maxHeartbeats 0 in
/-- X10_divisor -/
theorem ty_hn_164 {l : Launch} : ty_ConOk ty_mi l ty_cn_164 := ty_chk (mt := ty_mt) (cn := []) (f := 100000) (ts := ty_tn_164) (sp := none) (ty_run_ok ty_gw ty_hmt ty_k0 _) ty_j_X10_divisor ty_f_X10_divisor (by decide +kernel) (ty_every_t (by decide +kernel))
def ty_cn_165 : ty_Con := (180, [.inl (.inl (.ofNat 1, [])), .inl (.inl (.ofNat 0, []))], (0, [], []), [], [((1, [(0, .ofNat 1, .ofNat 1)], []), [.inl (.inl (.ofNat 0, [(0, .ofNat 1)]))], [])], [], 0)
def ty_tn_165 : List ty_Tp := []
theorem ty_j_X10_power : ty_mi 180 = some ty_i_X10_power := (ex_nth_get _ _).trans rfl
set_option maxRecDepth 1000000 in
set_option maxHeartbeats 0 in
/-- X10_power 1 0 -/
theorem ty_hn_165 {l : Launch} : ty_ConOk ty_mi l ty_cn_165 := ty_chk (mt := ty_mt) (cn := []) (f := 100000) (ts := ty_tn_165) (sp := none) (ty_run_ok ty_gw ty_hmt ty_k0 _) ty_j_X10_power ty_f_X10_power (by decide +kernel) (ty_every_t (by decide +kernel))
def ty_cn_166 : ty_Con := (180, [.inl (.inl (.ofNat 1, [])), .inl (.inl (.ofNat 1, []))], (0, [], []), [], [((1, [(0, .ofNat 1, .ofNat 1)], []), [.inl (.inl (.ofNat 0, [(0, .ofNat 1)]))], [])], [], 0)
def ty_tn_166 : List ty_Tp := []
set_option maxRecDepth 1000000 in
set_option maxHeartbeats 0 in
/-- X10_power 1 1 -/
theorem ty_hn_166 {l : Launch} : ty_ConOk ty_mi l ty_cn_166 := ty_chk (mt := ty_mt) (cn := []) (f := 100000) (ts := ty_tn_166) (sp := none) (ty_run_ok ty_gw ty_hmt ty_k0 _) ty_j_X10_power ty_f_X10_power (by decide +kernel) (ty_every_t (by decide +kernel))
def ty_cn_167 : ty_Con := (180, [.inl (.inl (.ofNat 1, [])), .inl (.inl (.ofNat 2, []))], (0, [], []), [], [((1, [(0, .ofNat 1, .ofNat 1)], []), [.inl (.inl (.ofNat 0, [(0, .ofNat 1)]))], [])], [], 0)
def ty_tn_167 : List ty_Tp := []
set_option maxRecDepth 1000000 in
set_option maxHeartbeats 0 in
/-- X10_power 1 2 -/
theorem ty_hn_167 {l : Launch} : ty_ConOk ty_mi l ty_cn_167 := ty_chk (mt := ty_mt) (cn := []) (f := 100000) (ts := ty_tn_167) (sp := none) (ty_run_ok ty_gw ty_hmt ty_k0 _) ty_j_X10_power ty_f_X10_power (by decide +kernel) (ty_every_t (by decide +kernel))
def ty_cn_168 : ty_Con := (180, [.inl (.inl (.ofNat 1, [])), .inl (.inl (.ofNat 3, []))], (0, [], []), [], [((1, [(0, .ofNat 1, .ofNat 1)], []), [.inl (.inl (.ofNat 0, [(0, .ofNat 1)]))], [])], [], 0)
def ty_tn_168 : List ty_Tp := []
set_option maxRecDepth 1000000 in
set_option maxHeartbeats 0 in
/-- X10_power 1 3 -/
theorem ty_hn_168 {l : Launch} : ty_ConOk ty_mi l ty_cn_168 := ty_chk (mt := ty_mt) (cn := []) (f := 100000) (ts := ty_tn_168) (sp := none) (ty_run_ok ty_gw ty_hmt ty_k0 _) ty_j_X10_power ty_f_X10_power (by decide +kernel) (ty_every_t (by decide +kernel))
def ty_cn_169 : ty_Con := (180, [.inl (.inl (.ofNat 1, [])), .inl (.inl (.ofNat 4, []))], (0, [], []), [], [((1, [(0, .ofNat 1, .ofNat 1)], []), [.inl (.inl (.ofNat 0, [(0, .ofNat 1)]))], [])], [], 0)
def ty_tn_169 : List ty_Tp := []
set_option maxRecDepth 1000000 in
set_option maxHeartbeats 0 in
/-- X10_power 1 4 -/
theorem ty_hn_169 {l : Launch} : ty_ConOk ty_mi l ty_cn_169 := ty_chk (mt := ty_mt) (cn := []) (f := 100000) (ts := ty_tn_169) (sp := none) (ty_run_ok ty_gw ty_hmt ty_k0 _) ty_j_X10_power ty_f_X10_power (by decide +kernel) (ty_every_t (by decide +kernel))
def ty_cn_170 : ty_Con := (180, [.inl (.inl (.ofNat 1, [])), .inl (.inl (.ofNat 5, []))], (0, [], []), [], [((1, [(0, .ofNat 1, .ofNat 1)], []), [.inl (.inl (.ofNat 0, [(0, .ofNat 1)]))], [])], [], 0)
def ty_tn_170 : List ty_Tp := []
set_option maxRecDepth 1000000 in
set_option maxHeartbeats 0 in
/-- X10_power 1 5 -/
theorem ty_hn_170 {l : Launch} : ty_ConOk ty_mi l ty_cn_170 := ty_chk (mt := ty_mt) (cn := []) (f := 100000) (ts := ty_tn_170) (sp := none) (ty_run_ok ty_gw ty_hmt ty_k0 _) ty_j_X10_power ty_f_X10_power (by decide +kernel) (ty_every_t (by decide +kernel))
def ty_cn_171 : ty_Con := (180, [.inl (.inl (.ofNat 1, [])), .inl (.inl (.ofNat 6, []))], (0, [], []), [], [((1, [(0, .ofNat 1, .ofNat 1)], []), [.inl (.inl (.ofNat 0, [(0, .ofNat 1)]))], [])], [], 0)
def ty_tn_171 : List ty_Tp := []
set_option maxRecDepth 1000000 in
set_option maxHeartbeats 0 in
/-- X10_power 1 6 -/
theorem ty_hn_171 {l : Launch} : ty_ConOk ty_mi l ty_cn_171 := ty_chk (mt := ty_mt) (cn := []) (f := 100000) (ts := ty_tn_171) (sp := none) (ty_run_ok ty_gw ty_hmt ty_k0 _) ty_j_X10_power ty_f_X10_power (by decide +kernel) (ty_every_t (by decide +kernel))
def ty_cn_172 : ty_Con := (180, [.inl (.inl (.ofNat 1, [])), .inl (.inl (.ofNat 7, []))], (0, [], []), [], [((1, [(0, .ofNat 1, .ofNat 1)], []), [.inl (.inl (.ofNat 0, [(0, .ofNat 1)]))], [])], [], 0)
def ty_tn_172 : List ty_Tp := []
set_option maxRecDepth 1000000 in
set_option maxHeartbeats 0 in
/-- X10_power 1 7 -/
theorem ty_hn_172 {l : Launch} : ty_ConOk ty_mi l ty_cn_172 := ty_chk (mt := ty_mt) (cn := []) (f := 100000) (ts := ty_tn_172) (sp := none) (ty_run_ok ty_gw ty_hmt ty_k0 _) ty_j_X10_power ty_f_X10_power (by decide +kernel) (ty_every_t (by decide +kernel))
def ty_cn_173 : ty_Con := (180, [.inl (.inl (.ofNat 2, [])), .inl (.inl (.ofNat 0, []))], (0, [], []), [], [((1, [(0, .ofNat 1, .ofNat 1)], []), [.inl (.inl (.ofNat 0, [(0, .ofNat 1)]))], [])], [], 0)
def ty_tn_173 : List ty_Tp := []
set_option maxRecDepth 1000000 in
set_option maxHeartbeats 0 in
/-- X10_power 2 0 -/
theorem ty_hn_173 {l : Launch} : ty_ConOk ty_mi l ty_cn_173 := ty_chk (mt := ty_mt) (cn := []) (f := 100000) (ts := ty_tn_173) (sp := none) (ty_run_ok ty_gw ty_hmt ty_k0 _) ty_j_X10_power ty_f_X10_power (by decide +kernel) (ty_every_t (by decide +kernel))
def ty_cn_174 : ty_Con := (180, [.inl (.inl (.ofNat 2, [])), .inl (.inl (.ofNat 1, []))], (0, [], []), [], [((1, [(0, .ofNat 2, .ofNat 2)], []), [.inl (.inl (.ofNat 0, [(0, .ofNat 1)]))], [])], [], 0)
def ty_tn_174 : List ty_Tp := []
set_option maxRecDepth 1000000 in
set_option maxHeartbeats 0 in
/-- X10_power 2 1 -/
theorem ty_hn_174 {l : Launch} : ty_ConOk ty_mi l ty_cn_174 := ty_chk (mt := ty_mt) (cn := []) (f := 100000) (ts := ty_tn_174) (sp := none) (ty_run_ok ty_gw ty_hmt ty_k0 _) ty_j_X10_power ty_f_X10_power (by decide +kernel) (ty_every_t (by decide +kernel))
def ty_cn_175 : ty_Con := (180, [.inl (.inl (.ofNat 2, [])), .inl (.inl (.ofNat 2, []))], (0, [], []), [], [((1, [(0, .ofNat 4, .ofNat 4)], []), [.inl (.inl (.ofNat 0, [(0, .ofNat 1)]))], [])], [], 0)
def ty_tn_175 : List ty_Tp := []
set_option maxRecDepth 1000000 in
set_option maxHeartbeats 0 in
/-- X10_power 2 2 -/
theorem ty_hn_175 {l : Launch} : ty_ConOk ty_mi l ty_cn_175 := ty_chk (mt := ty_mt) (cn := []) (f := 100000) (ts := ty_tn_175) (sp := none) (ty_run_ok ty_gw ty_hmt ty_k0 _) ty_j_X10_power ty_f_X10_power (by decide +kernel) (ty_every_t (by decide +kernel))
def ty_cn_176 : ty_Con := (180, [.inl (.inl (.ofNat 2, [])), .inl (.inl (.ofNat 3, []))], (0, [], []), [], [((1, [(0, .ofNat 8, .ofNat 8)], []), [.inl (.inl (.ofNat 0, [(0, .ofNat 1)]))], [])], [], 0)
def ty_tn_176 : List ty_Tp := []
set_option maxRecDepth 1000000 in
set_option maxHeartbeats 0 in
/-- X10_power 2 3 -/
theorem ty_hn_176 {l : Launch} : ty_ConOk ty_mi l ty_cn_176 := ty_chk (mt := ty_mt) (cn := []) (f := 100000) (ts := ty_tn_176) (sp := none) (ty_run_ok ty_gw ty_hmt ty_k0 _) ty_j_X10_power ty_f_X10_power (by decide +kernel) (ty_every_t (by decide +kernel))
def ty_cn_177 : ty_Con := (180, [.inl (.inl (.ofNat 2, [])), .inl (.inl (.ofNat 4, []))], (0, [], []), [], [((1, [(0, .ofNat 16, .ofNat 16)], []), [.inl (.inl (.ofNat 0, [(0, .ofNat 1)]))], [])], [], 0)
def ty_tn_177 : List ty_Tp := []
set_option maxRecDepth 1000000 in
set_option maxHeartbeats 0 in
/-- X10_power 2 4 -/
theorem ty_hn_177 {l : Launch} : ty_ConOk ty_mi l ty_cn_177 := ty_chk (mt := ty_mt) (cn := []) (f := 100000) (ts := ty_tn_177) (sp := none) (ty_run_ok ty_gw ty_hmt ty_k0 _) ty_j_X10_power ty_f_X10_power (by decide +kernel) (ty_every_t (by decide +kernel))
def ty_cn_178 : ty_Con := (180, [.inl (.inl (.ofNat 2, [])), .inl (.inl (.ofNat 5, []))], (0, [], []), [], [((1, [(0, .ofNat 32, .ofNat 32)], []), [.inl (.inl (.ofNat 0, [(0, .ofNat 1)]))], [])], [], 0)
def ty_tn_178 : List ty_Tp := []
set_option maxRecDepth 1000000 in
set_option maxHeartbeats 0 in
/-- X10_power 2 5 -/
theorem ty_hn_178 {l : Launch} : ty_ConOk ty_mi l ty_cn_178 := ty_chk (mt := ty_mt) (cn := []) (f := 100000) (ts := ty_tn_178) (sp := none) (ty_run_ok ty_gw ty_hmt ty_k0 _) ty_j_X10_power ty_f_X10_power (by decide +kernel) (ty_every_t (by decide +kernel))
def ty_cn_179 : ty_Con := (180, [.inl (.inl (.ofNat 2, [])), .inl (.inl (.ofNat 6, []))], (0, [], []), [], [((1, [(0, .ofNat 64, .ofNat 64)], []), [.inl (.inl (.ofNat 0, [(0, .ofNat 1)]))], [])], [], 0)
def ty_tn_179 : List ty_Tp := []
set_option maxRecDepth 1000000 in
set_option maxHeartbeats 0 in
/-- X10_power 2 6 -/
theorem ty_hn_179 {l : Launch} : ty_ConOk ty_mi l ty_cn_179 := ty_chk (mt := ty_mt) (cn := []) (f := 100000) (ts := ty_tn_179) (sp := none) (ty_run_ok ty_gw ty_hmt ty_k0 _) ty_j_X10_power ty_f_X10_power (by decide +kernel) (ty_every_t (by decide +kernel))
def ty_cn_180 : ty_Con := (180, [.inl (.inl (.ofNat 2, [])), .inl (.inl (.ofNat 7, []))], (0, [], []), [], [((1, [(0, .ofNat 128, .ofNat 128)], []), [.inl (.inl (.ofNat 0, [(0, .ofNat 1)]))], [])], [], 0)
def ty_tn_180 : List ty_Tp := []
set_option maxRecDepth 1000000 in
set_option maxHeartbeats 0 in
/-- X10_power 2 7 -/
theorem ty_hn_180 {l : Launch} : ty_ConOk ty_mi l ty_cn_180 := ty_chk (mt := ty_mt) (cn := []) (f := 100000) (ts := ty_tn_180) (sp := none) (ty_run_ok ty_gw ty_hmt ty_k0 _) ty_j_X10_power ty_f_X10_power (by decide +kernel) (ty_every_t (by decide +kernel))
def ty_cn_181 : ty_Con := (180, [.inl (.inl (.ofNat 3, [])), .inl (.inl (.ofNat 0, []))], (0, [], []), [], [((1, [(0, .ofNat 1, .ofNat 1)], []), [.inl (.inl (.ofNat 0, [(0, .ofNat 1)]))], [])], [], 0)
def ty_tn_181 : List ty_Tp := []
set_option maxRecDepth 1000000 in
set_option maxHeartbeats 0 in
/-- X10_power 3 0 -/
theorem ty_hn_181 {l : Launch} : ty_ConOk ty_mi l ty_cn_181 := ty_chk (mt := ty_mt) (cn := []) (f := 100000) (ts := ty_tn_181) (sp := none) (ty_run_ok ty_gw ty_hmt ty_k0 _) ty_j_X10_power ty_f_X10_power (by decide +kernel) (ty_every_t (by decide +kernel))
def ty_cn_182 : ty_Con := (180, [.inl (.inl (.ofNat 3, [])), .inl (.inl (.ofNat 1, []))], (0, [], []), [], [((1, [(0, .ofNat 3, .ofNat 3)], []), [.inl (.inl (.ofNat 0, [(0, .ofNat 1)]))], [])], [], 0)
def ty_tn_182 : List ty_Tp := []
set_option maxRecDepth 1000000 in
set_option maxHeartbeats 0 in
/-- X10_power 3 1 -/
theorem ty_hn_182 {l : Launch} : ty_ConOk ty_mi l ty_cn_182 := ty_chk (mt := ty_mt) (cn := []) (f := 100000) (ts := ty_tn_182) (sp := none) (ty_run_ok ty_gw ty_hmt ty_k0 _) ty_j_X10_power ty_f_X10_power (by decide +kernel) (ty_every_t (by decide +kernel))
def ty_cn_183 : ty_Con := (180, [.inl (.inl (.ofNat 3, [])), .inl (.inl (.ofNat 2, []))], (0, [], []), [], [((1, [(0, .ofNat 9, .ofNat 9)], []), [.inl (.inl (.ofNat 0, [(0, .ofNat 1)]))], [])], [], 0)
def ty_tn_183 : List ty_Tp := []
set_option maxRecDepth 1000000 in
set_option maxHeartbeats 0 in
/-- X10_power 3 2 -/
theorem ty_hn_183 {l : Launch} : ty_ConOk ty_mi l ty_cn_183 := ty_chk (mt := ty_mt) (cn := []) (f := 100000) (ts := ty_tn_183) (sp := none) (ty_run_ok ty_gw ty_hmt ty_k0 _) ty_j_X10_power ty_f_X10_power (by decide +kernel) (ty_every_t (by decide +kernel))
def ty_cn_184 : ty_Con := (180, [.inl (.inl (.ofNat 3, [])), .inl (.inl (.ofNat 3, []))], (0, [], []), [], [((1, [(0, .ofNat 27, .ofNat 27)], []), [.inl (.inl (.ofNat 0, [(0, .ofNat 1)]))], [])], [], 0)
def ty_tn_184 : List ty_Tp := []
set_option maxRecDepth 1000000 in
set_option maxHeartbeats 0 in
/-- X10_power 3 3 -/
theorem ty_hn_184 {l : Launch} : ty_ConOk ty_mi l ty_cn_184 := ty_chk (mt := ty_mt) (cn := []) (f := 100000) (ts := ty_tn_184) (sp := none) (ty_run_ok ty_gw ty_hmt ty_k0 _) ty_j_X10_power ty_f_X10_power (by decide +kernel) (ty_every_t (by decide +kernel))
def ty_cn_185 : ty_Con := (180, [.inl (.inl (.ofNat 3, [])), .inl (.inl (.ofNat 4, []))], (0, [], []), [], [((1, [(0, .ofNat 81, .ofNat 81)], []), [.inl (.inl (.ofNat 0, [(0, .ofNat 1)]))], [])], [], 0)
def ty_tn_185 : List ty_Tp := []
set_option maxRecDepth 1000000 in
set_option maxHeartbeats 0 in
/-- X10_power 3 4 -/
theorem ty_hn_185 {l : Launch} : ty_ConOk ty_mi l ty_cn_185 := ty_chk (mt := ty_mt) (cn := []) (f := 100000) (ts := ty_tn_185) (sp := none) (ty_run_ok ty_gw ty_hmt ty_k0 _) ty_j_X10_power ty_f_X10_power (by decide +kernel) (ty_every_t (by decide +kernel))
def ty_cn_186 : ty_Con := (180, [.inl (.inl (.ofNat 3, [])), .inl (.inl (.ofNat 5, []))], (0, [], []), [], [((1, [(0, .ofNat 243, .ofNat 243)], []), [.inl (.inl (.ofNat 0, [(0, .ofNat 1)]))], [])], [], 0)
def ty_tn_186 : List ty_Tp := []
set_option maxRecDepth 1000000 in
set_option maxHeartbeats 0 in
/-- X10_power 3 5 -/
theorem ty_hn_186 {l : Launch} : ty_ConOk ty_mi l ty_cn_186 := ty_chk (mt := ty_mt) (cn := []) (f := 100000) (ts := ty_tn_186) (sp := none) (ty_run_ok ty_gw ty_hmt ty_k0 _) ty_j_X10_power ty_f_X10_power (by decide +kernel) (ty_every_t (by decide +kernel))
def ty_cn_187 : ty_Con := (180, [.inl (.inl (.ofNat 3, [])), .inl (.inl (.ofNat 6, []))], (0, [], []), [], [((1, [(0, .ofNat 729, .ofNat 729)], []), [.inl (.inl (.ofNat 0, [(0, .ofNat 1)]))], [])], [], 0)
def ty_tn_187 : List ty_Tp := []
set_option maxRecDepth 1000000 in
set_option maxHeartbeats 0 in
/-- X10_power 3 6 -/
theorem ty_hn_187 {l : Launch} : ty_ConOk ty_mi l ty_cn_187 := ty_chk (mt := ty_mt) (cn := []) (f := 100000) (ts := ty_tn_187) (sp := none) (ty_run_ok ty_gw ty_hmt ty_k0 _) ty_j_X10_power ty_f_X10_power (by decide +kernel) (ty_every_t (by decide +kernel))
def ty_cn_188 : ty_Con := (180, [.inl (.inl (.ofNat 3, [])), .inl (.inl (.ofNat 7, []))], (0, [], []), [], [((1, [(0, .ofNat 2187, .ofNat 2187)], []), [.inl (.inl (.ofNat 0, [(0, .ofNat 1)]))], [])], [], 0)
def ty_tn_188 : List ty_Tp := []
set_option maxRecDepth 1000000 in
set_option maxHeartbeats 0 in
/-- X10_power 3 7 -/
theorem ty_hn_188 {l : Launch} : ty_ConOk ty_mi l ty_cn_188 := ty_chk (mt := ty_mt) (cn := []) (f := 100000) (ts := ty_tn_188) (sp := none) (ty_run_ok ty_gw ty_hmt ty_k0 _) ty_j_X10_power ty_f_X10_power (by decide +kernel) (ty_every_t (by decide +kernel))
def ty_cn_189 : ty_Con := (180, [.inl (.inl (.ofNat 4, [])), .inl (.inl (.ofNat 0, []))], (0, [], []), [], [((1, [(0, .ofNat 1, .ofNat 1)], []), [.inl (.inl (.ofNat 0, [(0, .ofNat 1)]))], [])], [], 0)
def ty_tn_189 : List ty_Tp := []
set_option maxRecDepth 1000000 in
set_option maxHeartbeats 0 in
/-- X10_power 4 0 -/
theorem ty_hn_189 {l : Launch} : ty_ConOk ty_mi l ty_cn_189 := ty_chk (mt := ty_mt) (cn := []) (f := 100000) (ts := ty_tn_189) (sp := none) (ty_run_ok ty_gw ty_hmt ty_k0 _) ty_j_X10_power ty_f_X10_power (by decide +kernel) (ty_every_t (by decide +kernel))
def ty_cn_190 : ty_Con := (180, [.inl (.inl (.ofNat 4, [])), .inl (.inl (.ofNat 1, []))], (0, [], []), [], [((1, [(0, .ofNat 4, .ofNat 4)], []), [.inl (.inl (.ofNat 0, [(0, .ofNat 1)]))], [])], [], 0)
def ty_tn_190 : List ty_Tp := []
set_option maxRecDepth 1000000 in
set_option maxHeartbeats 0 in
/-- X10_power 4 1 -/
theorem ty_hn_190 {l : Launch} : ty_ConOk ty_mi l ty_cn_190 := ty_chk (mt := ty_mt) (cn := []) (f := 100000) (ts := ty_tn_190) (sp := none) (ty_run_ok ty_gw ty_hmt ty_k0 _) ty_j_X10_power ty_f_X10_power (by decide +kernel) (ty_every_t (by decide +kernel))
def ty_cn_191 : ty_Con := (180, [.inl (.inl (.ofNat 4, [])), .inl (.inl (.ofNat 2, []))], (0, [], []), [], [((1, [(0, .ofNat 16, .ofNat 16)], []), [.inl (.inl (.ofNat 0, [(0, .ofNat 1)]))], [])], [], 0)
def ty_tn_191 : List ty_Tp := []
set_option maxRecDepth 1000000 in
set_option maxHeartbeats 0 in
/-- X10_power 4 2 -/
theorem ty_hn_191 {l : Launch} : ty_ConOk ty_mi l ty_cn_191 := ty_chk (mt := ty_mt) (cn := []) (f := 100000) (ts := ty_tn_191) (sp := none) (ty_run_ok ty_gw ty_hmt ty_k0 _) ty_j_X10_power ty_f_X10_power (by decide +kernel) (ty_every_t (by decide +kernel))
def ty_cn_192 : ty_Con := (180, [.inl (.inl (.ofNat 4, [])), .inl (.inl (.ofNat 3, []))], (0, [], []), [], [((1, [(0, .ofNat 64, .ofNat 64)], []), [.inl (.inl (.ofNat 0, [(0, .ofNat 1)]))], [])], [], 0)
def ty_tn_192 : List ty_Tp := []
set_option maxRecDepth 1000000 in
set_option maxHeartbeats 0 in
/-- X10_power 4 3 -/
theorem ty_hn_192 {l : Launch} : ty_ConOk ty_mi l ty_cn_192 := ty_chk (mt := ty_mt) (cn := []) (f := 100000) (ts := ty_tn_192) (sp := none) (ty_run_ok ty_gw ty_hmt ty_k0 _) ty_j_X10_power ty_f_X10_power (by decide +kernel) (ty_every_t (by decide +kernel))
def ty_cn_193 : ty_Con := (180, [.inl (.inl (.ofNat 4, [])), .inl (.inl (.ofNat 4, []))], (0, [], []), [], [((1, [(0, .ofNat 256, .ofNat 256)], []), [.inl (.inl (.ofNat 0, [(0, .ofNat 1)]))], [])], [], 0)
def ty_tn_193 : List ty_Tp := []
set_option maxRecDepth 1000000 in
set_option maxHeartbeats 0 in
/-- X10_power 4 4 -/
theorem ty_hn_193 {l : Launch} : ty_ConOk ty_mi l ty_cn_193 := ty_chk (mt := ty_mt) (cn := []) (f := 100000) (ts := ty_tn_193) (sp := none) (ty_run_ok ty_gw ty_hmt ty_k0 _) ty_j_X10_power ty_f_X10_power (by decide +kernel) (ty_every_t (by decide +kernel))
def ty_cn_194 : ty_Con := (180, [.inl (.inl (.ofNat 4, [])), .inl (.inl (.ofNat 5, []))], (0, [], []), [], [((1, [(0, .ofNat 1024, .ofNat 1024)], []), [.inl (.inl (.ofNat 0, [(0, .ofNat 1)]))], [])], [], 0)
def ty_tn_194 : List ty_Tp := []
set_option maxRecDepth 1000000 in
set_option maxHeartbeats 0 in
/-- X10_power 4 5 -/
theorem ty_hn_194 {l : Launch} : ty_ConOk ty_mi l ty_cn_194 := ty_chk (mt := ty_mt) (cn := []) (f := 100000) (ts := ty_tn_194) (sp := none) (ty_run_ok ty_gw ty_hmt ty_k0 _) ty_j_X10_power ty_f_X10_power (by decide +kernel) (ty_every_t (by decide +kernel))
def ty_cn_195 : ty_Con := (180, [.inl (.inl (.ofNat 4, [])), .inl (.inl (.ofNat 6, []))], (0, [], []), [], [((1, [(0, .ofNat 4096, .ofNat 4096)], []), [.inl (.inl (.ofNat 0, [(0, .ofNat 1)]))], [])], [], 0)
def ty_tn_195 : List ty_Tp := []
set_option maxRecDepth 1000000 in
set_option maxHeartbeats 0 in
/-- X10_power 4 6 -/
theorem ty_hn_195 {l : Launch} : ty_ConOk ty_mi l ty_cn_195 := ty_chk (mt := ty_mt) (cn := []) (f := 100000) (ts := ty_tn_195) (sp := none) (ty_run_ok ty_gw ty_hmt ty_k0 _) ty_j_X10_power ty_f_X10_power (by decide +kernel) (ty_every_t (by decide +kernel))
def ty_cn_196 : ty_Con := (180, [.inl (.inl (.ofNat 4, [])), .inl (.inl (.ofNat 7, []))], (0, [], []), [], [((1, [(0, .ofNat 16384, .ofNat 16384)], []), [.inl (.inl (.ofNat 0, [(0, .ofNat 1)]))], [])], [], 0)
def ty_tn_196 : List ty_Tp := []
set_option maxRecDepth 1000000 in
set_option maxHeartbeats 0 in
/-- X10_power 4 7 -/
theorem ty_hn_196 {l : Launch} : ty_ConOk ty_mi l ty_cn_196 := ty_chk (mt := ty_mt) (cn := []) (f := 100000) (ts := ty_tn_196) (sp := none) (ty_run_ok ty_gw ty_hmt ty_k0 _) ty_j_X10_power ty_f_X10_power (by decide +kernel) (ty_every_t (by decide +kernel))
def ty_cn_197 : ty_Con := (180, [.inl (.inl (.ofNat 100, [])), .inl (.inl (.ofNat 0, [(0, .ofNat 1)]))], (1, [(0, .ofNat 0, .ofNat 4)], []), [], [((2, [(1, .ofNat 1, .ofNat 100000000)], []), [.inl (.inl (.ofNat 0, [(1, .ofNat 1)]))], [])], [], 0)
def ty_tn_197 : List ty_Tp := []
set_option maxRecDepth 1000000 in
set_option maxHeartbeats 0 in
/-- X10_power -/
theorem ty_hn_197 {l : Launch} : ty_ConOk ty_mi l ty_cn_197 := ty_chk (mt := ty_mt) (cn := []) (f := 100000) (ts := ty_tn_197) (sp := some (.inl 0)) (ty_run_ok ty_gw ty_hmt ty_k0 _) ty_j_X10_power ty_f_X10_power (by decide +kernel) (ty_every_t (by decide +kernel))
def ty_cn_198 : ty_Con := (180, [.inl (.inl (.ofNat 0, [(0, .ofNat 1)])), .inl (.inl (.ofNat 0, [(1, .ofNat 1)]))], (2, [(0, .negSucc 2147483647, .ofNat 2147483647), (1, .ofNat 0, .ofNat 4)], []), [], [((3, [(2, .negSucc 2147483647, .ofNat 2147483647)], []), [.inl (.inl (.ofNat 0, [(2, .ofNat 1)]))], [])], [], 0)
def ty_tn_198 : List ty_Tp := [(4, (4, [(0, .negSucc 2147483647, .ofNat 2147483647), (1, .ofNat 0, .ofNat 4), (2, .negSucc 2147483647, .ofNat 2147483647), (3, .ofNat 0, .ofNat 4)], []), [(0, .inl (.inl (.ofNat 0, [(0, .ofNat 1)]))), (1, .inl (.inl (.ofNat 0, [(1, .ofNat 1)]))), (2, .inl (.inl (.ofNat 0, [(2, .ofNat 1)]))), (3, .inl (.inl (.ofNat 0, [(3, .ofNat 1)])))], [], [(.ofNat 0, []), (.ofNat 0, [(3, .negSucc 0)]), (.ofNat 0, [])])]
set_option maxRecDepth 1000000 in
set_option maxHeartbeats 0 in
/-- X10_power any -/
theorem ty_hn_198 {l : Launch} : ty_ConOk ty_mi l ty_cn_198 := ty_chk (mt := ty_mt) (cn := []) (f := 100000) (ts := ty_tn_198) (sp := none) (ty_run_ok ty_gw ty_hmt ty_k0 _) ty_j_X10_power ty_f_X10_power (by decide +kernel) (ty_every_t (by decide +kernel))
