theorem ty_k0 {P : ty_Con → Prop} : ∀ C ∈ ([] : List ty_Con), P C := fun _ h => by cases h
theorem ty_kc {P : ty_Con → Prop} {c : ty_Con} {l : List ty_Con} (h : P c) (t : ∀ C ∈ l, P C) : ∀ C ∈ c :: l, P C := fun C hC => by
  rcases List.mem_cons.mp hC with rfl | hC
  · exact h
  · exact t C hC
def ty_cn_0 : ty_Con := (280, [.inr (.inl (34, (.ofNat 0, [(0, .ofNat 1)]))), .inl (.inl (.ofNat 0, [(1, .ofNat 1)]))], (2, [(0, .ofNat 42, .ofNat 492), (1, .negSucc 2147483647, .ofNat 2147483647)], []), [], [((2, [], []), [], [])], [(34, none)], 0)
def ty_tn_0 : List ty_Tp := [(5, (3, [(0, .ofNat 42, .ofNat 492), (1, .negSucc 2147483647, .ofNat 2147483647), (2, .ofNat 0, .ofNat 4)], []), [(0, .inr (.inl (34, (.ofNat 0, [(0, .ofNat 1)])))), (1, .inl (.inl (.ofNat 0, [(1, .ofNat 1)]))), (2, .inl (.inl (.ofNat 0, [(2, .ofNat 1)]))), (3, .inl (.inl (.ofNat 4, [])))], [], [(.ofNat 0, []), (.ofNat 0, [(2, .negSucc 0)]), (.ofNat 0, [])])]
theorem ty_j_J7_fill_53178 : ty_mi 280 = some ty_i_J7_fill_53178 := (ex_nth_get _ _).trans rfl
set_option maxRecDepth 1000000 in
set_option maxHeartbeats 0 in
/-- fill Scene.size -/
theorem ty_hn_0 {l : Launch} : ty_ConOk ty_mi l ty_cn_0 := ty_chk (mt := ty_mt) (cn := []) (f := 100000) (ts := ty_tn_0) (sp := none) (ty_run_ok ty_gw ty_hmt ty_k0 _) ty_j_J7_fill_53178 ty_f_J7_fill_53178 (by decide +kernel) (ty_every_t (by decide +kernel))
def ty_cn_1 : ty_Con := (280, [.inr (.inl (32, (.ofNat 0, [(0, .ofNat 1)]))), .inl (.inl (.ofNat 0, [(1, .ofNat 1)]))], (2, [(0, .ofNat 40, .ofNat 490), (1, .negSucc 2147483647, .ofNat 2147483647)], []), [], [((2, [], []), [], [])], [(32, none)], 0)
def ty_tn_1 : List ty_Tp := [(5, (3, [(0, .ofNat 40, .ofNat 490), (1, .negSucc 2147483647, .ofNat 2147483647), (2, .ofNat 0, .ofNat 8)], []), [(0, .inr (.inl (32, (.ofNat 0, [(0, .ofNat 1)])))), (1, .inl (.inl (.ofNat 0, [(1, .ofNat 1)]))), (2, .inl (.inl (.ofNat 0, [(2, .ofNat 1)]))), (3, .inl (.inl (.ofNat 8, [])))], [], [(.ofNat 0, []), (.ofNat 0, [(2, .negSucc 0)]), (.ofNat 0, [])])]
set_option maxRecDepth 1000000 in
set_option maxHeartbeats 0 in
/-- fill Scene.waited -/
theorem ty_hn_1 {l : Launch} : ty_ConOk ty_mi l ty_cn_1 := ty_chk (mt := ty_mt) (cn := []) (f := 100000) (ts := ty_tn_1) (sp := none) (ty_run_ok ty_gw ty_hmt ty_k0 _) ty_j_J7_fill_53178 ty_f_J7_fill_53178 (by decide +kernel) (ty_every_t (by decide +kernel))
def ty_cn_2 : ty_Con := (280, [.inr (.inl (50, (.ofNat 394, []))), .inl (.inl (.ofNat 0, [(0, .ofNat 1)]))], (1, [(0, .negSucc 2147483647, .ofNat 2147483647)], []), [], [((1, [], []), [], [])], [(50, none)], 0)
def ty_tn_2 : List ty_Tp := [(5, (2, [(0, .negSucc 2147483647, .ofNat 2147483647), (1, .ofNat 0, .ofNat 256)], []), [(0, .inr (.inl (50, (.ofNat 394, [])))), (1, .inl (.inl (.ofNat 0, [(0, .ofNat 1)]))), (2, .inl (.inl (.ofNat 0, [(1, .ofNat 1)]))), (3, .inl (.inl (.ofNat 256, [])))], [], [(.ofNat 0, []), (.ofNat 0, [(1, .negSucc 0)]), (.ofNat 0, [])])]
set_option maxRecDepth 1000000 in
set_option maxHeartbeats 0 in
/-- fill H.sightings.alike -/
theorem ty_hn_2 {l : Launch} : ty_ConOk ty_mi l ty_cn_2 := ty_chk (mt := ty_mt) (cn := []) (f := 100000) (ts := ty_tn_2) (sp := none) (ty_run_ok ty_gw ty_hmt ty_k0 _) ty_j_J7_fill_53178 ty_f_J7_fill_53178 (by decide +kernel) (ty_every_t (by decide +kernel))
def ty_cn_3 : ty_Con := (268, [.inl (.inl (.ofNat 0, [(0, .ofNat 1)]))], (1, [(0, .negSucc 2147483647, .ofNat 2147483647)], []), [], [((2, [(1, .ofNat 0, .ofNat 63)], []), [.inl (.inl (.ofNat 0, [(1, .ofNat 1)]))], [])], [], 0)
def ty_tn_3 : List ty_Tp := []
theorem ty_j_J6_bitCount_0f7a4 : ty_mi 268 = some ty_i_J6_bitCount_0f7a4 := (ex_nth_get _ _).trans rfl
set_option maxRecDepth 1000000 in
set_option maxHeartbeats 0 in
/-- J6_bitCount_0f7a4 -/
theorem ty_hn_3 {l : Launch} : ty_ConOk ty_mi l ty_cn_3 := ty_chk (mt := ty_mt) (cn := []) (f := 100000) (ts := ty_tn_3) (sp := none) (ty_run_ok ty_gw ty_hmt ty_k0 _) ty_j_J6_bitCount_0f7a4 ty_f_J6_bitCount_0f7a4 (by decide +kernel) (ty_every_t (by decide +kernel))
def ty_cn_4 : ty_Con := (9, [.inr (.inl (24, (.ofNat 0, [(0, .ofNat 1)]))), .inr (.inl (35, (.ofNat 0, [(1, .ofNat 1)])))], (2, [(0, .ofNat 28, .ofNat 32), (1, .ofNat 43, .ofNat 493)], []), [], [((3, [(2, .negSucc 2147483647, .ofNat 2147483647)], []), [.inl (.inl (.ofNat 0, [(2, .ofNat 1)]))], [])], [(27, none)], 1)
def ty_tn_4 : List ty_Tp := [(4, (4, [(0, .ofNat 28, .ofNat 32), (1, .ofNat 43, .ofNat 493), (2, .ofNat 0, .ofNat 48), (3, .ofNat 0, .ofNat 300)], []), [(0, .inr (.inl (24, (.ofNat 0, [(0, .ofNat 1)])))), (1, .inr (.inl (35, (.ofNat 0, [(1, .ofNat 1)])))), (2, .inl (.inl (.ofNat 0, [(2, .ofNat 1)]))), (3, .inl (.inl (.ofNat 0, [(3, .ofNat 1)])))], [], [(.ofNat 0, []), (.ofNat 0, [(3, .negSucc 0)]), (.ofNat 0, [])])]
theorem ty_j_X2_valueBy : ty_mi 9 = some ty_i_X2_valueBy := (ex_nth_get _ _).trans rfl
set_option maxRecDepth 1000000 in
set_option maxHeartbeats 0 in
/-- X2_valueBy -/
theorem ty_hn_4 {l : Launch} : ty_ConOk ty_mi l ty_cn_4 := ty_chk (mt := ty_mt) (cn := []) (f := 100000) (ts := ty_tn_4) (sp := none) (ty_run_ok ty_gw ty_hmt ty_k0 _) ty_j_X2_valueBy ty_f_X2_valueBy (by decide +kernel) (ty_every_t (by decide +kernel))
def ty_cn_5 : ty_Con := (45, [.inr (.inl (28, (.ofNat 0, [(0, .ofNat 1)]))), .inl (.inl (.ofNat 0, [(1, .ofNat 1)]))], (2, [(0, .ofNat 36, .ofNat 486), (1, .ofNat 0, .ofNat 7)], []), [], [((2, [], []), [], [])], [(29, none), (30, none), (34, none)], 0)
def ty_tn_5 : List ty_Tp := [(14, (4, [(0, .ofNat 36, .ofNat 486), (1, .ofNat 0, .ofNat 7), (2, .ofNat 0, .ofNat 3), (3, .ofNat 0, .ofNat 8)], []), [(0, .inr (.inl (28, (.ofNat 0, [(0, .ofNat 1)])))), (1, .inl (.inl (.ofNat 0, [(1, .ofNat 1)]))), (2, .inl (.inl (.ofNat 0, [(2, .ofNat 1)]))), (3, .inl (.inl (.ofNat 0, [(3, .ofNat 1)])))], [], [(.ofNat 0, []), (.ofNat 0, [(3, .negSucc 0)]), (.ofNat 0, [])])]
theorem ty_j_X4_leave : ty_mi 45 = some ty_i_X4_leave := (ex_nth_get _ _).trans rfl
set_option maxRecDepth 1000000 in
set_option maxHeartbeats 0 in
/-- X4_leave -/
theorem ty_hn_5 {l : Launch} : ty_ConOk ty_mi l ty_cn_5 := ty_chk (mt := ty_mt) (cn := []) (f := 100000) (ts := ty_tn_5) (sp := none) (ty_run_ok ty_gw ty_hmt ty_k0 _) ty_j_X4_leave ty_f_X4_leave (by decide +kernel) (ty_every_t (by decide +kernel))
def ty_cn_6 : ty_Con := (39, [.inr (.inl (28, (.ofNat 0, [(0, .ofNat 1)]))), .inl (.inl (.ofNat 0, [(1, .ofNat 1)])), .inl (.inl (.ofNat 0, [(2, .ofNat 1)]))], (3, [(0, .ofNat 36, .ofNat 486), (1, .ofNat 0, .ofNat 7), (2, .negSucc 2147483647, .ofNat 2147483647)], []), [], [((4, [(3, .ofNat 43, .ofNat 493)], []), [.inr (.inl (35, (.ofNat 0, [(3, .ofNat 1)])))], [])], [(35, some 0), (35, some 1), (35, some 2), (35, some 3), (35, some 4), (35, some 5)], 1)
def ty_tn_6 : List ty_Tp := [(5, (5, [(0, .ofNat 36, .ofNat 486), (1, .ofNat 0, .ofNat 7), (2, .negSucc 2147483647, .ofNat 2147483647), (3, .negSucc 2147483647, .ofNat 2147483647), (4, .ofNat 0, .ofNat 8)], []), [(0, .inr (.inl (28, (.ofNat 0, [(0, .ofNat 1)])))), (1, .inl (.inl (.ofNat 0, [(1, .ofNat 1)]))), (2, .inl (.inl (.ofNat 0, [(2, .ofNat 1)]))), (3, .inl (.inl (.ofNat 0, [(3, .ofNat 1)]))), (4, .inl (.inl (.ofNat 0, [(4, .ofNat 1)])))], [], [(.ofNat 0, []), (.ofNat 0, [(4, .negSucc 0)]), (.ofNat 0, [])])]
theorem ty_j_X4_factsOf : ty_mi 39 = some ty_i_X4_factsOf := (ex_nth_get _ _).trans rfl
set_option maxRecDepth 1000000 in
set_option maxHeartbeats 0 in
/-- X4_factsOf -/
theorem ty_hn_6 {l : Launch} : ty_ConOk ty_mi l ty_cn_6 := ty_chk (mt := ty_mt) (cn := [ty_cn_3]) (f := 100000) (ts := ty_tn_6) (sp := none) (ty_run_ok ty_gw ty_hmt (ty_kc ty_hn_3 ty_k0) _) ty_j_X4_factsOf ty_f_X4_factsOf (by decide +kernel) (ty_every_t (by decide +kernel))
def ty_cn_7 : ty_Con := (31, [.inr (.inl (28, (.ofNat 0, [(0, .ofNat 1)])))], (1, [(0, .ofNat 36, .ofNat 486)], []), [], [((2, [(1, .ofNat 0, .ofNat 255)], []), [.inl (.inl (.ofNat 0, [(1, .ofNat 1)]))], [])], [], 0)
def ty_tn_7 : List ty_Tp := [(4, (3, [(0, .ofNat 36, .ofNat 486), (1, .ofNat 0, .ofNat 255), (2, .ofNat 0, .ofNat 8)], []), [(0, .inr (.inl (28, (.ofNat 0, [(0, .ofNat 1)])))), (1, .inl (.inl (.ofNat 0, [(1, .ofNat 1)]))), (2, .inl (.inl (.ofNat 0, [(2, .ofNat 1)])))], [], [(.ofNat 0, []), (.ofNat 0, [(2, .negSucc 0)]), (.ofNat 0, [])])]
theorem ty_j_X4_whoIsBy : ty_mi 31 = some ty_i_X4_whoIsBy := (ex_nth_get _ _).trans rfl
set_option maxRecDepth 1000000 in
set_option maxHeartbeats 0 in
/-- X4_whoIsBy -/
theorem ty_hn_7 {l : Launch} : ty_ConOk ty_mi l ty_cn_7 := ty_chk (mt := ty_mt) (cn := []) (f := 100000) (ts := ty_tn_7) (sp := none) (ty_run_ok ty_gw ty_hmt ty_k0 _) ty_j_X4_whoIsBy ty_f_X4_whoIsBy (by decide +kernel) (ty_every_t (by decide +kernel))
def ty_cn_8 : ty_Con := (33, [.inr (.inl (28, (.ofNat 0, [(0, .ofNat 1)]))), .inl (.inl (.ofNat 0, [(1, .ofNat 1)]))], (2, [(0, .ofNat 36, .ofNat 486), (1, .negSucc 2147483647, .ofNat 2147483647)], []), [], [((3, [(2, .ofNat 0, .ofNat 255)], []), [.inl (.inl (.ofNat 0, [(2, .ofNat 1)]))], [])], [], 0)
def ty_tn_8 : List ty_Tp := [(4, (4, [(0, .ofNat 36, .ofNat 486), (1, .negSucc 2147483647, .ofNat 2147483647), (2, .ofNat 0, .ofNat 255), (3, .ofNat 0, .ofNat 8)], []), [(0, .inr (.inl (28, (.ofNat 0, [(0, .ofNat 1)])))), (1, .inl (.inl (.ofNat 0, [(1, .ofNat 1)]))), (2, .inl (.inl (.ofNat 0, [(2, .ofNat 1)]))), (3, .inl (.inl (.ofNat 0, [(3, .ofNat 1)])))], [], [(.ofNat 0, []), (.ofNat 0, [(3, .negSucc 0)]), (.ofNat 0, [])])]
theorem ty_j_X4_sayers : ty_mi 33 = some ty_i_X4_sayers := (ex_nth_get _ _).trans rfl
set_option maxRecDepth 1000000 in
set_option maxHeartbeats 0 in
/-- X4_sayers -/
theorem ty_hn_8 {l : Launch} : ty_ConOk ty_mi l ty_cn_8 := ty_chk (mt := ty_mt) (cn := []) (f := 100000) (ts := ty_tn_8) (sp := none) (ty_run_ok ty_gw ty_hmt ty_k0 _) ty_j_X4_sayers ty_f_X4_sayers (by decide +kernel) (ty_every_t (by decide +kernel))
def ty_cn_9 : ty_Con := (29, [.inr (.inl (28, (.ofNat 0, [(0, .ofNat 1)])))], (1, [(0, .ofNat 36, .ofNat 486)], []), [], [((1, [], []), [], [])], [(28, some 6), (28, some 7), (28, some 8), (28, some 9), (28, some 10), (29, none), (30, none), (31, none), (32, none), (33, none), (34, none)], 1)
def ty_tn_9 : List ty_Tp := [(18, (2, [(0, .ofNat 36, .ofNat 486), (1, .ofNat 0, .ofNat 8)], []), [(0, .inr (.inl (28, (.ofNat 0, [(0, .ofNat 1)])))), (1, .inl (.inl (.ofNat 0, [(1, .ofNat 1)])))], [], [(.ofNat 0, []), (.ofNat 0, [(1, .negSucc 0)]), (.ofNat 0, [])])]
theorem ty_j_X4_begin : ty_mi 29 = some ty_i_X4_begin := (ex_nth_get _ _).trans rfl
set_option maxRecDepth 1000000 in
set_option maxHeartbeats 0 in
/-- X4_begin -/
theorem ty_hn_9 {l : Launch} : ty_ConOk ty_mi l ty_cn_9 := ty_chk (mt := ty_mt) (cn := [ty_cn_0, ty_cn_1, ty_cn_2]) (f := 100000) (ts := ty_tn_9) (sp := none) (ty_run_ok ty_gw ty_hmt (ty_kc ty_hn_0 (ty_kc ty_hn_1 (ty_kc ty_hn_2 ty_k0))) _) ty_j_X4_begin ty_f_X4_begin (by decide +kernel) (ty_every_t (by decide +kernel))
def ty_cn_10 : ty_Con := (42, [.inr (.inl (28, (.ofNat 0, [(0, .ofNat 1)]))), .inl (.inl (.ofNat 0, [(1, .ofNat 1)]))], (2, [(0, .ofNat 36, .ofNat 486), (1, .negSucc 2147483647, .ofNat 2147483647)], []), [], [((3, [(2, .negSucc 0, .ofNat 7)], []), [.inl (.inl (.ofNat 0, [(2, .ofNat 1)]))], [])], [], 0)
def ty_tn_10 : List ty_Tp := [(2, (3, [(0, .ofNat 36, .ofNat 486), (1, .negSucc 2147483647, .ofNat 2147483647), (2, .ofNat 0, .ofNat 8)], []), [(0, .inr (.inl (28, (.ofNat 0, [(0, .ofNat 1)])))), (1, .inl (.inl (.ofNat 0, [(1, .ofNat 1)]))), (2, .inl (.inl (.ofNat 0, [(2, .ofNat 1)])))], [], [(.ofNat 0, []), (.ofNat 0, [(2, .negSucc 0)]), (.ofNat 0, [])])]
theorem ty_j_X4_firstOf : ty_mi 42 = some ty_i_X4_firstOf := (ex_nth_get _ _).trans rfl
set_option maxRecDepth 1000000 in
set_option maxHeartbeats 0 in
/-- X4_firstOf -/
theorem ty_hn_10 {l : Launch} : ty_ConOk ty_mi l ty_cn_10 := ty_chk (mt := ty_mt) (cn := []) (f := 100000) (ts := ty_tn_10) (sp := none) (ty_run_ok ty_gw ty_hmt ty_k0 _) ty_j_X4_firstOf ty_f_X4_firstOf (by decide +kernel) (ty_every_t (by decide +kernel))
def ty_cn_11 : ty_Con := (43, [.inr (.inl (28, (.ofNat 0, [(0, .ofNat 1)]))), .inl (.inl (.ofNat 0, [(1, .ofNat 1)])), .inl (.inl (.ofNat 0, [(2, .ofNat 1)]))], (3, [(0, .ofNat 36, .ofNat 486), (1, .ofNat 0, .ofNat 7), (2, .ofNat 0, .ofNat 1)], []), [], [((3, [], []), [], [])], [(27, none), (28, some 6), (28, some 7), (29, none), (30, none), (33, none), (34, none), (35, some 0), (35, some 1), (35, some 2), (35, some 3), (35, some 4), (35, some 5)], 2)
def ty_tn_11 : List ty_Tp := [(63, (7, [(0, .ofNat 36, .ofNat 486), (1, .ofNat 0, .ofNat 7), (2, .ofNat 0, .ofNat 1), (3, .ofNat 43, .ofNat 493), (4, .negSucc 2147483647, .ofNat 2147483647), (5, .ofNat 0, .ofNat 1), (6, .ofNat 0, .ofNat 8)], []), [(0, .inr (.inl (28, (.ofNat 0, [(0, .ofNat 1)])))), (1, .inl (.inl (.ofNat 0, [(1, .ofNat 1)]))), (2, .inl (.inl (.ofNat 0, [(2, .ofNat 1)]))), (3, .inr (.inl (35, (.ofNat 0, [(3, .ofNat 1)])))), (4, .inl (.inl (.ofNat 0, [(5, .ofNat 1)]))), (5, .inl (.inl (.ofNat 0, [(6, .ofNat 1)])))], [(28, (.ofNat 0, [(0, .ofNat 1)]), (.ofNat 7, []), .inl (.inl (.ofNat 0, [(4, .ofNat 1)])))], [(.ofNat 0, []), (.ofNat 0, [(6, .negSucc 0)]), (.ofNat 0, [])])]
theorem ty_j_X4_listen : ty_mi 43 = some ty_i_X4_listen := (ex_nth_get _ _).trans rfl
set_option maxRecDepth 1000000 in
set_option maxHeartbeats 0 in
/-- X4_listen -/
theorem ty_hn_11 {l : Launch} : ty_ConOk ty_mi l ty_cn_11 := ty_chk (mt := ty_mt) (cn := [ty_cn_4, ty_cn_5, ty_cn_6]) (f := 100000) (ts := ty_tn_11) (sp := none) (ty_run_ok ty_gw ty_hmt (ty_kc ty_hn_4 (ty_kc ty_hn_5 (ty_kc ty_hn_6 ty_k0))) _) ty_j_X4_listen ty_f_X4_listen (by decide +kernel) (ty_every_t (by decide +kernel))
def ty_cn_12 : ty_Con := (41, [.inr (.inl (28, (.ofNat 0, [(0, .ofNat 1)]))), .inl (.inl (.ofNat 0, [(1, .ofNat 1)])), .inl (.inl (.ofNat 0, [(2, .ofNat 1)]))], (3, [(0, .ofNat 36, .ofNat 486), (1, .negSucc 2147483647, .ofNat 2147483647), (2, .ofNat 0, .ofNat 1)], []), [], [((4, [(3, .negSucc 0, .ofNat 7)], []), [.inl (.inl (.ofNat 0, [(3, .ofNat 1)]))], [])], [(27, none), (28, some 6), (28, some 7), (28, some 8), (28, some 9), (29, none), (30, none), (32, none), (33, none), (34, none), (35, some 0), (35, some 1), (35, some 2), (35, some 3), (35, some 4), (35, some 5)], 3)
def ty_tn_12 : List ty_Tp := [(20, (5, [(0, .ofNat 36, .ofNat 486), (1, .negSucc 2147483647, .ofNat 2147483647), (2, .ofNat 0, .ofNat 1), (3, .negSucc 0, .ofNat 7), (4, .ofNat 0, .ofNat 8)], []), [(0, .inr (.inl (28, (.ofNat 0, [(0, .ofNat 1)])))), (1, .inl (.inl (.ofNat 0, [(1, .ofNat 1)]))), (2, .inl (.inl (.ofNat 0, [(2, .ofNat 1)]))), (3, .inl (.inl (.ofNat 0, [(3, .ofNat 1)]))), (4, .inl (.inl (.ofNat 0, [(4, .ofNat 1)])))], [], [(.ofNat 0, []), (.ofNat 0, [(4, .negSucc 0)]), (.ofNat 0, [])])]
theorem ty_j_X4_openTo : ty_mi 41 = some ty_i_X4_openTo := (ex_nth_get _ _).trans rfl
set_option maxRecDepth 1000000 in
set_option maxHeartbeats 0 in
/-- X4_openTo -/
theorem ty_hn_12 {l : Launch} : ty_ConOk ty_mi l ty_cn_12 := ty_chk (mt := ty_mt) (cn := [ty_cn_10, ty_cn_11]) (f := 100000) (ts := ty_tn_12) (sp := none) (ty_run_ok ty_gw ty_hmt (ty_kc ty_hn_10 (ty_kc ty_hn_11 ty_k0)) _) ty_j_X4_openTo ty_f_X4_openTo (by decide +kernel) (ty_every_t (by decide +kernel))
def ty_cn_13 : ty_Con := (30, [.inr (.inl (28, (.ofNat 0, [(0, .ofNat 1)]))), .inr (.inl (28, (.ofNat 0, [(1, .ofNat 1)])))], (2, [(0, .ofNat 36, .ofNat 486), (1, .ofNat 36, .ofNat 486)], []), [], [((2, [], []), [], [])], [(28, some 6), (28, some 7), (28, some 8), (28, some 9), (28, some 10), (29, none), (30, none), (31, none), (32, none), (33, none), (34, none)], 0)
def ty_tn_13 : List ty_Tp := []
theorem ty_j_X4_copy : ty_mi 30 = some ty_i_X4_copy := (ex_nth_get _ _).trans rfl
set_option maxRecDepth 1000000 in
set_option maxHeartbeats 0 in
/-- X4_copy -/
theorem ty_hn_13 {l : Launch} : ty_ConOk ty_mi l ty_cn_13 := ty_chk (mt := ty_mt) (cn := []) (f := 100000) (ts := ty_tn_13) (sp := none) (ty_run_ok ty_gw ty_hmt ty_k0 _) ty_j_X4_copy ty_f_X4_copy (by decide +kernel) (ty_every_t (by decide +kernel))
def ty_cn_14 : ty_Con := (0, [.inr (.inl (37, (.ofNat 53, []))), .inr (.inl (28, (.ofNat 0, [(0, .ofNat 1)])))], (1, [(0, .ofNat 36, .ofNat 486)], []), [], [((1, [], []), [], [(37, (.ofNat 53, []), (.ofNat 0, []), .inl (.inl (.ofNat 0, []))), (37, (.ofNat 53, []), (.ofNat 1, []), .inl (.inl (.ofNat 0, [])))])], [(28, some 6), (28, some 7), (28, some 8), (28, some 9), (28, some 10), (29, none), (30, none), (31, none), (32, none), (33, none), (34, none), (37, some 0), (37, some 1), (37, some 3)], 1)
def ty_tn_14 : List ty_Tp := []
theorem ty_j_X0_forget : ty_mi 0 = some ty_i_X0_forget := (ex_nth_get _ _).trans rfl
set_option maxRecDepth 1000000 in
set_option maxHeartbeats 0 in
/-- X0_forget -/
theorem ty_hn_14 {l : Launch} : ty_ConOk ty_mi l ty_cn_14 := ty_chk (mt := ty_mt) (cn := [ty_cn_13]) (f := 100000) (ts := ty_tn_14) (sp := none) (ty_run_ok ty_gw ty_hmt (ty_kc ty_hn_13 ty_k0) _) ty_j_X0_forget ty_f_X0_forget (by decide +kernel) (ty_every_t (by decide +kernel))
def ty_cn_15 : ty_Con := (1, [.inr (.inl (37, (.ofNat 53, []))), .inr (.inl (28, (.ofNat 0, [(0, .ofNat 1)])))], (1, [(0, .ofNat 36, .ofNat 486)], []), [], [((3, [(1, .ofNat 0, .ofNat 40), (2, .ofNat 0, .ofNat 40)], [(.ofNat 0, [(1, .ofNat 1), (2, .negSucc 0)])]), [], [(37, (.ofNat 53, []), (.ofNat 0, []), .inl (.inl (.ofNat 0, [(1, .ofNat 1)]))), (37, (.ofNat 53, []), (.ofNat 1, []), .inl (.inl (.ofNat 0, [(2, .ofNat 1)])))])], [(28, some 6), (28, some 7), (28, some 8), (28, some 9), (28, some 10), (29, none), (30, none), (31, none), (32, none), (33, none), (34, none), (37, some 0), (37, some 1), (37, some 3)], 1)
def ty_tn_15 : List ty_Tp := []
theorem ty_j_X0_add : ty_mi 1 = some ty_i_X0_add := (ex_nth_get _ _).trans rfl
set_option maxRecDepth 1000000 in
set_option maxHeartbeats 0 in
/-- X0_add -/
theorem ty_hn_15 {l : Launch} : ty_ConOk ty_mi l ty_cn_15 := ty_chk (mt := ty_mt) (cn := [ty_cn_13]) (f := 100000) (ts := ty_tn_15) (sp := none) (ty_run_ok ty_gw ty_hmt (ty_kc ty_hn_13 ty_k0) _) ty_j_X0_add ty_f_X0_add (by decide +kernel) (ty_every_t (by decide +kernel))
def ty_cn_16 : ty_Con := (7, [.inr (.inl (9, (.ofNat 0, [(0, .ofNat 1)]))), .inl (.inl (.ofNat 0, [(1, .ofNat 1)])), .inl (.inl (.ofNat 0, [(2, .ofNat 1)]))], (3, [(0, .ofNat 9, .ofNat 13), (1, .negSucc 2147483647, .ofNat 2147483647), (2, .negSucc 2147483647, .ofNat 2147483647)], []), [], [((3, [], []), [], [])], [(9, some 3), (10, none), (11, none)], 0)
def ty_tn_16 : List ty_Tp := []
theorem ty_j_X2_add : ty_mi 7 = some ty_i_X2_add := (ex_nth_get _ _).trans rfl
set_option maxRecDepth 1000000 in
set_option maxHeartbeats 0 in
/-- X2_add -/
theorem ty_hn_16 {l : Launch} : ty_ConOk ty_mi l ty_cn_16 := ty_chk (mt := ty_mt) (cn := []) (f := 100000) (ts := ty_tn_16) (sp := none) (ty_run_ok ty_gw ty_hmt ty_k0 _) ty_j_X2_add ty_f_X2_add (by decide +kernel) (ty_every_t (by decide +kernel))
def ty_cn_17 : ty_Con := (8, [.inr (.inl (24, (.ofNat 0, [(0, .ofNat 1)]))), .inr (.inl (9, (.ofNat 0, [(1, .ofNat 1)])))], (2, [(0, .ofNat 28, .ofNat 32), (1, .ofNat 9, .ofNat 13)], []), [], [((2, [], []), [], [])], [(24, some 3), (25, none), (26, none)], 0)
def ty_tn_17 : List ty_Tp := []
theorem ty_j_X2_copy : ty_mi 8 = some ty_i_X2_copy := (ex_nth_get _ _).trans rfl
set_option maxRecDepth 1000000 in
set_option maxHeartbeats 0 in
/-- X2_copy -/
theorem ty_hn_17 {l : Launch} : ty_ConOk ty_mi l ty_cn_17 := ty_chk (mt := ty_mt) (cn := []) (f := 100000) (ts := ty_tn_17) (sp := none) (ty_run_ok ty_gw ty_hmt ty_k0 _) ty_j_X2_copy ty_f_X2_copy (by decide +kernel) (ty_every_t (by decide +kernel))
def ty_cn_18 : ty_Con := (65, [.inr (.inl (4, (.ofNat 4, [])))], (0, [], []), [], [((0, [], []), [], [(4, (.ofNat 4, []), (.ofNat 0, []), .inl (.inl (.ofNat 4, [])))])], [(4, some 0), (4, some 1), (4, some 2), (4, some 3), (4, some 4), (4, some 5), (4, some 6), (9, some 3), (10, none), (11, none)], 1)
def ty_tn_18 : List ty_Tp := []
theorem ty_j_X8_clear : ty_mi 65 = some ty_i_X8_clear := (ex_nth_get _ _).trans rfl
set_option maxRecDepth 1000000 in
set_option maxHeartbeats 0 in
/-- X8_clear -/
theorem ty_hn_18 {l : Launch} : ty_ConOk ty_mi l ty_cn_18 := ty_chk (mt := ty_mt) (cn := [ty_cn_16]) (f := 100000) (ts := ty_tn_18) (sp := none) (ty_run_ok ty_gw ty_hmt (ty_kc ty_hn_16 ty_k0) _) ty_j_X8_clear ty_f_X8_clear (by decide +kernel) (ty_every_t (by decide +kernel))
def ty_cn_19 : ty_Con := (52, [.inr (.inl (41, (.ofNat 385, []))), .inl (.inl (.ofNat 0, [(0, .ofNat 1)])), .inl (.inl (.ofNat 0, [(1, .ofNat 1)]))], (2, [(0, .ofNat 0, .ofNat 99), (1, .negSucc 2147483647, .ofNat 2147483647)], []), [], [((3, [(2, .ofNat 0, .ofNat 1)], []), [.inl (.inl (.ofNat 0, [(2, .ofNat 1)]))], [])], [], 0)
def ty_tn_19 : List ty_Tp := [(2, (3, [(0, .ofNat 0, .ofNat 99), (1, .negSucc 2147483647, .ofNat 2147483647), (2, .ofNat 0, .ofNat 30)], []), [(0, .inr (.inl (41, (.ofNat 385, [])))), (1, .inl (.inl (.ofNat 0, [(0, .ofNat 1)]))), (2, .inl (.inl (.ofNat 0, [(1, .ofNat 1)]))), (3, .inl (.inl (.ofNat 0, [(2, .ofNat 1)])))], [], [(.ofNat 0, []), (.ofNat 0, [(2, .negSucc 0)]), (.ofNat 0, [])])]
theorem ty_j_X5_isFitting : ty_mi 52 = some ty_i_X5_isFitting := (ex_nth_get _ _).trans rfl
set_option maxRecDepth 1000000 in
set_option maxHeartbeats 0 in
/-- X5_isFitting -/
theorem ty_hn_19 {l : Launch} : ty_ConOk ty_mi l ty_cn_19 := ty_chk (mt := ty_mt) (cn := []) (f := 100000) (ts := ty_tn_19) (sp := none) (ty_run_ok ty_gw ty_hmt ty_k0 _) ty_j_X5_isFitting ty_f_X5_isFitting (by decide +kernel) (ty_every_t (by decide +kernel))
def ty_cn_20 : ty_Con := (53, [.inr (.inl (41, (.ofNat 385, [])))], (1, [(0, .ofNat 1, .ofNat 8)], []), [(19, (.ofNat 23, []), (.ofNat 1, []), .inl (.inl (.ofNat 0, [(0, .ofNat 1)])))], [((1, [], []), [], [])], [(27, none), (28, some 6), (28, some 7), (28, some 8), (28, some 9), (28, some 10), (29, none), (30, none), (31, none), (32, none), (33, none), (34, none), (35, some 0), (35, some 1), (35, some 2), (35, some 3), (35, some 4), (35, some 5), (41, some 11), (49, none)], 4)
def ty_tn_20 : List ty_Tp := [(10, (3, [(0, .ofNat 1, .ofNat 8), (1, .ofNat 0, .ofNat 0), (2, .ofNat 0, .ofNat 100)], []), [(0, .inr (.inl (41, (.ofNat 385, [])))), (1, .inl (.inl (.ofNat 0, [(2, .ofNat 1)])))], [(19, (.ofNat 23, []), (.ofNat 1, []), .inl (.inl (.ofNat 0, [(0, .ofNat 1)]))), (41, (.ofNat 385, []), (.ofNat 11, []), .inl (.inl (.ofNat 0, [(1, .ofNat 1)])))], [(.ofNat 0, []), (.ofNat 0, [(2, .negSucc 0)]), (.ofNat 1, [])]), (43, (4, [(0, .ofNat 1, .ofNat 8), (1, .ofNat 0, .ofNat 99), (2, .ofNat 0, .ofNat 0), (3, .ofNat 0, .ofNat 21)], []), [(0, .inr (.inl (41, (.ofNat 385, [])))), (1, .inl (.inl (.ofNat 0, [(1, .ofNat 1)]))), (2, .inl (.inl (.ofNat 0, [(3, .ofNat 1)])))], [(19, (.ofNat 23, []), (.ofNat 1, []), .inl (.inl (.ofNat 0, [(0, .ofNat 1)]))), (41, (.ofNat 385, []), (.ofNat 11, []), .inl (.inl (.ofNat 0, [(2, .ofNat 1)])))], [(.ofNat 0, []), (.ofNat 0, [(1, .negSucc 0)]), (.ofNat 0, []), (.ofNat 0, [(3, .negSucc 0)]), (.ofNat 0, [])])]
theorem ty_j_X5_makeBy : ty_mi 53 = some ty_i_X5_makeBy := (ex_nth_get _ _).trans rfl
set_option maxRecDepth 1000000 in
set_option maxHeartbeats 0 in
/-- X5_makeBy -/
theorem ty_hn_20 {l : Launch} : ty_ConOk ty_mi l ty_cn_20 := ty_chk (mt := ty_mt) (cn := [ty_cn_7, ty_cn_9, ty_cn_12]) (f := 100000) (ts := ty_tn_20) (sp := none) (ty_run_ok ty_gw ty_hmt (ty_kc ty_hn_7 (ty_kc ty_hn_9 (ty_kc ty_hn_12 ty_k0))) _) ty_j_X5_makeBy ty_f_X5_makeBy (by decide +kernel) (ty_every_t (by decide +kernel))
def ty_cn_21 : ty_Con := (51, [.inr (.inl (41, (.ofNat 385, []))), .inl (.inl (.ofNat 0, [(0, .ofNat 1)]))], (1, [(0, .negSucc 2147483647, .ofNat 2147483647)], []), [], [((2, [(1, .ofNat 0, .ofNat 100)], []), [.inl (.inl (.ofNat 0, [(1, .ofNat 1)]))], [])], [(27, none), (28, some 6), (28, some 7), (28, some 8), (28, some 9), (28, some 10), (29, none), (30, none), (31, none), (32, none), (33, none), (34, none), (35, some 0), (35, some 1), (35, some 2), (35, some 3), (35, some 4), (35, some 5), (41, some 11), (42, none), (49, none)], 5)
def ty_tn_21 : List ty_Tp := [(20, (4, [(0, .negSucc 2147483647, .ofNat 2147483647), (1, .ofNat 1, .ofNat 8), (2, .ofNat 0, .ofNat 100), (3, .ofNat 0, .ofNat 100)], [(.ofNat 0, [(2, .ofNat 1), (3, .negSucc 0)])]), [(0, .inr (.inl (41, (.ofNat 385, [])))), (1, .inl (.inl (.ofNat 0, [(0, .ofNat 1)]))), (2, .inl (.inl (.ofNat 0, [(2, .ofNat 1)]))), (3, .inl (.inl (.ofNat 0, [(3, .ofNat 1)])))], [(19, (.ofNat 23, []), (.ofNat 1, []), .inl (.inl (.ofNat 0, [(1, .ofNat 1)])))], [(.ofNat 0, []), (.ofNat 0, [(2, .negSucc 0)]), (.ofNat 0, []), (.ofNat 0, [(3, .negSucc 0)]), (.ofNat 0, [])])]
theorem ty_j_X5_findFitting : ty_mi 51 = some ty_i_X5_findFitting := (ex_nth_get _ _).trans rfl
set_option maxRecDepth 1000000 in
set_option maxHeartbeats 0 in
/-- X5_findFitting -/
theorem ty_hn_21 {l : Launch} : ty_ConOk ty_mi l ty_cn_21 := ty_chk (mt := ty_mt) (cn := [ty_cn_19, ty_cn_20]) (f := 100000) (ts := ty_tn_21) (sp := none) (ty_run_ok ty_gw ty_hmt (ty_kc ty_hn_19 (ty_kc ty_hn_20 ty_k0)) _) ty_j_X5_findFitting ty_f_X5_findFitting (by decide +kernel) (ty_every_t (by decide +kernel))
def ty_cn_22 : ty_Con := (54, [.inr (.inl (41, (.ofNat 385, []))), .inl (.inl (.ofNat 0, [(0, .ofNat 1)])), .inl (.inl (.ofNat 0, [(1, .ofNat 1)]))], (2, [(0, .ofNat 0, .ofNat 20), (1, .ofNat 0, .ofNat 100)], []), [], [((3, [(2, .ofNat 0, .ofNat 2147483647)], []), [.inl (.inl (.ofNat 0, [(2, .ofNat 1)]))], [])], [(50, none)], 1)
def ty_tn_22 : List ty_Tp := [(13, (4, [(0, .ofNat 0, .ofNat 20), (1, .ofNat 0, .ofNat 100), (2, .ofNat 0, .ofNat 100), (3, .ofNat 0, .ofNat 2147483647)], []), [(0, .inr (.inl (41, (.ofNat 385, [])))), (1, .inl (.inl (.ofNat 0, [(0, .ofNat 1)]))), (2, .inl (.inl (.ofNat 0, [(1, .ofNat 1)]))), (3, .inl (.inl (.ofNat 0, [(3, .ofNat 1)]))), (4, .inl (.inl (.ofNat 0, [(2, .ofNat 1)])))], [], [(.ofNat 0, []), (.ofNat 0, [(3, .negSucc 0)]), (.ofNat 0, []), (.ofNat 0, [(2, .negSucc 0)]), (.ofNat 0, [])])]
theorem ty_j_X5_mostAlike : ty_mi 54 = some ty_i_X5_mostAlike := (ex_nth_get _ _).trans rfl
set_option maxRecDepth 1000000 in
set_option maxHeartbeats 0 in
/-- X5_mostAlike -/
theorem ty_hn_22 {l : Launch} : ty_ConOk ty_mi l ty_cn_22 := ty_chk (mt := ty_mt) (cn := [ty_cn_0, ty_cn_1, ty_cn_2]) (f := 100000) (ts := ty_tn_22) (sp := none) (ty_run_ok ty_gw ty_hmt (ty_kc ty_hn_0 (ty_kc ty_hn_1 (ty_kc ty_hn_2 ty_k0))) _) ty_j_X5_mostAlike ty_f_X5_mostAlike (by decide +kernel) (ty_every_t (by decide +kernel))
def ty_cn_23 : ty_Con := (73, [.inr (.inl (0, (.ofNat 0, [])))], (0, [], []), [], [((0, [], []), [], [(37, (.ofNat 53, []), (.ofNat 0, []), .inl (.inl (.ofNat 0, []))), (37, (.ofNat 53, []), (.ofNat 1, []), .inl (.inl (.ofNat 0, [])))])], [(0, some 13), (28, some 6), (28, some 7), (28, some 8), (28, some 9), (28, some 10), (29, none), (30, none), (31, none), (32, none), (33, none), (34, none), (37, some 0), (37, some 1), (37, some 3), (40, none), (41, some 0), (41, some 11)], 2)
def ty_tn_23 : List ty_Tp := [(27, (1, [(0, .ofNat 0, .ofNat 3)], []), [(0, .inr (.inl (0, (.ofNat 0, [])))), (1, .inl (.inl (.ofNat 0, [(0, .ofNat 1)])))], [(37, (.ofNat 53, []), (.ofNat 0, []), .inl (.inl (.ofNat 0, []))), (37, (.ofNat 53, []), (.ofNat 1, []), .inl (.inl (.ofNat 0, []))), (41, (.ofNat 385, []), (.ofNat 0, []), .inl (.inl (.ofNat 0, []))), (41, (.ofNat 385, []), (.ofNat 11, []), .inl (.inl (.ofNat 0, [])))], [(.ofNat 0, []), (.ofNat 0, [(0, .negSucc 0)]), (.ofNat 0, [])])]
theorem ty_j_X9_startAsTold : ty_mi 73 = some ty_i_X9_startAsTold := (ex_nth_get _ _).trans rfl
set_option maxRecDepth 1000000 in
set_option maxHeartbeats 0 in
/-- X9_startAsTold -/
theorem ty_hn_23 {l : Launch} : ty_ConOk ty_mi l ty_cn_23 := ty_chk (mt := ty_mt) (cn := [ty_cn_9, ty_cn_14]) (f := 100000) (ts := ty_tn_23) (sp := none) (ty_run_ok ty_gw ty_hmt (ty_kc ty_hn_9 (ty_kc ty_hn_14 ty_k0)) _) ty_j_X9_startAsTold ty_f_X9_startAsTold (by decide +kernel) (ty_every_t (by decide +kernel))
def ty_cn_24 : ty_Con := (79, [.inr (.inl (0, (.ofNat 0, [])))], (0, [], []), [], [((1, [(0, .ofNat 0, .ofNat 255)], []), [.inl (.inl (.ofNat 0, [(0, .ofNat 1)]))], [])], [(27, none), (35, some 0), (35, some 1), (35, some 2), (35, some 3), (35, some 4), (35, some 5)], 3)
def ty_tn_24 : List ty_Tp := [(4, (2, [(0, .ofNat 0, .ofNat 255), (1, .ofNat 0, .ofNat 8)], []), [(0, .inr (.inl (0, (.ofNat 0, [])))), (1, .inl (.inl (.ofNat 0, [(0, .ofNat 1)]))), (2, .inl (.inl (.ofNat 0, [(1, .ofNat 1)])))], [], [(.ofNat 0, []), (.ofNat 0, [(1, .negSucc 0)]), (.ofNat 0, [])])]
theorem ty_j_X9_ready : ty_mi 79 = some ty_i_X9_ready := (ex_nth_get _ _).trans rfl
set_option maxRecDepth 1000000 in
set_option maxHeartbeats 0 in
/-- X9_ready -/
theorem ty_hn_24 {l : Launch} : ty_ConOk ty_mi l ty_cn_24 := ty_chk (mt := ty_mt) (cn := [ty_cn_4, ty_cn_6]) (f := 100000) (ts := ty_tn_24) (sp := none) (ty_run_ok ty_gw ty_hmt (ty_kc ty_hn_4 (ty_kc ty_hn_6 ty_k0)) _) ty_j_X9_ready ty_f_X9_ready (by decide +kernel) (ty_every_t (by decide +kernel))
def ty_cn_25 : ty_Con := (80, [.inr (.inl (0, (.ofNat 0, [])))], (0, [], []), [], [((1, [(0, .negSucc 0, .ofNat 7)], []), [.inl (.inl (.ofNat 0, [(0, .ofNat 1)]))], [])], [], 2)
def ty_tn_25 : List ty_Tp := [(4, (2, [(0, .ofNat 0, .ofNat 8), (1, .negSucc 0, .ofNat 7)], []), [(0, .inr (.inl (0, (.ofNat 0, [])))), (1, .inl (.inl (.ofNat 0, [(1, .ofNat 1)]))), (2, .inl (.inl (.ofNat 0, [(0, .ofNat 1)])))], [], [(.ofNat 0, []), (.ofNat 0, [(0, .negSucc 0)]), (.ofNat 0, [])])]
theorem ty_j_X9_oldest : ty_mi 80 = some ty_i_X9_oldest := (ex_nth_get _ _).trans rfl
set_option maxRecDepth 1000000 in
set_option maxHeartbeats 0 in
/-- X9_oldest -/
theorem ty_hn_25 {l : Launch} : ty_ConOk ty_mi l ty_cn_25 := ty_chk (mt := ty_mt) (cn := []) (f := 100000) (ts := ty_tn_25) (sp := none) (ty_run_ok ty_gw ty_hmt ty_k0 _) ty_j_X9_oldest ty_f_X9_oldest (by decide +kernel) (ty_every_t (by decide +kernel))
def ty_cn_26 : ty_Con := (81, [.inr (.inl (0, (.ofNat 0, [])))], (0, [], []), [], [((1, [(0, .negSucc 0, .ofNat 7)], []), [.inl (.inl (.ofNat 0, [(0, .ofNat 1)]))], [])], [], 1)
def ty_tn_26 : List ty_Tp := [(6, (3, [(0, .negSucc 0, .ofNat 7), (1, .negSucc 0, .ofNat 63), (2, .ofNat 0, .ofNat 8)], []), [(0, .inr (.inl (0, (.ofNat 0, [])))), (1, .inl (.inl (.ofNat 0, [(0, .ofNat 1)]))), (2, .inl (.inl (.ofNat 0, [(1, .ofNat 1)]))), (3, .inl (.inl (.ofNat 0, [(2, .ofNat 1)])))], [], [(.ofNat 0, []), (.ofNat 0, [(1, .negSucc 0)]), (.ofNat 0, []), (.ofNat 0, [(2, .negSucc 0)]), (.ofNat 0, [])])]
theorem ty_j_X9_fashion : ty_mi 81 = some ty_i_X9_fashion := (ex_nth_get _ _).trans rfl
set_option maxRecDepth 1000000 in
set_option maxHeartbeats 0 in
/-- X9_fashion -/
theorem ty_hn_26 {l : Launch} : ty_ConOk ty_mi l ty_cn_26 := ty_chk (mt := ty_mt) (cn := [ty_cn_3, ty_cn_8]) (f := 100000) (ts := ty_tn_26) (sp := none) (ty_run_ok ty_gw ty_hmt (ty_kc ty_hn_3 (ty_kc ty_hn_8 ty_k0)) _) ty_j_X9_fashion ty_f_X9_fashion (by decide +kernel) (ty_every_t (by decide +kernel))
def ty_cn_27 : ty_Con := (105, [.inr (.inl (0, (.ofNat 0, []))), .inl (.inl (.ofNat 0, [(0, .ofNat 1)]))], (1, [(0, .ofNat 0, .ofNat 7)], []), [], [((2, [(1, .negSucc 0, .ofNat 60)], []), [.inl (.inl (.ofNat 0, [(1, .ofNat 1)]))], [])], [(27, none), (28, some 6), (28, some 7), (28, some 8), (28, some 9), (29, none), (30, none), (32, none), (33, none), (34, none), (35, some 0), (35, some 1), (35, some 2), (35, some 3), (35, some 4), (35, some 5)], 4)
def ty_tn_27 : List ty_Tp := [(2, (2, [(0, .ofNat 0, .ofNat 7), (1, .ofNat 0, .ofNat 61)], []), [(0, .inr (.inl (0, (.ofNat 0, [])))), (1, .inl (.inl (.ofNat 0, [(0, .ofNat 1)]))), (2, .inl (.inl (.ofNat 0, [(1, .ofNat 1)])))], [], [(.ofNat 0, []), (.ofNat 0, [(1, .negSucc 0)]), (.ofNat 0, [])])]
theorem ty_j_X9_hatchesTill : ty_mi 105 = some ty_i_X9_hatchesTill := (ex_nth_get _ _).trans rfl
set_option maxRecDepth 1000000 in
set_option maxHeartbeats 0 in
/-- X9_hatchesTill -/
theorem ty_hn_27 {l : Launch} : ty_ConOk ty_mi l ty_cn_27 := ty_chk (mt := ty_mt) (cn := [ty_cn_12]) (f := 100000) (ts := ty_tn_27) (sp := none) (ty_run_ok ty_gw ty_hmt (ty_kc ty_hn_12 ty_k0) _) ty_j_X9_hatchesTill ty_f_X9_hatchesTill (by decide +kernel) (ty_every_t (by decide +kernel))
def ty_cn_28 : ty_Con := (106, [.inr (.inl (0, (.ofNat 0, []))), .inl (.inl (.ofNat 0, [(0, .ofNat 1)]))], (1, [(0, .negSucc 2147483647, .ofNat 2147483647)], []), [], [((1, [], []), [], [])], [(27, none), (28, some 6), (28, some 7), (28, some 8), (28, some 9), (28, some 10), (29, none), (30, none), (31, none), (32, none), (33, none), (34, none), (35, some 0), (35, some 1), (35, some 2), (35, some 3), (35, some 4), (35, some 5)], 4)
def ty_tn_28 : List ty_Tp := [(13, (2, [(0, .negSucc 2147483647, .ofNat 2147483647), (1, .ofNat 0, .ofNat 2147483647)], []), [(0, .inr (.inl (0, (.ofNat 0, [])))), (1, .inl (.inl (.ofNat 0, [(0, .ofNat 1)]))), (2, .inl (.inl (.ofNat 0, [(1, .ofNat 1)])))], [], [(.ofNat 0, []), (.ofNat 0, [(1, .negSucc 0)]), (.ofNat 0, [])])]
theorem ty_j_X9_lookAhead : ty_mi 106 = some ty_i_X9_lookAhead := (ex_nth_get _ _).trans rfl
set_option maxRecDepth 1000000 in
set_option maxHeartbeats 0 in
/-- X9_lookAhead -/
theorem ty_hn_28 {l : Launch} : ty_ConOk ty_mi l ty_cn_28 := ty_chk (mt := ty_mt) (cn := [ty_cn_12, ty_cn_13]) (f := 100000) (ts := ty_tn_28) (sp := none) (ty_run_ok ty_gw ty_hmt (ty_kc ty_hn_12 (ty_kc ty_hn_13 ty_k0)) _) ty_j_X9_lookAhead ty_f_X9_lookAhead (by decide +kernel) (ty_every_t (by decide +kernel))
def ty_cn_29 : ty_Con := (103, [.inr (.inl (0, (.ofNat 0, []))), .inl (.inl (.ofNat 0, [(0, .ofNat 1)])), .inl (.inl (.ofNat 0, [(1, .ofNat 1)]))], (2, [(0, .negSucc 2147483647, .ofNat 2147483647), (1, .negSucc 2147483647, .ofNat 2147483647)], []), [], [((3, [(2, .negSucc 0, .ofNat 255)], []), [.inl (.inl (.ofNat 0, [(2, .ofNat 1)]))], [])], [(27, none), (28, some 6), (28, some 7), (28, some 8), (28, some 9), (28, some 10), (29, none), (30, none), (31, none), (32, none), (33, none), (34, none), (35, some 0), (35, some 1), (35, some 2), (35, some 3), (35, some 4), (35, some 5)], 4)
def ty_tn_29 : List ty_Tp := [(29, (3, [(0, .ofNat 0, .ofNat 60), (1, .ofNat 0, .ofNat 1), (2, .ofNat 0, .ofNat 60)], []), [(0, .inr (.inl (0, (.ofNat 0, [])))), (1, .inl (.inl (.ofNat 0, [(0, .ofNat 1)]))), (2, .inl (.inl (.ofNat 0, [(1, .ofNat 1)]))), (3, .inl (.inl (.ofNat 0, [(2, .ofNat 1)])))], [], [(.ofNat 0, []), (.ofNat 0, [(2, .negSucc 0)]), (.ofNat 0, [])])]
theorem ty_j_X9_will : ty_mi 103 = some ty_i_X9_will := (ex_nth_get _ _).trans rfl
set_option maxRecDepth 1000000 in
set_option maxHeartbeats 0 in
/-- X9_will -/
theorem ty_hn_29 {l : Launch} : ty_ConOk ty_mi l ty_cn_29 := ty_chk (mt := ty_mt) (cn := [ty_cn_7, ty_cn_12, ty_cn_13]) (f := 100000) (ts := ty_tn_29) (sp := none) (ty_run_ok ty_gw ty_hmt (ty_kc ty_hn_7 (ty_kc ty_hn_12 (ty_kc ty_hn_13 ty_k0))) _) ty_j_X9_will ty_f_X9_will (by decide +kernel) (ty_every_t (by decide +kernel))
def ty_cn_30 : ty_Con := (109, [.inr (.inl (0, (.ofNat 0, []))), .inl (.inl (.ofNat 0, [(0, .ofNat 1)])), .inl (.inl (.ofNat 0, [(1, .ofNat 1)]))], (2, [(0, .negSucc 2147483647, .ofNat 2147483647), (1, .negSucc 2147483647, .ofNat 2147483647)], []), [], [((3, [(2, .negSucc 0, .ofNat 255)], []), [.inl (.inl (.ofNat 0, [(2, .ofNat 1)]))], [])], [(27, none), (28, some 6), (28, some 7), (28, some 8), (28, some 9), (28, some 10), (29, none), (30, none), (31, none), (32, none), (33, none), (34, none), (35, some 0), (35, some 1), (35, some 2), (35, some 3), (35, some 4), (35, some 5)], 5)
def ty_tn_30 : List ty_Tp := [(27, (5, [(0, .ofNat 0, .ofNat 3), (1, .ofNat 0, .ofNat 60), (2, .ofNat 1, .ofNat 4), (3, .ofNat 0, .ofNat 255), (4, .ofNat 0, .ofNat 8)], []), [(0, .inr (.inl (0, (.ofNat 0, [])))), (1, .inl (.inl (.ofNat 0, [(0, .ofNat 1)]))), (2, .inl (.inl (.ofNat 0, [(1, .ofNat 1)]))), (3, .inl (.inl (.ofNat 0, [(3, .ofNat 1)]))), (4, .inl (.inl (.ofNat 0, [(4, .ofNat 1)])))], [(19, (.ofNat 23, []), (.ofNat 0, []), .inl (.inl (.ofNat 0, [(2, .ofNat 1)])))], [(.ofNat 0, []), (.ofNat 0, [(4, .negSucc 0)]), (.ofNat 0, [])])]
theorem ty_j_X9_clears : ty_mi 109 = some ty_i_X9_clears := (ex_nth_get _ _).trans rfl
set_option maxRecDepth 1000000 in
set_option maxHeartbeats 0 in
/-- X9_clears -/
theorem ty_hn_30 {l : Launch} : ty_ConOk ty_mi l ty_cn_30 := ty_chk (mt := ty_mt) (cn := [ty_cn_28]) (f := 100000) (ts := ty_tn_30) (sp := none) (ty_run_ok ty_gw ty_hmt (ty_kc ty_hn_28 ty_k0) _) ty_j_X9_clears ty_f_X9_clears (by decide +kernel) (ty_every_t (by decide +kernel))
def ty_cn_31 : ty_Con := (112, [.inr (.inl (0, (.ofNat 0, []))), .inl (.inl (.ofNat 0, [(0, .ofNat 1)]))], (1, [(0, .negSucc 2147483647, .ofNat 2147483647)], []), [], [((2, [(1, .negSucc 2147483647, .ofNat 2147483647)], []), [.inl (.inl (.ofNat 0, [(1, .ofNat 1)]))], [])], [(27, none), (28, some 6), (28, some 7), (28, some 8), (28, some 9), (29, none), (30, none), (32, none), (33, none), (34, none), (35, some 0), (35, some 1), (35, some 2), (35, some 3), (35, some 4), (35, some 5)], 4)
def ty_tn_31 : List ty_Tp := [(4, (3, [(0, .negSucc 2147483647, .ofNat 2147483647), (1, .negSucc 2147483647, .ofNat 2147483647), (2, .ofNat 0, .ofNat 2147483647)], []), [(0, .inr (.inl (0, (.ofNat 0, [])))), (1, .inl (.inl (.ofNat 0, [(0, .ofNat 1)]))), (2, .inl (.inl (.ofNat 0, [(1, .ofNat 1)]))), (3, .inl (.inl (.ofNat 0, [(2, .ofNat 1)])))], [], [(.ofNat 0, []), (.ofNat 0, [(2, .negSucc 0)]), (.ofNat 0, [])])]
theorem ty_j_X9_pressOfTrial : ty_mi 112 = some ty_i_X9_pressOfTrial := (ex_nth_get _ _).trans rfl
set_option maxRecDepth 1000000 in
set_option maxHeartbeats 0 in
/-- X9_pressOfTrial -/
theorem ty_hn_31 {l : Launch} : ty_ConOk ty_mi l ty_cn_31 := ty_chk (mt := ty_mt) (cn := [ty_cn_12]) (f := 100000) (ts := ty_tn_31) (sp := none) (ty_run_ok ty_gw ty_hmt (ty_kc ty_hn_12 ty_k0) _) ty_j_X9_pressOfTrial ty_f_X9_pressOfTrial (by decide +kernel) (ty_every_t (by decide +kernel))
def ty_cn_32 : ty_Con := (113, [.inr (.inl (0, (.ofNat 0, []))), .inl (.inl (.ofNat 0, [(0, .ofNat 1)])), .inl (.inl (.ofNat 0, [(1, .ofNat 1)]))], (2, [(0, .negSucc 2147483647, .ofNat 2147483647), (1, .negSucc 2147483647, .ofNat 2147483647)], []), [], [((3, [(2, .negSucc 2147483647, .ofNat 2147483647)], []), [.inl (.inl (.ofNat 0, [(2, .ofNat 1)]))], [])], [(27, none), (28, some 6), (28, some 7), (28, some 8), (28, some 9), (28, some 10), (29, none), (30, none), (31, none), (32, none), (33, none), (34, none), (35, some 0), (35, some 1), (35, some 2), (35, some 3), (35, some 4), (35, some 5)], 5)
def ty_tn_32 : List ty_Tp := [(44, (6, [(0, .ofNat 0, .ofNat 60), (1, .ofNat 0, .ofNat 2), (2, .negSucc 2147483647, .ofNat 2147483647), (3, .ofNat 0, .ofNat 8), (4, .negSucc 0, .ofNat 7), (5, .negSucc 0, .ofNat 7)], []), [(0, .inr (.inl (0, (.ofNat 0, [])))), (1, .inl (.inl (.ofNat 0, [(0, .ofNat 1)]))), (2, .inl (.inl (.ofNat 0, [(1, .ofNat 1)]))), (3, .inl (.inl (.ofNat 0, [(2, .ofNat 1)]))), (4, .inl (.inl (.ofNat 0, [(4, .ofNat 1)]))), (5, .inl (.inl (.ofNat 0, [(5, .ofNat 1)]))), (6, .inl (.inl (.ofNat 0, [(3, .ofNat 1)])))], [], [(.ofNat 0, []), (.ofNat 0, [(2, .ofNat 1)]), (.ofNat 0, []), (.ofNat 0, [(3, .negSucc 0)]), (.ofNat 1, [])]), (62, (8, [(0, .ofNat 0, .ofNat 60), (1, .ofNat 0, .ofNat 2), (2, .negSucc 2147483647, .ofNat 2147483647), (3, .negSucc 0, .ofNat 7), (4, .negSucc 0, .ofNat 7), (5, .ofNat 0, .ofNat 7), (6, .ofNat 1, .ofNat 8), (7, .ofNat 1, .ofNat 8)], []), [(0, .inr (.inl (0, (.ofNat 0, [])))), (1, .inl (.inl (.ofNat 0, [(0, .ofNat 1)]))), (2, .inl (.inl (.ofNat 0, [(1, .ofNat 1)]))), (3, .inl (.inl (.ofNat 0, [(2, .ofNat 1)]))), (4, .inl (.inl (.ofNat 0, [(3, .ofNat 1)]))), (5, .inl (.inl (.ofNat 0, [(4, .ofNat 1)]))), (6, .inl (.inl (.ofNat 0, [(5, .ofNat 1)]))), (7, .inl (.inl (.ofNat 0, [(7, .ofNat 1)])))], [(19, (.ofNat 23, []), (.ofNat 2, []), .inl (.inl (.ofNat 0, [(6, .ofNat 1)])))], [(.ofNat 0, []), (.ofNat 0, [(2, .ofNat 1)]), (.ofNat 0, []), (.ofNat 0, [(5, .negSucc 0)]), (.ofNat 0, []), (.ofNat 0, [(7, .negSucc 0)]), (.ofNat 0, [])])]
theorem ty_j_X9_reorder : ty_mi 113 = some ty_i_X9_reorder := (ex_nth_get _ _).trans rfl
set_option maxRecDepth 1000000 in
set_option maxHeartbeats 0 in
/-- X9_reorder -/
theorem ty_hn_32 {l : Launch} : ty_ConOk ty_mi l ty_cn_32 := ty_chk (mt := ty_mt) (cn := [ty_cn_13, ty_cn_31]) (f := 100000) (ts := ty_tn_32) (sp := none) (ty_run_ok ty_gw ty_hmt (ty_kc ty_hn_13 (ty_kc ty_hn_31 ty_k0)) _) ty_j_X9_reorder ty_f_X9_reorder (by decide +kernel) (ty_every_t (by decide +kernel))
def ty_cn_33 : ty_Con := (114, [.inr (.inl (0, (.ofNat 0, []))), .inl (.inl (.ofNat 0, [(0, .ofNat 1)]))], (1, [(0, .negSucc 2147483647, .ofNat 2147483647)], []), [], [((2, [(1, .negSucc 2147483647, .ofNat 2147483647)], []), [.inl (.inl (.ofNat 0, [(1, .ofNat 1)]))], [])], [(27, none), (28, some 6), (28, some 7), (28, some 8), (28, some 9), (28, some 10), (29, none), (30, none), (31, none), (32, none), (33, none), (34, none), (35, some 0), (35, some 1), (35, some 2), (35, some 3), (35, some 4), (35, some 5)], 4)
def ty_tn_33 : List ty_Tp := [(25, (4, [(0, .ofNat 0, .ofNat 7), (1, .ofNat 1, .ofNat 8), (2, .negSucc 2147483647, .ofNat 2147483647), (3, .ofNat 0, .ofNat 60)], []), [(0, .inr (.inl (0, (.ofNat 0, [])))), (1, .inl (.inl (.ofNat 0, [(0, .ofNat 1)]))), (2, .inl (.inl (.ofNat 0, [(2, .ofNat 1)]))), (3, .inl (.inl (.ofNat 0, [(3, .ofNat 1)])))], [(19, (.ofNat 23, []), (.ofNat 2, []), .inl (.inl (.ofNat 0, [(1, .ofNat 1)])))], [(.ofNat 0, []), (.ofNat 0, [(3, .negSucc 0)]), (.ofNat 0, [])])]
theorem ty_j_X9_spends : ty_mi 114 = some ty_i_X9_spends := (ex_nth_get _ _).trans rfl
set_option maxRecDepth 1000000 in
set_option maxHeartbeats 0 in
/-- X9_spends -/
theorem ty_hn_33 {l : Launch} : ty_ConOk ty_mi l ty_cn_33 := ty_chk (mt := ty_mt) (cn := [ty_cn_12, ty_cn_13]) (f := 100000) (ts := ty_tn_33) (sp := none) (ty_run_ok ty_gw ty_hmt (ty_kc ty_hn_12 (ty_kc ty_hn_13 ty_k0)) _) ty_j_X9_spends ty_f_X9_spends (by decide +kernel) (ty_every_t (by decide +kernel))
def ty_cn_34 : ty_Con := (115, [.inr (.inl (0, (.ofNat 0, []))), .inl (.inl (.ofNat 0, [(0, .ofNat 1)])), .inl (.inl (.ofNat 0, [(1, .ofNat 1)]))], (2, [(0, .negSucc 2147483647, .ofNat 2147483647), (1, .negSucc 2147483647, .ofNat 2147483647)], []), [], [((3, [(2, .negSucc 2147483647, .ofNat 2147483647)], []), [.inl (.inl (.ofNat 0, [(2, .ofNat 1)]))], [])], [(27, none), (28, some 6), (28, some 7), (28, some 8), (28, some 9), (28, some 10), (29, none), (30, none), (31, none), (32, none), (33, none), (34, none), (35, some 0), (35, some 1), (35, some 2), (35, some 3), (35, some 4), (35, some 5)], 4)
def ty_tn_34 : List ty_Tp := [(33, (5, [(0, .ofNat 0, .ofNat 7), (1, .ofNat 0, .ofNat 60), (2, .ofNat 1, .ofNat 8), (3, .negSucc 2147483647, .ofNat 2147483647), (4, .ofNat 0, .ofNat 60)], []), [(0, .inr (.inl (0, (.ofNat 0, [])))), (1, .inl (.inl (.ofNat 0, [(0, .ofNat 1)]))), (2, .inl (.inl (.ofNat 0, [(1, .ofNat 1)]))), (3, .inl (.inl (.ofNat 0, [(3, .ofNat 1)]))), (4, .inl (.inl (.ofNat 0, [(4, .ofNat 1)])))], [(19, (.ofNat 23, []), (.ofNat 1, []), .inl (.inl (.ofNat 0, [(2, .ofNat 1)])))], [(.ofNat 0, []), (.ofNat 0, [(4, .negSucc 0)]), (.ofNat 0, [])])]
theorem ty_j_X9_echoes : ty_mi 115 = some ty_i_X9_echoes := (ex_nth_get _ _).trans rfl
set_option maxRecDepth 1000000 in
set_option maxHeartbeats 0 in
/-- X9_echoes -/
theorem ty_hn_34 {l : Launch} : ty_ConOk ty_mi l ty_cn_34 := ty_chk (mt := ty_mt) (cn := [ty_cn_12, ty_cn_13]) (f := 100000) (ts := ty_tn_34) (sp := none) (ty_run_ok ty_gw ty_hmt (ty_kc ty_hn_12 (ty_kc ty_hn_13 ty_k0)) _) ty_j_X9_echoes ty_f_X9_echoes (by decide +kernel) (ty_every_t (by decide +kernel))
def ty_cn_35 : ty_Con := (116, [.inr (.inl (0, (.ofNat 0, []))), .inl (.inl (.ofNat 0, [(0, .ofNat 1)])), .inl (.inl (.ofNat 0, [(1, .ofNat 1)]))], (2, [(0, .negSucc 2147483647, .ofNat 2147483647), (1, .negSucc 2147483647, .ofNat 2147483647)], []), [], [((3, [(2, .negSucc 0, .ofNat 61)], []), [.inl (.inl (.ofNat 0, [(2, .ofNat 1)]))], [])], [(27, none), (28, some 6), (28, some 7), (28, some 8), (28, some 9), (28, some 10), (29, none), (30, none), (31, none), (32, none), (33, none), (34, none), (35, some 0), (35, some 1), (35, some 2), (35, some 3), (35, some 4), (35, some 5)], 5)
def ty_tn_35 : List ty_Tp := [(26, (6, [(0, .ofNat 0, .ofNat 7), (1, .ofNat 0, .ofNat 1), (2, .ofNat 1, .ofNat 8), (3, .negSucc 0, .ofNat 3), (4, .ofNat 0, .ofNat 61), (5, .ofNat 0, .ofNat 4)], []), [(0, .inr (.inl (0, (.ofNat 0, [])))), (1, .inl (.inl (.ofNat 0, [(0, .ofNat 1)]))), (2, .inl (.inl (.ofNat 0, [(1, .ofNat 1)]))), (3, .inl (.inl (.ofNat 0, [(3, .ofNat 1)]))), (4, .inl (.inl (.ofNat 0, [(4, .ofNat 1)]))), (5, .inl (.inl (.ofNat 0, [(5, .ofNat 1)])))], [(19, (.ofNat 23, []), (.ofNat 2, []), .inl (.inl (.ofNat 0, [(2, .ofNat 1)])))], [(.ofNat 0, []), (.ofNat 0, [(4, .ofNat 1)]), (.ofNat 0, []), (.ofNat 0, [(5, .negSucc 0)]), (.ofNat 0, [])])]
theorem ty_j_X9_best : ty_mi 116 = some ty_i_X9_best := (ex_nth_get _ _).trans rfl
set_option maxRecDepth 1000000 in
set_option maxHeartbeats 0 in
/-- X9_best -/
theorem ty_hn_35 {l : Launch} : ty_ConOk ty_mi l ty_cn_35 := ty_chk (mt := ty_mt) (cn := [ty_cn_5, ty_cn_13, ty_cn_27]) (f := 100000) (ts := ty_tn_35) (sp := none) (ty_run_ok ty_gw ty_hmt (ty_kc ty_hn_5 (ty_kc ty_hn_13 (ty_kc ty_hn_27 ty_k0))) _) ty_j_X9_best ty_f_X9_best (by decide +kernel) (ty_every_t (by decide +kernel))
def ty_cn_36 : ty_Con := (120, [.inr (.inl (0, (.ofNat 0, []))), .inl (.inl (.ofNat 0, [(0, .ofNat 1)])), .inl (.inl (.ofNat 0, [(1, .ofNat 1)])), .inl (.inl (.ofNat 0, [(2, .ofNat 1)])), .inl (.inl (.ofNat 0, [(3, .ofNat 1)]))], (4, [(0, .ofNat 0, .ofNat 7), (1, .ofNat 0, .ofNat 7), (2, .ofNat 0, .ofNat 7), (3, .ofNat 0, .ofNat 7)], []), [], [((4, [], []), [], [])], [(27, none), (28, some 6), (28, some 7), (28, some 8), (28, some 9), (28, some 10), (29, none), (30, none), (31, none), (32, none), (33, none), (34, none), (35, some 0), (35, some 1), (35, some 2), (35, some 3), (35, some 4), (35, some 5), (52, none), (53, none)], 4)
def ty_tn_36 : List ty_Tp := [(51, (7, [(0, .ofNat 0, .ofNat 7), (1, .ofNat 0, .ofNat 7), (2, .ofNat 0, .ofNat 7), (3, .ofNat 0, .ofNat 7), (4, .ofNat 1, .ofNat 21), (5, .ofNat 1, .ofNat 21), (6, .ofNat 1, .ofNat 21)], []), [(0, .inr (.inl (0, (.ofNat 0, [])))), (1, .inl (.inl (.ofNat 0, [(0, .ofNat 1)]))), (2, .inl (.inl (.ofNat 0, [(1, .ofNat 1)]))), (3, .inl (.inl (.ofNat 0, [(2, .ofNat 1)]))), (4, .inl (.inl (.ofNat 0, [(3, .ofNat 1)]))), (5, .inl (.inl (.ofNat 21, []))), (6, .inl (.inl (.ofNat 0, [(4, .ofNat 1)]))), (7, .inl (.inl (.ofNat 0, [(5, .ofNat 1)]))), (8, .inl (.inl (.ofNat 0, [(6, .ofNat 1)])))], [], [(.ofNat 0, []), (.ofNat 0, [(6, .negSucc 0)]), (.ofNat 0, [])])]
theorem ty_j_X9_tryRivals : ty_mi 120 = some ty_i_X9_tryRivals := (ex_nth_get _ _).trans rfl
set_option maxRecDepth 1000000 in
set_option maxHeartbeats 0 in
/-- X9_tryRivals -/
theorem ty_hn_36 {l : Launch} : ty_ConOk ty_mi l ty_cn_36 := ty_chk (mt := ty_mt) (cn := [ty_cn_12, ty_cn_13]) (f := 100000) (ts := ty_tn_36) (sp := none) (ty_run_ok ty_gw ty_hmt (ty_kc ty_hn_12 (ty_kc ty_hn_13 ty_k0)) _) ty_j_X9_tryRivals ty_f_X9_tryRivals (by decide +kernel) (ty_every_t (by decide +kernel))
def ty_cn_37 : ty_Con := (121, [.inr (.inl (0, (.ofNat 0, []))), .inl (.inl (.ofNat 0, [(0, .ofNat 1)])), .inl (.inl (.ofNat 0, [(1, .ofNat 1)]))], (2, [(0, .ofNat 0, .ofNat 7), (1, .ofNat 0, .ofNat 7)], []), [], [((3, [(2, .ofNat 0, .ofNat 1)], []), [.inl (.inl (.ofNat 0, [(2, .ofNat 1)]))], [])], [], 0)
def ty_tn_37 : List ty_Tp := [(10, (3, [(0, .ofNat 0, .ofNat 7), (1, .ofNat 0, .ofNat 7), (2, .ofNat 0, .ofNat 8)], []), [(0, .inr (.inl (0, (.ofNat 0, [])))), (1, .inl (.inl (.ofNat 0, [(0, .ofNat 1)]))), (2, .inl (.inl (.ofNat 0, [(1, .ofNat 1)]))), (3, .inl (.inl (.ofNat 0, [(0, .ofNat 8), (1, .ofNat 1)]))), (4, .inl (.inl (.ofNat 0, [(2, .ofNat 1)])))], [], [(.ofNat 0, []), (.ofNat 0, [(2, .negSucc 0)]), (.ofNat 0, [])])]
theorem ty_j_X9_isRest : ty_mi 121 = some ty_i_X9_isRest := (ex_nth_get _ _).trans rfl
set_option maxRecDepth 1000000 in
set_option maxHeartbeats 0 in
/-- X9_isRest -/
theorem ty_hn_37 {l : Launch} : ty_ConOk ty_mi l ty_cn_37 := ty_chk (mt := ty_mt) (cn := []) (f := 100000) (ts := ty_tn_37) (sp := none) (ty_run_ok ty_gw ty_hmt ty_k0 _) ty_j_X9_isRest ty_f_X9_isRest (by decide +kernel) (ty_every_t (by decide +kernel))
def ty_cn_38 : ty_Con := (119, [.inr (.inl (0, (.ofNat 0, []))), .inl (.inl (.ofNat 0, [(0, .ofNat 1)])), .inl (.inl (.ofNat 0, [(1, .ofNat 1)]))], (2, [(0, .negSucc 2147483647, .ofNat 2147483647), (1, .negSucc 2147483647, .ofNat 2147483647)], []), [], [((3, [(2, .negSucc 2147483647, .ofNat 2147483647)], []), [.inl (.inl (.ofNat 0, [(2, .ofNat 1)]))], [])], [(0, some 13), (27, none), (28, some 6), (28, some 7), (28, some 8), (28, some 9), (28, some 10), (29, none), (30, none), (31, none), (32, none), (33, none), (34, none), (35, some 0), (35, some 1), (35, some 2), (35, some 3), (35, some 4), (35, some 5), (51, none), (52, none), (53, none)], 5)
def ty_tn_38 : List ty_Tp := [(30, (4, [(0, .ofNat 0, .ofNat 7), (1, .ofNat 0, .ofNat 7), (2, .ofNat 1, .ofNat 8), (3, .ofNat 0, .ofNat 8)], []), [(0, .inr (.inl (0, (.ofNat 0, [])))), (1, .inl (.inl (.ofNat 0, [(0, .ofNat 1)]))), (2, .inl (.inl (.ofNat 0, [(1, .ofNat 1)]))), (3, .inl (.inl (.ofNat 0, [(3, .ofNat 1)])))], [(0, (.ofNat 0, []), (.ofNat 13, []), .inl (.inl (.ofNat 0, []))), (19, (.ofNat 23, []), (.ofNat 2, []), .inl (.inl (.ofNat 0, [(2, .ofNat 1)])))], [(.ofNat 1, []), (.ofNat 0, [(3, .negSucc 0)]), (.ofNat 1, [])]), (44, (6, [(0, .ofNat 0, .ofNat 7), (1, .ofNat 0, .ofNat 7), (2, .ofNat 0, .ofNat 7), (3, .ofNat 1, .ofNat 8), (4, .ofNat 1, .ofNat 8), (5, .ofNat 0, .ofNat 8)], []), [(0, .inr (.inl (0, (.ofNat 0, [])))), (1, .inl (.inl (.ofNat 0, [(0, .ofNat 1)]))), (2, .inl (.inl (.ofNat 0, [(1, .ofNat 1)]))), (3, .inl (.inl (.ofNat 0, [(2, .ofNat 1)]))), (4, .inl (.inl (.ofNat 0, [(5, .ofNat 1)])))], [(0, (.ofNat 0, []), (.ofNat 13, []), .inl (.inl (.ofNat 0, []))), (19, (.ofNat 23, []), (.ofNat 2, []), .inl (.inl (.ofNat 0, [(3, .ofNat 1)]))), (19, (.ofNat 23, []), (.ofNat 1, []), .inl (.inl (.ofNat 0, [(4, .ofNat 1)])))], [(.ofNat 1, []), (.ofNat 0, [(2, .negSucc 0)]), (.ofNat 0, []), (.ofNat 0, [(5, .negSucc 0)]), (.ofNat 0, [])]), (82, (7, [(0, .ofNat 0, .ofNat 7), (1, .ofNat 0, .ofNat 7), (2, .ofNat 1, .ofNat 8), (3, .ofNat 0, .ofNat 8), (4, .negSucc 2147483647, .ofNat 2147483647), (5, .ofNat 0, .ofNat 8), (6, .ofNat 0, .ofNat 2)], []), [(0, .inr (.inl (0, (.ofNat 0, [])))), (1, .inl (.inl (.ofNat 0, [(0, .ofNat 1)]))), (2, .inl (.inl (.ofNat 0, [(1, .ofNat 1)]))), (3, .inl (.inl (.ofNat 0, [(4, .ofNat 1)]))), (4, .inl (.inl (.ofNat 0, [(5, .ofNat 1)])))], [(0, (.ofNat 0, []), (.ofNat 13, []), .inl (.inl (.ofNat 0, [(6, .ofNat 1)]))), (19, (.ofNat 23, []), (.ofNat 2, []), .inl (.inl (.ofNat 0, [(2, .ofNat 1)]))), (19, (.ofNat 23, []), (.ofNat 1, []), .inl (.inl (.ofNat 0, [(3, .ofNat 1)])))], [(.ofNat 0, []), (.ofNat 0, [(5, .negSucc 0)]), (.ofNat 1, [])]), (97, (8, [(0, .ofNat 0, .ofNat 7), (1, .ofNat 0, .ofNat 7), (2, .negSucc 2147483647, .ofNat 2147483647), (3, .ofNat 0, .ofNat 7), (4, .ofNat 0, .ofNat 2), (5, .ofNat 1, .ofNat 8), (6, .ofNat 1, .ofNat 8), (7, .ofNat 0, .ofNat 8)], []), [(0, .inr (.inl (0, (.ofNat 0, [])))), (1, .inl (.inl (.ofNat 0, [(0, .ofNat 1)]))), (2, .inl (.inl (.ofNat 0, [(1, .ofNat 1)]))), (3, .inl (.inl (.ofNat 0, [(2, .ofNat 1)]))), (4, .inl (.inl (.ofNat 0, [(3, .ofNat 1)]))), (5, .inl (.inl (.ofNat 0, [(7, .ofNat 1)])))], [(0, (.ofNat 0, []), (.ofNat 13, []), .inl (.inl (.ofNat 0, [(4, .ofNat 1)]))), (19, (.ofNat 23, []), (.ofNat 2, []), .inl (.inl (.ofNat 0, [(5, .ofNat 1)]))), (19, (.ofNat 23, []), (.ofNat 1, []), .inl (.inl (.ofNat 0, [(6, .ofNat 1)])))], [(.ofNat 0, []), (.ofNat 0, [(3, .negSucc 0)]), (.ofNat 0, []), (.ofNat 0, [(7, .negSucc 0)]), (.ofNat 0, [])])]
theorem ty_j_X9_rivals : ty_mi 119 = some ty_i_X9_rivals := (ex_nth_get _ _).trans rfl
set_option maxRecDepth 1000000 in
set_option maxHeartbeats 0 in
/-- X9_rivals -/
theorem ty_hn_38 {l : Launch} : ty_ConOk ty_mi l ty_cn_38 := ty_chk (mt := ty_mt) (cn := [ty_cn_36, ty_cn_37]) (f := 100000) (ts := ty_tn_38) (sp := none) (ty_run_ok ty_gw ty_hmt (ty_kc ty_hn_36 (ty_kc ty_hn_37 ty_k0)) _) ty_j_X9_rivals ty_f_X9_rivals (by decide +kernel) (ty_every_t (by decide +kernel))
def ty_cn_39 : ty_Con := (124, [.inr (.inl (0, (.ofNat 0, []))), .inl (.inl (.ofNat 0, [(0, .ofNat 1)])), .inl (.inl (.ofNat 0, [(1, .ofNat 1)])), .inl (.inl (.ofNat 0, [(2, .ofNat 1)]))], (3, [(0, .ofNat 0, .ofNat 7), (1, .ofNat 0, .ofNat 255), (2, .negSucc 2147483647, .ofNat 2147483647)], []), [], [((4, [(3, .negSucc 0, .ofNat 255)], []), [.inl (.inl (.ofNat 0, [(3, .ofNat 1)]))], [])], [(27, none), (35, some 0), (35, some 1), (35, some 2), (35, some 3), (35, some 4), (35, some 5)], 3)
def ty_tn_39 : List ty_Tp := [(3, (4, [(0, .ofNat 0, .ofNat 7), (1, .ofNat 0, .ofNat 255), (2, .negSucc 2147483647, .ofNat 2147483647), (3, .ofNat 1, .ofNat 7)], []), [(0, .inr (.inl (0, (.ofNat 0, [])))), (1, .inl (.inl (.ofNat 0, [(0, .ofNat 1)]))), (2, .inl (.inl (.ofNat 0, [(1, .ofNat 1)]))), (3, .inl (.inl (.ofNat 0, [(2, .ofNat 1)]))), (4, .inl (.inl (.ofNat 0, [(3, .ofNat 1)])))], [], [(.ofNat 0, []), (.ofNat 0, [(3, .negSucc 0)]), (.ofNat 1, [])]), (12, (5, [(0, .ofNat 0, .ofNat 7), (1, .ofNat 0, .ofNat 255), (2, .negSucc 2147483647, .ofNat 2147483647), (3, .ofNat 1, .ofNat 4), (4, .ofNat 1, .ofNat 256)], []), [(0, .inr (.inl (0, (.ofNat 0, [])))), (1, .inl (.inl (.ofNat 0, [(0, .ofNat 1)]))), (2, .inl (.inl (.ofNat 0, [(1, .ofNat 1)]))), (3, .inl (.inl (.ofNat 0, [(2, .ofNat 1)]))), (4, .inl (.inl (.ofNat 0, [(3, .ofNat 1)]))), (5, .inl (.inl (.ofNat 0, [(4, .ofNat 1)])))], [], [(.ofNat 0, []), (.ofNat 0, [(3, .negSucc 0)]), (.ofNat 0, []), (.ofNat 0, [(4, .negSucc 0)]), (.ofNat 0, [])])]
theorem ty_j_X9_fewestWords : ty_mi 124 = some ty_i_X9_fewestWords := (ex_nth_get _ _).trans rfl
set_option maxRecDepth 1000000 in
set_option maxHeartbeats 0 in
/-- X9_fewestWords -/
theorem ty_hn_39 {l : Launch} : ty_ConOk ty_mi l ty_cn_39 := ty_chk (mt := ty_mt) (cn := [ty_cn_3, ty_cn_4, ty_cn_6]) (f := 100000) (ts := ty_tn_39) (sp := none) (ty_run_ok ty_gw ty_hmt (ty_kc ty_hn_3 (ty_kc ty_hn_4 (ty_kc ty_hn_6 ty_k0))) _) ty_j_X9_fewestWords ty_f_X9_fewestWords (by decide +kernel) (ty_every_t (by decide +kernel))
def ty_cn_40 : ty_Con := (127, [.inr (.inl (0, (.ofNat 0, []))), .inl (.inl (.ofNat 0, [(0, .ofNat 1)])), .inl (.inl (.ofNat 0, [(1, .ofNat 1)])), .inl (.inl (.ofNat 0, [(2, .ofNat 1)]))], (3, [(0, .ofNat 0, .ofNat 7), (1, .negSucc 2147483647, .ofNat 2147483647), (2, .negSucc 2147483647, .ofNat 2147483647)], []), [], [((4, [(3, .negSucc 2147483647, .ofNat 2147483647)], []), [.inl (.inl (.ofNat 0, [(3, .ofNat 1)]))], [])], [(27, none), (35, some 0), (35, some 1), (35, some 2), (35, some 3), (35, some 4), (35, some 5)], 3)
def ty_tn_40 : List ty_Tp := [(9, (6, [(0, .ofNat 0, .ofNat 7), (1, .negSucc 2147483647, .ofNat 2147483647), (2, .negSucc 2147483647, .ofNat 2147483647), (3, .negSucc 0, .ofNat 7), (4, .negSucc 2147483647, .ofNat 2147483647), (5, .ofNat 0, .ofNat 8)], []), [(0, .inr (.inl (0, (.ofNat 0, [])))), (1, .inl (.inl (.ofNat 0, [(0, .ofNat 1)]))), (2, .inl (.inl (.ofNat 0, [(1, .ofNat 1)]))), (3, .inl (.inl (.ofNat 0, [(2, .ofNat 1)]))), (4, .inl (.inl (.ofNat 0, [(3, .ofNat 1)]))), (5, .inl (.inl (.ofNat 0, [(4, .ofNat 1)]))), (6, .inl (.inl (.ofNat 0, [(5, .ofNat 1)])))], [], [(.ofNat 0, []), (.ofNat 0, [(5, .negSucc 0)]), (.ofNat 0, [])])]
theorem ty_j_X9_mostWorth : ty_mi 127 = some ty_i_X9_mostWorth := (ex_nth_get _ _).trans rfl
set_option maxRecDepth 1000000 in
set_option maxHeartbeats 0 in
/-- X9_mostWorth -/
theorem ty_hn_40 {l : Launch} : ty_ConOk ty_mi l ty_cn_40 := ty_chk (mt := ty_mt) (cn := [ty_cn_4, ty_cn_6]) (f := 100000) (ts := ty_tn_40) (sp := none) (ty_run_ok ty_gw ty_hmt (ty_kc ty_hn_4 (ty_kc ty_hn_6 ty_k0)) _) ty_j_X9_mostWorth ty_f_X9_mostWorth (by decide +kernel) (ty_every_t (by decide +kernel))
