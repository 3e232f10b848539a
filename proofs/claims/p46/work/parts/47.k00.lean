theorem ty_k0 {P : ty_Con → Prop} : ∀ C ∈ ([] : List ty_Con), P C := fun _ h => by cases h
theorem ty_kc {P : ty_Con → Prop} {c : ty_Con} {l : List ty_Con} (h : P c) (t : ∀ C ∈ l, P C) : ∀ C ∈ c :: l, P C := fun C hC => by
  rcases List.mem_cons.mp hC with rfl | hC
  · exact h
  · exact t C hC
def ty_c0 : ty_Con := (269, [.inr (.inl (34, (.ofNat 0, [(0, .ofNat 1)]))), .inl (.inl (.ofNat 0, [(1, .ofNat 1)]))], (2, [(0, .ofNat 42, .ofNat 492), (1, .negSucc 2147483647, .ofNat 2147483647)], []), [], [((2, [], []), [], [])], [(34, none)], 0)
def ty_t0 : List ty_Tp := [(5, (3, [(0, .ofNat 42, .ofNat 492), (1, .negSucc 2147483647, .ofNat 2147483647), (2, .ofNat 0, .ofNat 4)], []), [(0, .inr (.inl (34, (.ofNat 0, [(0, .ofNat 1)])))), (1, .inl (.inl (.ofNat 0, [(1, .ofNat 1)]))), (2, .inl (.inl (.ofNat 0, [(2, .ofNat 1)]))), (3, .inl (.inl (.ofNat 4, [])))], [], [(.ofNat 0, []), (.ofNat 0, [(2, .negSucc 0)]), (.ofNat 0, [])])]
theorem ty_j_J7_fill_53178 : ty_mi 269 = some ty_i_J7_fill_53178 := (ex_nth_get _ _).trans rfl
set_option maxRecDepth 1000000 in
set_option maxHeartbeats 0 in
/-- fill Scene.size -/
theorem ty_h0 {l : Launch} : ty_ConOk ty_mi l ty_c0 := ty_chk (mt := ty_mt) (cn := []) (f := 100000) (ts := ty_t0) (ty_run_ok ty_gw ty_hmt ty_k0 _) ty_j_J7_fill_53178 ty_f_J7_fill_53178 (by decide +kernel) (ty_every_t (by decide +kernel))
def ty_c1 : ty_Con := (269, [.inr (.inl (32, (.ofNat 0, [(0, .ofNat 1)]))), .inl (.inl (.ofNat 0, [(1, .ofNat 1)]))], (2, [(0, .ofNat 40, .ofNat 490), (1, .negSucc 2147483647, .ofNat 2147483647)], []), [], [((2, [], []), [], [])], [(32, none)], 0)
def ty_t1 : List ty_Tp := [(5, (3, [(0, .ofNat 40, .ofNat 490), (1, .negSucc 2147483647, .ofNat 2147483647), (2, .ofNat 0, .ofNat 8)], []), [(0, .inr (.inl (32, (.ofNat 0, [(0, .ofNat 1)])))), (1, .inl (.inl (.ofNat 0, [(1, .ofNat 1)]))), (2, .inl (.inl (.ofNat 0, [(2, .ofNat 1)]))), (3, .inl (.inl (.ofNat 8, [])))], [], [(.ofNat 0, []), (.ofNat 0, [(2, .negSucc 0)]), (.ofNat 0, [])])]
set_option maxRecDepth 1000000 in
set_option maxHeartbeats 0 in
/-- fill Scene.waited -/
theorem ty_h1 {l : Launch} : ty_ConOk ty_mi l ty_c1 := ty_chk (mt := ty_mt) (cn := []) (f := 100000) (ts := ty_t1) (ty_run_ok ty_gw ty_hmt ty_k0 _) ty_j_J7_fill_53178 ty_f_J7_fill_53178 (by decide +kernel) (ty_every_t (by decide +kernel))
def ty_c2 : ty_Con := (269, [.inr (.inl (50, (.ofNat 394, []))), .inl (.inl (.ofNat 0, [(0, .ofNat 1)]))], (1, [(0, .negSucc 2147483647, .ofNat 2147483647)], []), [], [((1, [], []), [], [])], [(50, none)], 0)
def ty_t2 : List ty_Tp := [(5, (2, [(0, .negSucc 2147483647, .ofNat 2147483647), (1, .ofNat 0, .ofNat 256)], []), [(0, .inr (.inl (50, (.ofNat 394, [])))), (1, .inl (.inl (.ofNat 0, [(0, .ofNat 1)]))), (2, .inl (.inl (.ofNat 0, [(1, .ofNat 1)]))), (3, .inl (.inl (.ofNat 256, [])))], [], [(.ofNat 0, []), (.ofNat 0, [(1, .negSucc 0)]), (.ofNat 0, [])])]
set_option maxRecDepth 1000000 in
set_option maxHeartbeats 0 in
/-- fill H.sightings.alike -/
theorem ty_h2 {l : Launch} : ty_ConOk ty_mi l ty_c2 := ty_chk (mt := ty_mt) (cn := []) (f := 100000) (ts := ty_t2) (ty_run_ok ty_gw ty_hmt ty_k0 _) ty_j_J7_fill_53178 ty_f_J7_fill_53178 (by decide +kernel) (ty_every_t (by decide +kernel))
def ty_c3 : ty_Con := (266, [.inl (.inl (.ofNat 0, [(0, .ofNat 1)]))], (1, [(0, .negSucc 2147483647, .ofNat 2147483647)], []), [], [((2, [(1, .ofNat 0, .ofNat 63)], []), [.inl (.inl (.ofNat 0, [(1, .ofNat 1)]))], [])], [], 0)
def ty_t3 : List ty_Tp := []
theorem ty_j_J6_bitCount_0f7a4 : ty_mi 266 = some ty_i_J6_bitCount_0f7a4 := (ex_nth_get _ _).trans rfl
set_option maxRecDepth 1000000 in
set_option maxHeartbeats 0 in
/-- J6_bitCount_0f7a4 -/
theorem ty_h3 {l : Launch} : ty_ConOk ty_mi l ty_c3 := ty_chk (mt := ty_mt) (cn := []) (f := 100000) (ts := ty_t3) (ty_run_ok ty_gw ty_hmt ty_k0 _) ty_j_J6_bitCount_0f7a4 ty_f_J6_bitCount_0f7a4 (by decide +kernel) (ty_every_t (by decide +kernel))
def ty_c4 : ty_Con := (9, [.inr (.inl (24, (.ofNat 0, [(0, .ofNat 1)]))), .inr (.inl (35, (.ofNat 0, [(1, .ofNat 1)])))], (2, [(0, .ofNat 28, .ofNat 32), (1, .ofNat 43, .ofNat 493)], []), [], [((3, [(2, .negSucc 2147483647, .ofNat 2147483647)], []), [.inl (.inl (.ofNat 0, [(2, .ofNat 1)]))], [])], [(27, none)], 1)
def ty_t4 : List ty_Tp := [(4, (4, [(0, .ofNat 28, .ofNat 32), (1, .ofNat 43, .ofNat 493), (2, .ofNat 0, .ofNat 48), (3, .ofNat 0, .ofNat 300)], []), [(0, .inr (.inl (24, (.ofNat 0, [(0, .ofNat 1)])))), (1, .inr (.inl (35, (.ofNat 0, [(1, .ofNat 1)])))), (2, .inl (.inl (.ofNat 0, [(2, .ofNat 1)]))), (3, .inl (.inl (.ofNat 0, [(3, .ofNat 1)])))], [], [(.ofNat 0, []), (.ofNat 0, [(3, .negSucc 0)]), (.ofNat 0, [])])]
theorem ty_j_X2_valueBy : ty_mi 9 = some ty_i_X2_valueBy := (ex_nth_get _ _).trans rfl
set_option maxRecDepth 1000000 in
set_option maxHeartbeats 0 in
/-- X2_valueBy -/
theorem ty_h4 {l : Launch} : ty_ConOk ty_mi l ty_c4 := ty_chk (mt := ty_mt) (cn := []) (f := 100000) (ts := ty_t4) (ty_run_ok ty_gw ty_hmt ty_k0 _) ty_j_X2_valueBy ty_f_X2_valueBy (by decide +kernel) (ty_every_t (by decide +kernel))
def ty_c5 : ty_Con := (45, [.inr (.inl (28, (.ofNat 0, [(0, .ofNat 1)]))), .inl (.inl (.ofNat 0, [(1, .ofNat 1)]))], (2, [(0, .ofNat 36, .ofNat 486), (1, .ofNat 0, .ofNat 7)], []), [], [((2, [], []), [], [])], [(29, none), (30, none), (34, none)], 0)
def ty_t5 : List ty_Tp := [(14, (4, [(0, .ofNat 36, .ofNat 486), (1, .ofNat 0, .ofNat 7), (2, .ofNat 0, .ofNat 3), (3, .ofNat 0, .ofNat 8)], []), [(0, .inr (.inl (28, (.ofNat 0, [(0, .ofNat 1)])))), (1, .inl (.inl (.ofNat 0, [(1, .ofNat 1)]))), (2, .inl (.inl (.ofNat 0, [(2, .ofNat 1)]))), (3, .inl (.inl (.ofNat 0, [(3, .ofNat 1)])))], [], [(.ofNat 0, []), (.ofNat 0, [(3, .negSucc 0)]), (.ofNat 0, [])])]
theorem ty_j_X4_leave : ty_mi 45 = some ty_i_X4_leave := (ex_nth_get _ _).trans rfl
set_option maxRecDepth 1000000 in
set_option maxHeartbeats 0 in
/-- X4_leave -/
theorem ty_h5 {l : Launch} : ty_ConOk ty_mi l ty_c5 := ty_chk (mt := ty_mt) (cn := []) (f := 100000) (ts := ty_t5) (ty_run_ok ty_gw ty_hmt ty_k0 _) ty_j_X4_leave ty_f_X4_leave (by decide +kernel) (ty_every_t (by decide +kernel))
def ty_c6 : ty_Con := (39, [.inr (.inl (28, (.ofNat 0, [(0, .ofNat 1)]))), .inl (.inl (.ofNat 0, [(1, .ofNat 1)])), .inl (.inl (.ofNat 0, [(2, .ofNat 1)]))], (3, [(0, .ofNat 36, .ofNat 486), (1, .ofNat 0, .ofNat 7), (2, .negSucc 2147483647, .ofNat 2147483647)], []), [], [((4, [(3, .ofNat 43, .ofNat 493)], []), [.inr (.inl (35, (.ofNat 0, [(3, .ofNat 1)])))], [])], [(35, some 0), (35, some 1), (35, some 2), (35, some 3), (35, some 4), (35, some 5)], 1)
def ty_t6 : List ty_Tp := [(5, (5, [(0, .ofNat 36, .ofNat 486), (1, .ofNat 0, .ofNat 7), (2, .negSucc 2147483647, .ofNat 2147483647), (3, .negSucc 2147483647, .ofNat 2147483647), (4, .ofNat 0, .ofNat 8)], []), [(0, .inr (.inl (28, (.ofNat 0, [(0, .ofNat 1)])))), (1, .inl (.inl (.ofNat 0, [(1, .ofNat 1)]))), (2, .inl (.inl (.ofNat 0, [(2, .ofNat 1)]))), (3, .inl (.inl (.ofNat 0, [(3, .ofNat 1)]))), (4, .inl (.inl (.ofNat 0, [(4, .ofNat 1)])))], [], [(.ofNat 0, []), (.ofNat 0, [(4, .negSucc 0)]), (.ofNat 0, [])])]
theorem ty_j_X4_factsOf : ty_mi 39 = some ty_i_X4_factsOf := (ex_nth_get _ _).trans rfl
set_option maxRecDepth 1000000 in
set_option maxHeartbeats 0 in
/-- X4_factsOf -/
theorem ty_h6 {l : Launch} : ty_ConOk ty_mi l ty_c6 := ty_chk (mt := ty_mt) (cn := [ty_c3]) (f := 100000) (ts := ty_t6) (ty_run_ok ty_gw ty_hmt (ty_kc ty_h3 ty_k0) _) ty_j_X4_factsOf ty_f_X4_factsOf (by decide +kernel) (ty_every_t (by decide +kernel))
def ty_c7 : ty_Con := (31, [.inr (.inl (28, (.ofNat 0, [(0, .ofNat 1)])))], (1, [(0, .ofNat 36, .ofNat 486)], []), [], [((2, [(1, .ofNat 0, .ofNat 255)], []), [.inl (.inl (.ofNat 0, [(1, .ofNat 1)]))], [])], [], 0)
def ty_t7 : List ty_Tp := [(4, (3, [(0, .ofNat 36, .ofNat 486), (1, .ofNat 0, .ofNat 255), (2, .ofNat 0, .ofNat 8)], []), [(0, .inr (.inl (28, (.ofNat 0, [(0, .ofNat 1)])))), (1, .inl (.inl (.ofNat 0, [(1, .ofNat 1)]))), (2, .inl (.inl (.ofNat 0, [(2, .ofNat 1)])))], [], [(.ofNat 0, []), (.ofNat 0, [(2, .negSucc 0)]), (.ofNat 0, [])])]
theorem ty_j_X4_whoIsBy : ty_mi 31 = some ty_i_X4_whoIsBy := (ex_nth_get _ _).trans rfl
set_option maxRecDepth 1000000 in
set_option maxHeartbeats 0 in
/-- X4_whoIsBy -/
theorem ty_h7 {l : Launch} : ty_ConOk ty_mi l ty_c7 := ty_chk (mt := ty_mt) (cn := []) (f := 100000) (ts := ty_t7) (ty_run_ok ty_gw ty_hmt ty_k0 _) ty_j_X4_whoIsBy ty_f_X4_whoIsBy (by decide +kernel) (ty_every_t (by decide +kernel))
def ty_c8 : ty_Con := (33, [.inr (.inl (28, (.ofNat 0, [(0, .ofNat 1)]))), .inl (.inl (.ofNat 0, [(1, .ofNat 1)]))], (2, [(0, .ofNat 36, .ofNat 486), (1, .negSucc 2147483647, .ofNat 2147483647)], []), [], [((3, [(2, .ofNat 0, .ofNat 255)], []), [.inl (.inl (.ofNat 0, [(2, .ofNat 1)]))], [])], [], 0)
def ty_t8 : List ty_Tp := [(4, (4, [(0, .ofNat 36, .ofNat 486), (1, .negSucc 2147483647, .ofNat 2147483647), (2, .ofNat 0, .ofNat 255), (3, .ofNat 0, .ofNat 8)], []), [(0, .inr (.inl (28, (.ofNat 0, [(0, .ofNat 1)])))), (1, .inl (.inl (.ofNat 0, [(1, .ofNat 1)]))), (2, .inl (.inl (.ofNat 0, [(2, .ofNat 1)]))), (3, .inl (.inl (.ofNat 0, [(3, .ofNat 1)])))], [], [(.ofNat 0, []), (.ofNat 0, [(3, .negSucc 0)]), (.ofNat 0, [])])]
theorem ty_j_X4_sayers : ty_mi 33 = some ty_i_X4_sayers := (ex_nth_get _ _).trans rfl
set_option maxRecDepth 1000000 in
set_option maxHeartbeats 0 in
/-- X4_sayers -/
theorem ty_h8 {l : Launch} : ty_ConOk ty_mi l ty_c8 := ty_chk (mt := ty_mt) (cn := []) (f := 100000) (ts := ty_t8) (ty_run_ok ty_gw ty_hmt ty_k0 _) ty_j_X4_sayers ty_f_X4_sayers (by decide +kernel) (ty_every_t (by decide +kernel))
def ty_c9 : ty_Con := (29, [.inr (.inl (28, (.ofNat 0, [(0, .ofNat 1)])))], (1, [(0, .ofNat 36, .ofNat 486)], []), [], [((1, [], []), [], [])], [(28, some 6), (28, some 7), (28, some 8), (28, some 9), (28, some 10), (29, none), (30, none), (31, none), (32, none), (33, none), (34, none)], 1)
def ty_t9 : List ty_Tp := [(18, (2, [(0, .ofNat 36, .ofNat 486), (1, .ofNat 0, .ofNat 8)], []), [(0, .inr (.inl (28, (.ofNat 0, [(0, .ofNat 1)])))), (1, .inl (.inl (.ofNat 0, [(1, .ofNat 1)])))], [], [(.ofNat 0, []), (.ofNat 0, [(1, .negSucc 0)]), (.ofNat 0, [])])]
theorem ty_j_X4_begin : ty_mi 29 = some ty_i_X4_begin := (ex_nth_get _ _).trans rfl
set_option maxRecDepth 1000000 in
set_option maxHeartbeats 0 in
/-- X4_begin -/
theorem ty_h9 {l : Launch} : ty_ConOk ty_mi l ty_c9 := ty_chk (mt := ty_mt) (cn := [ty_c0, ty_c1, ty_c2]) (f := 100000) (ts := ty_t9) (ty_run_ok ty_gw ty_hmt (ty_kc ty_h0 (ty_kc ty_h1 (ty_kc ty_h2 ty_k0))) _) ty_j_X4_begin ty_f_X4_begin (by decide +kernel) (ty_every_t (by decide +kernel))
def ty_c10 : ty_Con := (42, [.inr (.inl (28, (.ofNat 0, [(0, .ofNat 1)]))), .inl (.inl (.ofNat 0, [(1, .ofNat 1)]))], (2, [(0, .ofNat 36, .ofNat 486), (1, .negSucc 2147483647, .ofNat 2147483647)], []), [], [((3, [(2, .negSucc 0, .ofNat 7)], []), [.inl (.inl (.ofNat 0, [(2, .ofNat 1)]))], [])], [], 0)
def ty_t10 : List ty_Tp := [(2, (3, [(0, .ofNat 36, .ofNat 486), (1, .negSucc 2147483647, .ofNat 2147483647), (2, .ofNat 0, .ofNat 8)], []), [(0, .inr (.inl (28, (.ofNat 0, [(0, .ofNat 1)])))), (1, .inl (.inl (.ofNat 0, [(1, .ofNat 1)]))), (2, .inl (.inl (.ofNat 0, [(2, .ofNat 1)])))], [], [(.ofNat 0, []), (.ofNat 0, [(2, .negSucc 0)]), (.ofNat 0, [])])]
theorem ty_j_X4_firstOf : ty_mi 42 = some ty_i_X4_firstOf := (ex_nth_get _ _).trans rfl
set_option maxRecDepth 1000000 in
set_option maxHeartbeats 0 in
/-- X4_firstOf -/
theorem ty_h10 {l : Launch} : ty_ConOk ty_mi l ty_c10 := ty_chk (mt := ty_mt) (cn := []) (f := 100000) (ts := ty_t10) (ty_run_ok ty_gw ty_hmt ty_k0 _) ty_j_X4_firstOf ty_f_X4_firstOf (by decide +kernel) (ty_every_t (by decide +kernel))
def ty_c11 : ty_Con := (43, [.inr (.inl (28, (.ofNat 0, [(0, .ofNat 1)]))), .inl (.inl (.ofNat 0, [(1, .ofNat 1)])), .inl (.inl (.ofNat 0, [(2, .ofNat 1)]))], (3, [(0, .ofNat 36, .ofNat 486), (1, .ofNat 0, .ofNat 7), (2, .ofNat 0, .ofNat 1)], []), [], [((3, [], []), [], [])], [(27, none), (28, some 6), (28, some 7), (29, none), (30, none), (33, none), (34, none), (35, some 0), (35, some 1), (35, some 2), (35, some 3), (35, some 4), (35, some 5)], 2)
def ty_t11 : List ty_Tp := [(63, (7, [(0, .ofNat 36, .ofNat 486), (1, .ofNat 0, .ofNat 7), (2, .ofNat 0, .ofNat 1), (3, .ofNat 43, .ofNat 493), (4, .negSucc 2147483647, .ofNat 2147483647), (5, .ofNat 0, .ofNat 1), (6, .ofNat 0, .ofNat 8)], []), [(0, .inr (.inl (28, (.ofNat 0, [(0, .ofNat 1)])))), (1, .inl (.inl (.ofNat 0, [(1, .ofNat 1)]))), (2, .inl (.inl (.ofNat 0, [(2, .ofNat 1)]))), (3, .inr (.inl (35, (.ofNat 0, [(3, .ofNat 1)])))), (4, .inl (.inl (.ofNat 0, [(5, .ofNat 1)]))), (5, .inl (.inl (.ofNat 0, [(6, .ofNat 1)])))], [(28, (.ofNat 0, [(0, .ofNat 1)]), (.ofNat 7, []), .inl (.inl (.ofNat 0, [(4, .ofNat 1)])))], [(.ofNat 0, []), (.ofNat 0, [(6, .negSucc 0)]), (.ofNat 0, [])])]
theorem ty_j_X4_listen : ty_mi 43 = some ty_i_X4_listen := (ex_nth_get _ _).trans rfl
set_option maxRecDepth 1000000 in
set_option maxHeartbeats 0 in
/-- X4_listen -/
theorem ty_h11 {l : Launch} : ty_ConOk ty_mi l ty_c11 := ty_chk (mt := ty_mt) (cn := [ty_c4, ty_c5, ty_c6]) (f := 100000) (ts := ty_t11) (ty_run_ok ty_gw ty_hmt (ty_kc ty_h4 (ty_kc ty_h5 (ty_kc ty_h6 ty_k0))) _) ty_j_X4_listen ty_f_X4_listen (by decide +kernel) (ty_every_t (by decide +kernel))
def ty_c12 : ty_Con := (41, [.inr (.inl (28, (.ofNat 0, [(0, .ofNat 1)]))), .inl (.inl (.ofNat 0, [(1, .ofNat 1)])), .inl (.inl (.ofNat 0, [(2, .ofNat 1)]))], (3, [(0, .ofNat 36, .ofNat 486), (1, .negSucc 2147483647, .ofNat 2147483647), (2, .ofNat 0, .ofNat 1)], []), [], [((4, [(3, .negSucc 0, .ofNat 7)], []), [.inl (.inl (.ofNat 0, [(3, .ofNat 1)]))], [])], [(27, none), (28, some 6), (28, some 7), (28, some 8), (28, some 9), (29, none), (30, none), (32, none), (33, none), (34, none), (35, some 0), (35, some 1), (35, some 2), (35, some 3), (35, some 4), (35, some 5)], 3)
def ty_t12 : List ty_Tp := [(20, (5, [(0, .ofNat 36, .ofNat 486), (1, .negSucc 2147483647, .ofNat 2147483647), (2, .ofNat 0, .ofNat 1), (3, .negSucc 0, .ofNat 7), (4, .ofNat 0, .ofNat 8)], []), [(0, .inr (.inl (28, (.ofNat 0, [(0, .ofNat 1)])))), (1, .inl (.inl (.ofNat 0, [(1, .ofNat 1)]))), (2, .inl (.inl (.ofNat 0, [(2, .ofNat 1)]))), (3, .inl (.inl (.ofNat 0, [(3, .ofNat 1)]))), (4, .inl (.inl (.ofNat 0, [(4, .ofNat 1)])))], [], [(.ofNat 0, []), (.ofNat 0, [(4, .negSucc 0)]), (.ofNat 0, [])])]
theorem ty_j_X4_openTo : ty_mi 41 = some ty_i_X4_openTo := (ex_nth_get _ _).trans rfl
set_option maxRecDepth 1000000 in
set_option maxHeartbeats 0 in
/-- X4_openTo -/
theorem ty_h12 {l : Launch} : ty_ConOk ty_mi l ty_c12 := ty_chk (mt := ty_mt) (cn := [ty_c10, ty_c11]) (f := 100000) (ts := ty_t12) (ty_run_ok ty_gw ty_hmt (ty_kc ty_h10 (ty_kc ty_h11 ty_k0)) _) ty_j_X4_openTo ty_f_X4_openTo (by decide +kernel) (ty_every_t (by decide +kernel))
def ty_c13 : ty_Con := (30, [.inr (.inl (28, (.ofNat 0, [(0, .ofNat 1)]))), .inr (.inl (28, (.ofNat 0, [(1, .ofNat 1)])))], (2, [(0, .ofNat 36, .ofNat 486), (1, .ofNat 36, .ofNat 486)], []), [], [((2, [], []), [], [])], [(28, some 6), (28, some 7), (28, some 8), (28, some 9), (28, some 10), (29, none), (30, none), (31, none), (32, none), (33, none), (34, none)], 0)
def ty_t13 : List ty_Tp := []
theorem ty_j_X4_copy : ty_mi 30 = some ty_i_X4_copy := (ex_nth_get _ _).trans rfl
set_option maxRecDepth 1000000 in
set_option maxHeartbeats 0 in
/-- X4_copy -/
theorem ty_h13 {l : Launch} : ty_ConOk ty_mi l ty_c13 := ty_chk (mt := ty_mt) (cn := []) (f := 100000) (ts := ty_t13) (ty_run_ok ty_gw ty_hmt ty_k0 _) ty_j_X4_copy ty_f_X4_copy (by decide +kernel) (ty_every_t (by decide +kernel))
def ty_c14 : ty_Con := (0, [.inr (.inl (37, (.ofNat 53, []))), .inr (.inl (28, (.ofNat 0, [(0, .ofNat 1)])))], (1, [(0, .ofNat 36, .ofNat 486)], []), [], [((1, [], []), [], [(37, (.ofNat 53, []), (.ofNat 0, []), .inl (.inl (.ofNat 0, []))), (37, (.ofNat 53, []), (.ofNat 1, []), .inl (.inl (.ofNat 0, [])))])], [(28, some 6), (28, some 7), (28, some 8), (28, some 9), (28, some 10), (29, none), (30, none), (31, none), (32, none), (33, none), (34, none), (37, some 0), (37, some 1), (37, some 3)], 1)
def ty_t14 : List ty_Tp := []
theorem ty_j_X0_forget : ty_mi 0 = some ty_i_X0_forget := (ex_nth_get _ _).trans rfl
set_option maxRecDepth 1000000 in
set_option maxHeartbeats 0 in
/-- X0_forget -/
theorem ty_h14 {l : Launch} : ty_ConOk ty_mi l ty_c14 := ty_chk (mt := ty_mt) (cn := [ty_c13]) (f := 100000) (ts := ty_t14) (ty_run_ok ty_gw ty_hmt (ty_kc ty_h13 ty_k0) _) ty_j_X0_forget ty_f_X0_forget (by decide +kernel) (ty_every_t (by decide +kernel))
def ty_c15 : ty_Con := (1, [.inr (.inl (37, (.ofNat 53, []))), .inr (.inl (28, (.ofNat 0, [(0, .ofNat 1)])))], (1, [(0, .ofNat 36, .ofNat 486)], []), [], [((3, [(1, .ofNat 0, .ofNat 40), (2, .ofNat 0, .ofNat 40)], [(.ofNat 0, [(1, .ofNat 1), (2, .negSucc 0)])]), [], [(37, (.ofNat 53, []), (.ofNat 0, []), .inl (.inl (.ofNat 0, [(1, .ofNat 1)]))), (37, (.ofNat 53, []), (.ofNat 1, []), .inl (.inl (.ofNat 0, [(2, .ofNat 1)])))])], [(28, some 6), (28, some 7), (28, some 8), (28, some 9), (28, some 10), (29, none), (30, none), (31, none), (32, none), (33, none), (34, none), (37, some 0), (37, some 1), (37, some 3)], 1)
def ty_t15 : List ty_Tp := []
theorem ty_j_X0_add : ty_mi 1 = some ty_i_X0_add := (ex_nth_get _ _).trans rfl
set_option maxRecDepth 1000000 in
set_option maxHeartbeats 0 in
/-- X0_add -/
theorem ty_h15 {l : Launch} : ty_ConOk ty_mi l ty_c15 := ty_chk (mt := ty_mt) (cn := [ty_c13]) (f := 100000) (ts := ty_t15) (ty_run_ok ty_gw ty_hmt (ty_kc ty_h13 ty_k0) _) ty_j_X0_add ty_f_X0_add (by decide +kernel) (ty_every_t (by decide +kernel))
def ty_c16 : ty_Con := (7, [.inr (.inl (9, (.ofNat 0, [(0, .ofNat 1)]))), .inl (.inl (.ofNat 0, [(1, .ofNat 1)])), .inl (.inl (.ofNat 0, [(2, .ofNat 1)]))], (3, [(0, .ofNat 9, .ofNat 13), (1, .negSucc 2147483647, .ofNat 2147483647), (2, .negSucc 2147483647, .ofNat 2147483647)], []), [], [((3, [], []), [], [])], [(9, some 3), (10, none), (11, none)], 0)
def ty_t16 : List ty_Tp := []
theorem ty_j_X2_add : ty_mi 7 = some ty_i_X2_add := (ex_nth_get _ _).trans rfl
set_option maxRecDepth 1000000 in
set_option maxHeartbeats 0 in
/-- X2_add -/
theorem ty_h16 {l : Launch} : ty_ConOk ty_mi l ty_c16 := ty_chk (mt := ty_mt) (cn := []) (f := 100000) (ts := ty_t16) (ty_run_ok ty_gw ty_hmt ty_k0 _) ty_j_X2_add ty_f_X2_add (by decide +kernel) (ty_every_t (by decide +kernel))
def ty_c17 : ty_Con := (8, [.inr (.inl (24, (.ofNat 0, [(0, .ofNat 1)]))), .inr (.inl (9, (.ofNat 0, [(1, .ofNat 1)])))], (2, [(0, .ofNat 28, .ofNat 32), (1, .ofNat 9, .ofNat 13)], []), [], [((2, [], []), [], [])], [(24, some 3), (25, none), (26, none)], 0)
def ty_t17 : List ty_Tp := []
theorem ty_j_X2_copy : ty_mi 8 = some ty_i_X2_copy := (ex_nth_get _ _).trans rfl
set_option maxRecDepth 1000000 in
set_option maxHeartbeats 0 in
/-- X2_copy -/
theorem ty_h17 {l : Launch} : ty_ConOk ty_mi l ty_c17 := ty_chk (mt := ty_mt) (cn := []) (f := 100000) (ts := ty_t17) (ty_run_ok ty_gw ty_hmt ty_k0 _) ty_j_X2_copy ty_f_X2_copy (by decide +kernel) (ty_every_t (by decide +kernel))
def ty_c18 : ty_Con := (63, [.inr (.inl (4, (.ofNat 4, [])))], (0, [], []), [], [((0, [], []), [], [(4, (.ofNat 4, []), (.ofNat 0, []), .inl (.inl (.ofNat 4, [])))])], [(4, some 0), (4, some 1), (4, some 2), (4, some 3), (4, some 4), (4, some 5), (4, some 6), (9, some 3), (10, none), (11, none)], 1)
def ty_t18 : List ty_Tp := []
theorem ty_j_X8_clear : ty_mi 63 = some ty_i_X8_clear := (ex_nth_get _ _).trans rfl
set_option maxRecDepth 1000000 in
set_option maxHeartbeats 0 in
/-- X8_clear -/
theorem ty_h18 {l : Launch} : ty_ConOk ty_mi l ty_c18 := ty_chk (mt := ty_mt) (cn := [ty_c16]) (f := 100000) (ts := ty_t18) (ty_run_ok ty_gw ty_hmt (ty_kc ty_h16 ty_k0) _) ty_j_X8_clear ty_f_X8_clear (by decide +kernel) (ty_every_t (by decide +kernel))
def ty_c19 : ty_Con := (52, [.inr (.inl (41, (.ofNat 385, []))), .inl (.inl (.ofNat 0, [(0, .ofNat 1)])), .inl (.inl (.ofNat 0, [(1, .ofNat 1)]))], (2, [(0, .ofNat 0, .ofNat 99), (1, .negSucc 2147483647, .ofNat 2147483647)], []), [], [((3, [(2, .ofNat 0, .ofNat 1)], []), [.inl (.inl (.ofNat 0, [(2, .ofNat 1)]))], [])], [], 0)
def ty_t19 : List ty_Tp := [(2, (3, [(0, .ofNat 0, .ofNat 99), (1, .negSucc 2147483647, .ofNat 2147483647), (2, .ofNat 0, .ofNat 30)], []), [(0, .inr (.inl (41, (.ofNat 385, [])))), (1, .inl (.inl (.ofNat 0, [(0, .ofNat 1)]))), (2, .inl (.inl (.ofNat 0, [(1, .ofNat 1)]))), (3, .inl (.inl (.ofNat 0, [(2, .ofNat 1)])))], [], [(.ofNat 0, []), (.ofNat 0, [(2, .negSucc 0)]), (.ofNat 0, [])])]
theorem ty_j_X5_isFitting : ty_mi 52 = some ty_i_X5_isFitting := (ex_nth_get _ _).trans rfl
set_option maxRecDepth 1000000 in
set_option maxHeartbeats 0 in
/-- X5_isFitting -/
theorem ty_h19 {l : Launch} : ty_ConOk ty_mi l ty_c19 := ty_chk (mt := ty_mt) (cn := []) (f := 100000) (ts := ty_t19) (ty_run_ok ty_gw ty_hmt ty_k0 _) ty_j_X5_isFitting ty_f_X5_isFitting (by decide +kernel) (ty_every_t (by decide +kernel))
def ty_c20 : ty_Con := (53, [.inr (.inl (41, (.ofNat 385, [])))], (1, [(0, .ofNat 1, .ofNat 8)], []), [(19, (.ofNat 23, []), (.ofNat 1, []), .inl (.inl (.ofNat 0, [(0, .ofNat 1)])))], [((1, [], []), [], [])], [(27, none), (28, some 6), (28, some 7), (28, some 8), (28, some 9), (28, some 10), (29, none), (30, none), (31, none), (32, none), (33, none), (34, none), (35, some 0), (35, some 1), (35, some 2), (35, some 3), (35, some 4), (35, some 5), (41, some 11), (49, none)], 4)
def ty_t20 : List ty_Tp := [(10, (3, [(0, .ofNat 1, .ofNat 8), (1, .ofNat 0, .ofNat 0), (2, .ofNat 0, .ofNat 100)], []), [(0, .inr (.inl (41, (.ofNat 385, [])))), (1, .inl (.inl (.ofNat 0, [(2, .ofNat 1)])))], [(19, (.ofNat 23, []), (.ofNat 1, []), .inl (.inl (.ofNat 0, [(0, .ofNat 1)]))), (41, (.ofNat 385, []), (.ofNat 11, []), .inl (.inl (.ofNat 0, [(1, .ofNat 1)])))], [(.ofNat 0, []), (.ofNat 0, [(2, .negSucc 0)]), (.ofNat 1, [])]), (43, (4, [(0, .ofNat 1, .ofNat 8), (1, .ofNat 0, .ofNat 99), (2, .ofNat 0, .ofNat 0), (3, .ofNat 0, .ofNat 21)], []), [(0, .inr (.inl (41, (.ofNat 385, [])))), (1, .inl (.inl (.ofNat 0, [(1, .ofNat 1)]))), (2, .inl (.inl (.ofNat 0, [(3, .ofNat 1)])))], [(19, (.ofNat 23, []), (.ofNat 1, []), .inl (.inl (.ofNat 0, [(0, .ofNat 1)]))), (41, (.ofNat 385, []), (.ofNat 11, []), .inl (.inl (.ofNat 0, [(2, .ofNat 1)])))], [(.ofNat 0, []), (.ofNat 0, [(1, .negSucc 0)]), (.ofNat 0, []), (.ofNat 0, [(3, .negSucc 0)]), (.ofNat 0, [])])]
theorem ty_j_X5_makeBy : ty_mi 53 = some ty_i_X5_makeBy := (ex_nth_get _ _).trans rfl
set_option maxRecDepth 1000000 in
set_option maxHeartbeats 0 in
/-- X5_makeBy -/
theorem ty_h20 {l : Launch} : ty_ConOk ty_mi l ty_c20 := ty_chk (mt := ty_mt) (cn := [ty_c7, ty_c9, ty_c12]) (f := 100000) (ts := ty_t20) (ty_run_ok ty_gw ty_hmt (ty_kc ty_h7 (ty_kc ty_h9 (ty_kc ty_h12 ty_k0))) _) ty_j_X5_makeBy ty_f_X5_makeBy (by decide +kernel) (ty_every_t (by decide +kernel))
def ty_c21 : ty_Con := (51, [.inr (.inl (41, (.ofNat 385, []))), .inl (.inl (.ofNat 0, [(0, .ofNat 1)]))], (1, [(0, .negSucc 2147483647, .ofNat 2147483647)], []), [], [((2, [(1, .ofNat 0, .ofNat 100)], []), [.inl (.inl (.ofNat 0, [(1, .ofNat 1)]))], [])], [(27, none), (28, some 6), (28, some 7), (28, some 8), (28, some 9), (28, some 10), (29, none), (30, none), (31, none), (32, none), (33, none), (34, none), (35, some 0), (35, some 1), (35, some 2), (35, some 3), (35, some 4), (35, some 5), (41, some 11), (42, none), (49, none)], 5)
def ty_t21 : List ty_Tp := [(20, (4, [(0, .negSucc 2147483647, .ofNat 2147483647), (1, .ofNat 1, .ofNat 8), (2, .ofNat 0, .ofNat 100), (3, .ofNat 0, .ofNat 100)], [(.ofNat 0, [(2, .ofNat 1), (3, .negSucc 0)])]), [(0, .inr (.inl (41, (.ofNat 385, [])))), (1, .inl (.inl (.ofNat 0, [(0, .ofNat 1)]))), (2, .inl (.inl (.ofNat 0, [(2, .ofNat 1)]))), (3, .inl (.inl (.ofNat 0, [(3, .ofNat 1)])))], [(19, (.ofNat 23, []), (.ofNat 1, []), .inl (.inl (.ofNat 0, [(1, .ofNat 1)])))], [(.ofNat 0, []), (.ofNat 0, [(2, .negSucc 0)]), (.ofNat 0, []), (.ofNat 0, [(3, .negSucc 0)]), (.ofNat 0, [])])]
theorem ty_j_X5_findFitting : ty_mi 51 = some ty_i_X5_findFitting := (ex_nth_get _ _).trans rfl
set_option maxRecDepth 1000000 in
set_option maxHeartbeats 0 in
/-- X5_findFitting -/
theorem ty_h21 {l : Launch} : ty_ConOk ty_mi l ty_c21 := ty_chk (mt := ty_mt) (cn := [ty_c19, ty_c20]) (f := 100000) (ts := ty_t21) (ty_run_ok ty_gw ty_hmt (ty_kc ty_h19 (ty_kc ty_h20 ty_k0)) _) ty_j_X5_findFitting ty_f_X5_findFitting (by decide +kernel) (ty_every_t (by decide +kernel))
def ty_c22 : ty_Con := (54, [.inr (.inl (41, (.ofNat 385, []))), .inl (.inl (.ofNat 0, [(0, .ofNat 1)])), .inl (.inl (.ofNat 0, [(1, .ofNat 1)]))], (2, [(0, .ofNat 0, .ofNat 20), (1, .ofNat 0, .ofNat 100)], []), [], [((3, [(2, .ofNat 0, .ofNat 2147483647)], []), [.inl (.inl (.ofNat 0, [(2, .ofNat 1)]))], [])], [(50, none)], 1)
def ty_t22 : List ty_Tp := [(13, (4, [(0, .ofNat 0, .ofNat 20), (1, .ofNat 0, .ofNat 100), (2, .ofNat 0, .ofNat 2147483647), (3, .ofNat 0, .ofNat 100)], []), [(0, .inr (.inl (41, (.ofNat 385, [])))), (1, .inl (.inl (.ofNat 0, [(0, .ofNat 1)]))), (2, .inl (.inl (.ofNat 0, [(1, .ofNat 1)]))), (3, .inl (.inl (.ofNat 0, [(2, .ofNat 1)]))), (4, .inl (.inl (.ofNat 0, [(3, .ofNat 1)])))], [], [(.ofNat 0, []), (.ofNat 0, [(2, .negSucc 0)]), (.ofNat 0, []), (.ofNat 0, [(3, .negSucc 0)]), (.ofNat 0, [])])]
theorem ty_j_X5_mostAlike : ty_mi 54 = some ty_i_X5_mostAlike := (ex_nth_get _ _).trans rfl
set_option maxRecDepth 1000000 in
set_option maxHeartbeats 0 in
/-- X5_mostAlike -/
theorem ty_h22 {l : Launch} : ty_ConOk ty_mi l ty_c22 := ty_chk (mt := ty_mt) (cn := [ty_c0, ty_c1, ty_c2]) (f := 100000) (ts := ty_t22) (ty_run_ok ty_gw ty_hmt (ty_kc ty_h0 (ty_kc ty_h1 (ty_kc ty_h2 ty_k0))) _) ty_j_X5_mostAlike ty_f_X5_mostAlike (by decide +kernel) (ty_every_t (by decide +kernel))
def ty_c23 : ty_Con := (71, [.inr (.inl (0, (.ofNat 0, [])))], (0, [], []), [], [((0, [], []), [], [(37, (.ofNat 53, []), (.ofNat 0, []), .inl (.inl (.ofNat 0, []))), (37, (.ofNat 53, []), (.ofNat 1, []), .inl (.inl (.ofNat 0, [])))])], [(0, some 13), (28, some 6), (28, some 7), (28, some 8), (28, some 9), (28, some 10), (29, none), (30, none), (31, none), (32, none), (33, none), (34, none), (37, some 0), (37, some 1), (37, some 3), (40, none), (41, some 0), (41, some 11)], 2)
def ty_t23 : List ty_Tp := [(27, (1, [(0, .ofNat 0, .ofNat 3)], []), [(0, .inr (.inl (0, (.ofNat 0, [])))), (1, .inl (.inl (.ofNat 0, [(0, .ofNat 1)])))], [(37, (.ofNat 53, []), (.ofNat 0, []), .inl (.inl (.ofNat 0, []))), (37, (.ofNat 53, []), (.ofNat 1, []), .inl (.inl (.ofNat 0, []))), (41, (.ofNat 385, []), (.ofNat 0, []), .inl (.inl (.ofNat 0, []))), (41, (.ofNat 385, []), (.ofNat 11, []), .inl (.inl (.ofNat 0, [])))], [(.ofNat 0, []), (.ofNat 0, [(0, .negSucc 0)]), (.ofNat 0, [])])]
theorem ty_j_X9_startAsTold : ty_mi 71 = some ty_i_X9_startAsTold := (ex_nth_get _ _).trans rfl
set_option maxRecDepth 1000000 in
set_option maxHeartbeats 0 in
/-- X9_startAsTold -/
theorem ty_h23 {l : Launch} : ty_ConOk ty_mi l ty_c23 := ty_chk (mt := ty_mt) (cn := [ty_c9, ty_c14]) (f := 100000) (ts := ty_t23) (ty_run_ok ty_gw ty_hmt (ty_kc ty_h9 (ty_kc ty_h14 ty_k0)) _) ty_j_X9_startAsTold ty_f_X9_startAsTold (by decide +kernel) (ty_every_t (by decide +kernel))
def ty_c24 : ty_Con := (77, [.inr (.inl (0, (.ofNat 0, [])))], (0, [], []), [], [((1, [(0, .ofNat 0, .ofNat 255)], []), [.inl (.inl (.ofNat 0, [(0, .ofNat 1)]))], [])], [(27, none), (35, some 0), (35, some 1), (35, some 2), (35, some 3), (35, some 4), (35, some 5)], 3)
def ty_t24 : List ty_Tp := [(4, (2, [(0, .ofNat 0, .ofNat 255), (1, .ofNat 0, .ofNat 8)], []), [(0, .inr (.inl (0, (.ofNat 0, [])))), (1, .inl (.inl (.ofNat 0, [(0, .ofNat 1)]))), (2, .inl (.inl (.ofNat 0, [(1, .ofNat 1)])))], [], [(.ofNat 0, []), (.ofNat 0, [(1, .negSucc 0)]), (.ofNat 0, [])])]
theorem ty_j_X9_ready : ty_mi 77 = some ty_i_X9_ready := (ex_nth_get _ _).trans rfl
set_option maxRecDepth 1000000 in
set_option maxHeartbeats 0 in
/-- X9_ready -/
theorem ty_h24 {l : Launch} : ty_ConOk ty_mi l ty_c24 := ty_chk (mt := ty_mt) (cn := [ty_c4, ty_c6]) (f := 100000) (ts := ty_t24) (ty_run_ok ty_gw ty_hmt (ty_kc ty_h4 (ty_kc ty_h6 ty_k0)) _) ty_j_X9_ready ty_f_X9_ready (by decide +kernel) (ty_every_t (by decide +kernel))
def ty_c25 : ty_Con := (78, [.inr (.inl (0, (.ofNat 0, [])))], (0, [], []), [], [((1, [(0, .negSucc 0, .ofNat 7)], []), [.inl (.inl (.ofNat 0, [(0, .ofNat 1)]))], [])], [], 2)
def ty_t25 : List ty_Tp := [(4, (2, [(0, .ofNat 0, .ofNat 8), (1, .negSucc 0, .ofNat 7)], []), [(0, .inr (.inl (0, (.ofNat 0, [])))), (1, .inl (.inl (.ofNat 0, [(1, .ofNat 1)]))), (2, .inl (.inl (.ofNat 0, [(0, .ofNat 1)])))], [], [(.ofNat 0, []), (.ofNat 0, [(0, .negSucc 0)]), (.ofNat 0, [])])]
theorem ty_j_X9_oldest : ty_mi 78 = some ty_i_X9_oldest := (ex_nth_get _ _).trans rfl
set_option maxRecDepth 1000000 in
set_option maxHeartbeats 0 in
/-- X9_oldest -/
theorem ty_h25 {l : Launch} : ty_ConOk ty_mi l ty_c25 := ty_chk (mt := ty_mt) (cn := []) (f := 100000) (ts := ty_t25) (ty_run_ok ty_gw ty_hmt ty_k0 _) ty_j_X9_oldest ty_f_X9_oldest (by decide +kernel) (ty_every_t (by decide +kernel))
def ty_c26 : ty_Con := (79, [.inr (.inl (0, (.ofNat 0, [])))], (0, [], []), [], [((1, [(0, .negSucc 0, .ofNat 7)], []), [.inl (.inl (.ofNat 0, [(0, .ofNat 1)]))], [])], [], 1)
def ty_t26 : List ty_Tp := [(6, (3, [(0, .negSucc 0, .ofNat 7), (1, .negSucc 0, .ofNat 63), (2, .ofNat 0, .ofNat 8)], []), [(0, .inr (.inl (0, (.ofNat 0, [])))), (1, .inl (.inl (.ofNat 0, [(0, .ofNat 1)]))), (2, .inl (.inl (.ofNat 0, [(1, .ofNat 1)]))), (3, .inl (.inl (.ofNat 0, [(2, .ofNat 1)])))], [], [(.ofNat 0, []), (.ofNat 0, [(1, .negSucc 0)]), (.ofNat 0, []), (.ofNat 0, [(2, .negSucc 0)]), (.ofNat 0, [])])]
theorem ty_j_X9_fashion : ty_mi 79 = some ty_i_X9_fashion := (ex_nth_get _ _).trans rfl
set_option maxRecDepth 1000000 in
set_option maxHeartbeats 0 in
/-- X9_fashion -/
theorem ty_h26 {l : Launch} : ty_ConOk ty_mi l ty_c26 := ty_chk (mt := ty_mt) (cn := [ty_c3, ty_c8]) (f := 100000) (ts := ty_t26) (ty_run_ok ty_gw ty_hmt (ty_kc ty_h3 (ty_kc ty_h8 ty_k0)) _) ty_j_X9_fashion ty_f_X9_fashion (by decide +kernel) (ty_every_t (by decide +kernel))
def ty_c27 : ty_Con := (103, [.inr (.inl (0, (.ofNat 0, []))), .inl (.inl (.ofNat 0, [(0, .ofNat 1)]))], (1, [(0, .ofNat 0, .ofNat 7)], []), [], [((2, [(1, .negSucc 0, .ofNat 60)], []), [.inl (.inl (.ofNat 0, [(1, .ofNat 1)]))], [])], [(27, none), (28, some 6), (28, some 7), (28, some 8), (28, some 9), (29, none), (30, none), (32, none), (33, none), (34, none), (35, some 0), (35, some 1), (35, some 2), (35, some 3), (35, some 4), (35, some 5)], 4)
def ty_t27 : List ty_Tp := [(2, (2, [(0, .ofNat 0, .ofNat 7), (1, .ofNat 0, .ofNat 61)], []), [(0, .inr (.inl (0, (.ofNat 0, [])))), (1, .inl (.inl (.ofNat 0, [(0, .ofNat 1)]))), (2, .inl (.inl (.ofNat 0, [(1, .ofNat 1)])))], [], [(.ofNat 0, []), (.ofNat 0, [(1, .negSucc 0)]), (.ofNat 0, [])])]
theorem ty_j_X9_hatchesTill : ty_mi 103 = some ty_i_X9_hatchesTill := (ex_nth_get _ _).trans rfl
set_option maxRecDepth 1000000 in
set_option maxHeartbeats 0 in
/-- X9_hatchesTill -/
theorem ty_h27 {l : Launch} : ty_ConOk ty_mi l ty_c27 := ty_chk (mt := ty_mt) (cn := [ty_c12]) (f := 100000) (ts := ty_t27) (ty_run_ok ty_gw ty_hmt (ty_kc ty_h12 ty_k0) _) ty_j_X9_hatchesTill ty_f_X9_hatchesTill (by decide +kernel) (ty_every_t (by decide +kernel))
def ty_c28 : ty_Con := (104, [.inr (.inl (0, (.ofNat 0, []))), .inl (.inl (.ofNat 0, [(0, .ofNat 1)]))], (1, [(0, .negSucc 2147483647, .ofNat 2147483647)], []), [], [((1, [], []), [], [])], [(27, none), (28, some 6), (28, some 7), (28, some 8), (28, some 9), (28, some 10), (29, none), (30, none), (31, none), (32, none), (33, none), (34, none), (35, some 0), (35, some 1), (35, some 2), (35, some 3), (35, some 4), (35, some 5)], 4)
def ty_t28 : List ty_Tp := [(13, (2, [(0, .negSucc 2147483647, .ofNat 2147483647), (1, .ofNat 0, .ofNat 2147483647)], []), [(0, .inr (.inl (0, (.ofNat 0, [])))), (1, .inl (.inl (.ofNat 0, [(0, .ofNat 1)]))), (2, .inl (.inl (.ofNat 0, [(1, .ofNat 1)])))], [], [(.ofNat 0, []), (.ofNat 0, [(1, .negSucc 0)]), (.ofNat 0, [])])]
theorem ty_j_X9_lookAhead : ty_mi 104 = some ty_i_X9_lookAhead := (ex_nth_get _ _).trans rfl
set_option maxRecDepth 1000000 in
set_option maxHeartbeats 0 in
/-- X9_lookAhead -/
theorem ty_h28 {l : Launch} : ty_ConOk ty_mi l ty_c28 := ty_chk (mt := ty_mt) (cn := [ty_c12, ty_c13]) (f := 100000) (ts := ty_t28) (ty_run_ok ty_gw ty_hmt (ty_kc ty_h12 (ty_kc ty_h13 ty_k0)) _) ty_j_X9_lookAhead ty_f_X9_lookAhead (by decide +kernel) (ty_every_t (by decide +kernel))
def ty_c29 : ty_Con := (101, [.inr (.inl (0, (.ofNat 0, []))), .inl (.inl (.ofNat 0, [(0, .ofNat 1)])), .inl (.inl (.ofNat 0, [(1, .ofNat 1)]))], (2, [(0, .negSucc 2147483647, .ofNat 2147483647), (1, .negSucc 2147483647, .ofNat 2147483647)], []), [], [((3, [(2, .negSucc 0, .ofNat 255)], []), [.inl (.inl (.ofNat 0, [(2, .ofNat 1)]))], [])], [(27, none), (28, some 6), (28, some 7), (28, some 8), (28, some 9), (28, some 10), (29, none), (30, none), (31, none), (32, none), (33, none), (34, none), (35, some 0), (35, some 1), (35, some 2), (35, some 3), (35, some 4), (35, some 5)], 4)
def ty_t29 : List ty_Tp := [(29, (3, [(0, .ofNat 0, .ofNat 60), (1, .ofNat 0, .ofNat 1), (2, .ofNat 0, .ofNat 60)], []), [(0, .inr (.inl (0, (.ofNat 0, [])))), (1, .inl (.inl (.ofNat 0, [(0, .ofNat 1)]))), (2, .inl (.inl (.ofNat 0, [(1, .ofNat 1)]))), (3, .inl (.inl (.ofNat 0, [(2, .ofNat 1)])))], [], [(.ofNat 0, []), (.ofNat 0, [(2, .negSucc 0)]), (.ofNat 0, [])])]
theorem ty_j_X9_will : ty_mi 101 = some ty_i_X9_will := (ex_nth_get _ _).trans rfl
set_option maxRecDepth 1000000 in
set_option maxHeartbeats 0 in
/-- X9_will -/
theorem ty_h29 {l : Launch} : ty_ConOk ty_mi l ty_c29 := ty_chk (mt := ty_mt) (cn := [ty_c7, ty_c12, ty_c13]) (f := 100000) (ts := ty_t29) (ty_run_ok ty_gw ty_hmt (ty_kc ty_h7 (ty_kc ty_h12 (ty_kc ty_h13 ty_k0))) _) ty_j_X9_will ty_f_X9_will (by decide +kernel) (ty_every_t (by decide +kernel))
def ty_c30 : ty_Con := (107, [.inr (.inl (0, (.ofNat 0, []))), .inl (.inl (.ofNat 0, [(0, .ofNat 1)])), .inl (.inl (.ofNat 0, [(1, .ofNat 1)]))], (2, [(0, .negSucc 2147483647, .ofNat 2147483647), (1, .negSucc 2147483647, .ofNat 2147483647)], []), [], [((3, [(2, .negSucc 0, .ofNat 255)], []), [.inl (.inl (.ofNat 0, [(2, .ofNat 1)]))], [])], [(27, none), (28, some 6), (28, some 7), (28, some 8), (28, some 9), (28, some 10), (29, none), (30, none), (31, none), (32, none), (33, none), (34, none), (35, some 0), (35, some 1), (35, some 2), (35, some 3), (35, some 4), (35, some 5)], 5)
def ty_t30 : List ty_Tp := [(27, (5, [(0, .ofNat 0, .ofNat 3), (1, .ofNat 0, .ofNat 60), (2, .ofNat 1, .ofNat 4), (3, .ofNat 0, .ofNat 255), (4, .ofNat 0, .ofNat 8)], []), [(0, .inr (.inl (0, (.ofNat 0, [])))), (1, .inl (.inl (.ofNat 0, [(0, .ofNat 1)]))), (2, .inl (.inl (.ofNat 0, [(1, .ofNat 1)]))), (3, .inl (.inl (.ofNat 0, [(3, .ofNat 1)]))), (4, .inl (.inl (.ofNat 0, [(4, .ofNat 1)])))], [(19, (.ofNat 23, []), (.ofNat 0, []), .inl (.inl (.ofNat 0, [(2, .ofNat 1)])))], [(.ofNat 0, []), (.ofNat 0, [(4, .negSucc 0)]), (.ofNat 0, [])])]
theorem ty_j_X9_clears : ty_mi 107 = some ty_i_X9_clears := (ex_nth_get _ _).trans rfl
set_option maxRecDepth 1000000 in
set_option maxHeartbeats 0 in
/-- X9_clears -/
theorem ty_h30 {l : Launch} : ty_ConOk ty_mi l ty_c30 := ty_chk (mt := ty_mt) (cn := [ty_c28]) (f := 100000) (ts := ty_t30) (ty_run_ok ty_gw ty_hmt (ty_kc ty_h28 ty_k0) _) ty_j_X9_clears ty_f_X9_clears (by decide +kernel) (ty_every_t (by decide +kernel))
def ty_c31 : ty_Con := (110, [.inr (.inl (0, (.ofNat 0, []))), .inl (.inl (.ofNat 0, [(0, .ofNat 1)]))], (1, [(0, .negSucc 2147483647, .ofNat 2147483647)], []), [], [((2, [(1, .negSucc 2147483647, .ofNat 2147483647)], []), [.inl (.inl (.ofNat 0, [(1, .ofNat 1)]))], [])], [(27, none), (28, some 6), (28, some 7), (28, some 8), (28, some 9), (29, none), (30, none), (32, none), (33, none), (34, none), (35, some 0), (35, some 1), (35, some 2), (35, some 3), (35, some 4), (35, some 5)], 4)
def ty_t31 : List ty_Tp := [(4, (3, [(0, .negSucc 2147483647, .ofNat 2147483647), (1, .negSucc 2147483647, .ofNat 2147483647), (2, .ofNat 0, .ofNat 2147483647)], []), [(0, .inr (.inl (0, (.ofNat 0, [])))), (1, .inl (.inl (.ofNat 0, [(0, .ofNat 1)]))), (2, .inl (.inl (.ofNat 0, [(1, .ofNat 1)]))), (3, .inl (.inl (.ofNat 0, [(2, .ofNat 1)])))], [], [(.ofNat 0, []), (.ofNat 0, [(2, .negSucc 0)]), (.ofNat 0, [])])]
theorem ty_j_X9_pressOfTrial : ty_mi 110 = some ty_i_X9_pressOfTrial := (ex_nth_get _ _).trans rfl
set_option maxRecDepth 1000000 in
set_option maxHeartbeats 0 in
/-- X9_pressOfTrial -/
theorem ty_h31 {l : Launch} : ty_ConOk ty_mi l ty_c31 := ty_chk (mt := ty_mt) (cn := [ty_c12]) (f := 100000) (ts := ty_t31) (ty_run_ok ty_gw ty_hmt (ty_kc ty_h12 ty_k0) _) ty_j_X9_pressOfTrial ty_f_X9_pressOfTrial (by decide +kernel) (ty_every_t (by decide +kernel))
def ty_c32 : ty_Con := (111, [.inr (.inl (0, (.ofNat 0, []))), .inl (.inl (.ofNat 0, [(0, .ofNat 1)])), .inl (.inl (.ofNat 0, [(1, .ofNat 1)]))], (2, [(0, .negSucc 2147483647, .ofNat 2147483647), (1, .negSucc 2147483647, .ofNat 2147483647)], []), [], [((3, [(2, .negSucc 2147483647, .ofNat 2147483647)], []), [.inl (.inl (.ofNat 0, [(2, .ofNat 1)]))], [])], [(27, none), (28, some 6), (28, some 7), (28, some 8), (28, some 9), (28, some 10), (29, none), (30, none), (31, none), (32, none), (33, none), (34, none), (35, some 0), (35, some 1), (35, some 2), (35, some 3), (35, some 4), (35, some 5)], 5)
def ty_t32 : List ty_Tp := [(44, (6, [(0, .ofNat 0, .ofNat 60), (1, .ofNat 0, .ofNat 2), (2, .negSucc 2147483647, .ofNat 2147483647), (3, .ofNat 0, .ofNat 8), (4, .negSucc 0, .ofNat 7), (5, .negSucc 0, .ofNat 7)], []), [(0, .inr (.inl (0, (.ofNat 0, [])))), (1, .inl (.inl (.ofNat 0, [(0, .ofNat 1)]))), (2, .inl (.inl (.ofNat 0, [(1, .ofNat 1)]))), (3, .inl (.inl (.ofNat 0, [(2, .ofNat 1)]))), (4, .inl (.inl (.ofNat 0, [(4, .ofNat 1)]))), (5, .inl (.inl (.ofNat 0, [(5, .ofNat 1)]))), (6, .inl (.inl (.ofNat 0, [(3, .ofNat 1)])))], [], [(.ofNat 0, []), (.ofNat 0, [(2, .ofNat 1)]), (.ofNat 0, []), (.ofNat 0, [(3, .negSucc 0)]), (.ofNat 1, [])]), (62, (8, [(0, .ofNat 0, .ofNat 60), (1, .ofNat 0, .ofNat 2), (2, .negSucc 2147483647, .ofNat 2147483647), (3, .negSucc 0, .ofNat 7), (4, .negSucc 0, .ofNat 7), (5, .ofNat 0, .ofNat 7), (6, .ofNat 1, .ofNat 8), (7, .ofNat 1, .ofNat 8)], []), [(0, .inr (.inl (0, (.ofNat 0, [])))), (1, .inl (.inl (.ofNat 0, [(0, .ofNat 1)]))), (2, .inl (.inl (.ofNat 0, [(1, .ofNat 1)]))), (3, .inl (.inl (.ofNat 0, [(2, .ofNat 1)]))), (4, .inl (.inl (.ofNat 0, [(3, .ofNat 1)]))), (5, .inl (.inl (.ofNat 0, [(4, .ofNat 1)]))), (6, .inl (.inl (.ofNat 0, [(5, .ofNat 1)]))), (7, .inl (.inl (.ofNat 0, [(7, .ofNat 1)])))], [(19, (.ofNat 23, []), (.ofNat 2, []), .inl (.inl (.ofNat 0, [(6, .ofNat 1)])))], [(.ofNat 0, []), (.ofNat 0, [(2, .ofNat 1)]), (.ofNat 0, []), (.ofNat 0, [(5, .negSucc 0)]), (.ofNat 0, []), (.ofNat 0, [(7, .negSucc 0)]), (.ofNat 0, [])])]
theorem ty_j_X9_reorder : ty_mi 111 = some ty_i_X9_reorder := (ex_nth_get _ _).trans rfl
set_option maxRecDepth 1000000 in
set_option maxHeartbeats 0 in
/-- X9_reorder -/
theorem ty_h32 {l : Launch} : ty_ConOk ty_mi l ty_c32 := ty_chk (mt := ty_mt) (cn := [ty_c13, ty_c31]) (f := 100000) (ts := ty_t32) (ty_run_ok ty_gw ty_hmt (ty_kc ty_h13 (ty_kc ty_h31 ty_k0)) _) ty_j_X9_reorder ty_f_X9_reorder (by decide +kernel) (ty_every_t (by decide +kernel))
def ty_c33 : ty_Con := (112, [.inr (.inl (0, (.ofNat 0, []))), .inl (.inl (.ofNat 0, [(0, .ofNat 1)]))], (1, [(0, .negSucc 2147483647, .ofNat 2147483647)], []), [], [((2, [(1, .negSucc 2147483647, .ofNat 2147483647)], []), [.inl (.inl (.ofNat 0, [(1, .ofNat 1)]))], [])], [(27, none), (28, some 6), (28, some 7), (28, some 8), (28, some 9), (28, some 10), (29, none), (30, none), (31, none), (32, none), (33, none), (34, none), (35, some 0), (35, some 1), (35, some 2), (35, some 3), (35, some 4), (35, some 5)], 4)
def ty_t33 : List ty_Tp := [(25, (4, [(0, .ofNat 0, .ofNat 7), (1, .ofNat 1, .ofNat 8), (2, .negSucc 2147483647, .ofNat 2147483647), (3, .ofNat 0, .ofNat 60)], []), [(0, .inr (.inl (0, (.ofNat 0, [])))), (1, .inl (.inl (.ofNat 0, [(0, .ofNat 1)]))), (2, .inl (.inl (.ofNat 0, [(2, .ofNat 1)]))), (3, .inl (.inl (.ofNat 0, [(3, .ofNat 1)])))], [(19, (.ofNat 23, []), (.ofNat 2, []), .inl (.inl (.ofNat 0, [(1, .ofNat 1)])))], [(.ofNat 0, []), (.ofNat 0, [(3, .negSucc 0)]), (.ofNat 0, [])])]
theorem ty_j_X9_spends : ty_mi 112 = some ty_i_X9_spends := (ex_nth_get _ _).trans rfl
set_option maxRecDepth 1000000 in
set_option maxHeartbeats 0 in
/-- X9_spends -/
theorem ty_h33 {l : Launch} : ty_ConOk ty_mi l ty_c33 := ty_chk (mt := ty_mt) (cn := [ty_c12, ty_c13]) (f := 100000) (ts := ty_t33) (ty_run_ok ty_gw ty_hmt (ty_kc ty_h12 (ty_kc ty_h13 ty_k0)) _) ty_j_X9_spends ty_f_X9_spends (by decide +kernel) (ty_every_t (by decide +kernel))
def ty_c34 : ty_Con := (113, [.inr (.inl (0, (.ofNat 0, []))), .inl (.inl (.ofNat 0, [(0, .ofNat 1)])), .inl (.inl (.ofNat 0, [(1, .ofNat 1)]))], (2, [(0, .negSucc 2147483647, .ofNat 2147483647), (1, .negSucc 2147483647, .ofNat 2147483647)], []), [], [((3, [(2, .negSucc 2147483647, .ofNat 2147483647)], []), [.inl (.inl (.ofNat 0, [(2, .ofNat 1)]))], [])], [(27, none), (28, some 6), (28, some 7), (28, some 8), (28, some 9), (28, some 10), (29, none), (30, none), (31, none), (32, none), (33, none), (34, none), (35, some 0), (35, some 1), (35, some 2), (35, some 3), (35, some 4), (35, some 5)], 4)
def ty_t34 : List ty_Tp := [(33, (5, [(0, .ofNat 0, .ofNat 7), (1, .ofNat 0, .ofNat 60), (2, .ofNat 1, .ofNat 8), (3, .negSucc 2147483647, .ofNat 2147483647), (4, .ofNat 0, .ofNat 60)], []), [(0, .inr (.inl (0, (.ofNat 0, [])))), (1, .inl (.inl (.ofNat 0, [(0, .ofNat 1)]))), (2, .inl (.inl (.ofNat 0, [(1, .ofNat 1)]))), (3, .inl (.inl (.ofNat 0, [(3, .ofNat 1)]))), (4, .inl (.inl (.ofNat 0, [(4, .ofNat 1)])))], [(19, (.ofNat 23, []), (.ofNat 1, []), .inl (.inl (.ofNat 0, [(2, .ofNat 1)])))], [(.ofNat 0, []), (.ofNat 0, [(4, .negSucc 0)]), (.ofNat 0, [])])]
theorem ty_j_X9_echoes : ty_mi 113 = some ty_i_X9_echoes := (ex_nth_get _ _).trans rfl
set_option maxRecDepth 1000000 in
set_option maxHeartbeats 0 in
/-- X9_echoes -/
theorem ty_h34 {l : Launch} : ty_ConOk ty_mi l ty_c34 := ty_chk (mt := ty_mt) (cn := [ty_c12, ty_c13]) (f := 100000) (ts := ty_t34) (ty_run_ok ty_gw ty_hmt (ty_kc ty_h12 (ty_kc ty_h13 ty_k0)) _) ty_j_X9_echoes ty_f_X9_echoes (by decide +kernel) (ty_every_t (by decide +kernel))
def ty_c35 : ty_Con := (114, [.inr (.inl (0, (.ofNat 0, []))), .inl (.inl (.ofNat 0, [(0, .ofNat 1)])), .inl (.inl (.ofNat 0, [(1, .ofNat 1)]))], (2, [(0, .negSucc 2147483647, .ofNat 2147483647), (1, .negSucc 2147483647, .ofNat 2147483647)], []), [], [((3, [(2, .negSucc 0, .ofNat 61)], []), [.inl (.inl (.ofNat 0, [(2, .ofNat 1)]))], [])], [(27, none), (28, some 6), (28, some 7), (28, some 8), (28, some 9), (28, some 10), (29, none), (30, none), (31, none), (32, none), (33, none), (34, none), (35, some 0), (35, some 1), (35, some 2), (35, some 3), (35, some 4), (35, some 5)], 5)
def ty_t35 : List ty_Tp := [(26, (6, [(0, .ofNat 0, .ofNat 7), (1, .ofNat 0, .ofNat 1), (2, .ofNat 1, .ofNat 8), (3, .negSucc 0, .ofNat 3), (4, .ofNat 0, .ofNat 61), (5, .ofNat 0, .ofNat 4)], []), [(0, .inr (.inl (0, (.ofNat 0, [])))), (1, .inl (.inl (.ofNat 0, [(0, .ofNat 1)]))), (2, .inl (.inl (.ofNat 0, [(1, .ofNat 1)]))), (3, .inl (.inl (.ofNat 0, [(3, .ofNat 1)]))), (4, .inl (.inl (.ofNat 0, [(4, .ofNat 1)]))), (5, .inl (.inl (.ofNat 0, [(5, .ofNat 1)])))], [(19, (.ofNat 23, []), (.ofNat 2, []), .inl (.inl (.ofNat 0, [(2, .ofNat 1)])))], [(.ofNat 0, []), (.ofNat 0, [(4, .ofNat 1)]), (.ofNat 0, []), (.ofNat 0, [(5, .negSucc 0)]), (.ofNat 0, [])])]
theorem ty_j_X9_best : ty_mi 114 = some ty_i_X9_best := (ex_nth_get _ _).trans rfl
set_option maxRecDepth 1000000 in
set_option maxHeartbeats 0 in
/-- X9_best -/
theorem ty_h35 {l : Launch} : ty_ConOk ty_mi l ty_c35 := ty_chk (mt := ty_mt) (cn := [ty_c5, ty_c13, ty_c27]) (f := 100000) (ts := ty_t35) (ty_run_ok ty_gw ty_hmt (ty_kc ty_h5 (ty_kc ty_h13 (ty_kc ty_h27 ty_k0))) _) ty_j_X9_best ty_f_X9_best (by decide +kernel) (ty_every_t (by decide +kernel))
def ty_c36 : ty_Con := (118, [.inr (.inl (0, (.ofNat 0, []))), .inl (.inl (.ofNat 0, [(0, .ofNat 1)])), .inl (.inl (.ofNat 0, [(1, .ofNat 1)])), .inl (.inl (.ofNat 0, [(2, .ofNat 1)])), .inl (.inl (.ofNat 0, [(3, .ofNat 1)]))], (4, [(0, .ofNat 0, .ofNat 7), (1, .ofNat 0, .ofNat 7), (2, .ofNat 0, .ofNat 7), (3, .ofNat 0, .ofNat 7)], []), [], [((4, [], []), [], [])], [(27, none), (28, some 6), (28, some 7), (28, some 8), (28, some 9), (28, some 10), (29, none), (30, none), (31, none), (32, none), (33, none), (34, none), (35, some 0), (35, some 1), (35, some 2), (35, some 3), (35, some 4), (35, some 5), (52, none), (53, none)], 4)
def ty_t36 : List ty_Tp := [(51, (7, [(0, .ofNat 0, .ofNat 7), (1, .ofNat 0, .ofNat 7), (2, .ofNat 0, .ofNat 7), (3, .ofNat 0, .ofNat 7), (4, .ofNat 1, .ofNat 21), (5, .ofNat 1, .ofNat 21), (6, .ofNat 1, .ofNat 21)], []), [(0, .inr (.inl (0, (.ofNat 0, [])))), (1, .inl (.inl (.ofNat 0, [(0, .ofNat 1)]))), (2, .inl (.inl (.ofNat 0, [(1, .ofNat 1)]))), (3, .inl (.inl (.ofNat 0, [(2, .ofNat 1)]))), (4, .inl (.inl (.ofNat 0, [(3, .ofNat 1)]))), (5, .inl (.inl (.ofNat 21, []))), (6, .inl (.inl (.ofNat 0, [(4, .ofNat 1)]))), (7, .inl (.inl (.ofNat 0, [(5, .ofNat 1)]))), (8, .inl (.inl (.ofNat 0, [(6, .ofNat 1)])))], [], [(.ofNat 0, []), (.ofNat 0, [(6, .negSucc 0)]), (.ofNat 0, [])])]
theorem ty_j_X9_tryRivals : ty_mi 118 = some ty_i_X9_tryRivals := (ex_nth_get _ _).trans rfl
set_option maxRecDepth 1000000 in
set_option maxHeartbeats 0 in
/-- X9_tryRivals -/
theorem ty_h36 {l : Launch} : ty_ConOk ty_mi l ty_c36 := ty_chk (mt := ty_mt) (cn := [ty_c12, ty_c13]) (f := 100000) (ts := ty_t36) (ty_run_ok ty_gw ty_hmt (ty_kc ty_h12 (ty_kc ty_h13 ty_k0)) _) ty_j_X9_tryRivals ty_f_X9_tryRivals (by decide +kernel) (ty_every_t (by decide +kernel))
def ty_c37 : ty_Con := (119, [.inr (.inl (0, (.ofNat 0, []))), .inl (.inl (.ofNat 0, [(0, .ofNat 1)])), .inl (.inl (.ofNat 0, [(1, .ofNat 1)]))], (2, [(0, .ofNat 0, .ofNat 7), (1, .ofNat 0, .ofNat 7)], []), [], [((3, [(2, .ofNat 0, .ofNat 1)], []), [.inl (.inl (.ofNat 0, [(2, .ofNat 1)]))], [])], [], 0)
def ty_t37 : List ty_Tp := [(10, (3, [(0, .ofNat 0, .ofNat 7), (1, .ofNat 0, .ofNat 7), (2, .ofNat 0, .ofNat 8)], []), [(0, .inr (.inl (0, (.ofNat 0, [])))), (1, .inl (.inl (.ofNat 0, [(0, .ofNat 1)]))), (2, .inl (.inl (.ofNat 0, [(1, .ofNat 1)]))), (3, .inl (.inl (.ofNat 0, [(0, .ofNat 8), (1, .ofNat 1)]))), (4, .inl (.inl (.ofNat 0, [(2, .ofNat 1)])))], [], [(.ofNat 0, []), (.ofNat 0, [(2, .negSucc 0)]), (.ofNat 0, [])])]
theorem ty_j_X9_isRest : ty_mi 119 = some ty_i_X9_isRest := (ex_nth_get _ _).trans rfl
set_option maxRecDepth 1000000 in
set_option maxHeartbeats 0 in
/-- X9_isRest -/
theorem ty_h37 {l : Launch} : ty_ConOk ty_mi l ty_c37 := ty_chk (mt := ty_mt) (cn := []) (f := 100000) (ts := ty_t37) (ty_run_ok ty_gw ty_hmt ty_k0 _) ty_j_X9_isRest ty_f_X9_isRest (by decide +kernel) (ty_every_t (by decide +kernel))
def ty_c38 : ty_Con := (117, [.inr (.inl (0, (.ofNat 0, []))), .inl (.inl (.ofNat 0, [(0, .ofNat 1)])), .inl (.inl (.ofNat 0, [(1, .ofNat 1)]))], (2, [(0, .negSucc 2147483647, .ofNat 2147483647), (1, .negSucc 2147483647, .ofNat 2147483647)], []), [], [((3, [(2, .negSucc 2147483647, .ofNat 2147483647)], []), [.inl (.inl (.ofNat 0, [(2, .ofNat 1)]))], [])], [(0, some 13), (27, none), (28, some 6), (28, some 7), (28, some 8), (28, some 9), (28, some 10), (29, none), (30, none), (31, none), (32, none), (33, none), (34, none), (35, some 0), (35, some 1), (35, some 2), (35, some 3), (35, some 4), (35, some 5), (51, none), (52, none), (53, none)], 5)
def ty_t38 : List ty_Tp := [(30, (4, [(0, .ofNat 0, .ofNat 7), (1, .ofNat 0, .ofNat 7), (2, .ofNat 1, .ofNat 8), (3, .ofNat 0, .ofNat 8)], []), [(0, .inr (.inl (0, (.ofNat 0, [])))), (1, .inl (.inl (.ofNat 0, [(0, .ofNat 1)]))), (2, .inl (.inl (.ofNat 0, [(1, .ofNat 1)]))), (3, .inl (.inl (.ofNat 0, [(3, .ofNat 1)])))], [(0, (.ofNat 0, []), (.ofNat 13, []), .inl (.inl (.ofNat 0, []))), (19, (.ofNat 23, []), (.ofNat 2, []), .inl (.inl (.ofNat 0, [(2, .ofNat 1)])))], [(.ofNat 1, []), (.ofNat 0, [(3, .negSucc 0)]), (.ofNat 1, [])]), (44, (6, [(0, .ofNat 0, .ofNat 7), (1, .ofNat 0, .ofNat 7), (2, .ofNat 0, .ofNat 7), (3, .ofNat 1, .ofNat 8), (4, .ofNat 1, .ofNat 8), (5, .ofNat 0, .ofNat 8)], []), [(0, .inr (.inl (0, (.ofNat 0, [])))), (1, .inl (.inl (.ofNat 0, [(0, .ofNat 1)]))), (2, .inl (.inl (.ofNat 0, [(1, .ofNat 1)]))), (3, .inl (.inl (.ofNat 0, [(2, .ofNat 1)]))), (4, .inl (.inl (.ofNat 0, [(5, .ofNat 1)])))], [(0, (.ofNat 0, []), (.ofNat 13, []), .inl (.inl (.ofNat 0, []))), (19, (.ofNat 23, []), (.ofNat 2, []), .inl (.inl (.ofNat 0, [(3, .ofNat 1)]))), (19, (.ofNat 23, []), (.ofNat 1, []), .inl (.inl (.ofNat 0, [(4, .ofNat 1)])))], [(.ofNat 1, []), (.ofNat 0, [(2, .negSucc 0)]), (.ofNat 0, []), (.ofNat 0, [(5, .negSucc 0)]), (.ofNat 0, [])]), (82, (7, [(0, .ofNat 0, .ofNat 7), (1, .ofNat 0, .ofNat 7), (2, .ofNat 1, .ofNat 8), (3, .ofNat 0, .ofNat 8), (4, .negSucc 2147483647, .ofNat 2147483647), (5, .ofNat 0, .ofNat 8), (6, .ofNat 0, .ofNat 2)], []), [(0, .inr (.inl (0, (.ofNat 0, [])))), (1, .inl (.inl (.ofNat 0, [(0, .ofNat 1)]))), (2, .inl (.inl (.ofNat 0, [(1, .ofNat 1)]))), (3, .inl (.inl (.ofNat 0, [(4, .ofNat 1)]))), (4, .inl (.inl (.ofNat 0, [(5, .ofNat 1)])))], [(0, (.ofNat 0, []), (.ofNat 13, []), .inl (.inl (.ofNat 0, [(6, .ofNat 1)]))), (19, (.ofNat 23, []), (.ofNat 2, []), .inl (.inl (.ofNat 0, [(2, .ofNat 1)]))), (19, (.ofNat 23, []), (.ofNat 1, []), .inl (.inl (.ofNat 0, [(3, .ofNat 1)])))], [(.ofNat 0, []), (.ofNat 0, [(5, .negSucc 0)]), (.ofNat 1, [])]), (97, (8, [(0, .ofNat 0, .ofNat 7), (1, .ofNat 0, .ofNat 7), (2, .negSucc 2147483647, .ofNat 2147483647), (3, .ofNat 0, .ofNat 7), (4, .ofNat 0, .ofNat 2), (5, .ofNat 1, .ofNat 8), (6, .ofNat 1, .ofNat 8), (7, .ofNat 0, .ofNat 8)], []), [(0, .inr (.inl (0, (.ofNat 0, [])))), (1, .inl (.inl (.ofNat 0, [(0, .ofNat 1)]))), (2, .inl (.inl (.ofNat 0, [(1, .ofNat 1)]))), (3, .inl (.inl (.ofNat 0, [(2, .ofNat 1)]))), (4, .inl (.inl (.ofNat 0, [(3, .ofNat 1)]))), (5, .inl (.inl (.ofNat 0, [(7, .ofNat 1)])))], [(0, (.ofNat 0, []), (.ofNat 13, []), .inl (.inl (.ofNat 0, [(4, .ofNat 1)]))), (19, (.ofNat 23, []), (.ofNat 2, []), .inl (.inl (.ofNat 0, [(5, .ofNat 1)]))), (19, (.ofNat 23, []), (.ofNat 1, []), .inl (.inl (.ofNat 0, [(6, .ofNat 1)])))], [(.ofNat 0, []), (.ofNat 0, [(3, .negSucc 0)]), (.ofNat 0, []), (.ofNat 0, [(7, .negSucc 0)]), (.ofNat 0, [])])]
theorem ty_j_X9_rivals : ty_mi 117 = some ty_i_X9_rivals := (ex_nth_get _ _).trans rfl
set_option maxRecDepth 1000000 in
set_option maxHeartbeats 0 in
/-- X9_rivals -/
theorem ty_h38 {l : Launch} : ty_ConOk ty_mi l ty_c38 := ty_chk (mt := ty_mt) (cn := [ty_c36, ty_c37]) (f := 100000) (ts := ty_t38) (ty_run_ok ty_gw ty_hmt (ty_kc ty_h36 (ty_kc ty_h37 ty_k0)) _) ty_j_X9_rivals ty_f_X9_rivals (by decide +kernel) (ty_every_t (by decide +kernel))
