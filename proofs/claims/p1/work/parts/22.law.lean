set_option maxHeartbeats 4000000 in
theorem whole_start {p : Program} {e : Env} {s : State} {m : MethodId} {below : List Frame} {meth : Method} {c : Code} (l : Launch) {b L : Nat} {xs : Nat → Int32} (hL : L ≤ 6) (C0 : lw_At p s m meth c b L xs) : W p l e room_1 s m #[Value.ref b] below meth c s.heap [] 0 0 (lw_Z below #[Value.ref b] s) (entryFrame m ([Value.ref b] : List Value).toArray 4) := by
  obtain ⟨hx, hb, hr, hml, hown, hts, hX, hbl, hlocks, hgv⟩ := id C0
  have hts' : ∀ w ∈ ex_tb, w.before #[Value.ref b] s = true := fun w hw => hts w (List.mem_filter.mp hw).1
  obtain ⟨c0, j0, hK0⟩ := u_known (C := RX0) (T := TX0) (N := 4) (n := 4) hts' (ex_cli (ci := 0) rfl).1 (hts' _ (ex_gwp.2.2.2 0 _ rfl).1)
  obtain ⟨c1, j1, hK1⟩ := u_known (C := RX1) (T := TX1) (N := 6) (n := 6) hts' (ex_cli (ci := 1) rfl).1 (hts' _ (ex_gwp.2.2.2 1 _ rfl).1)
  obtain ⟨c2, j2, hK2⟩ := u_known (C := RX2) (T := TX2) (N := 4) (n := 4) hts' (ex_cli (ci := 2) rfl).1 (hts' _ (ex_gwp.2.2.2 2 _ rfl).1)
  obtain ⟨c3, j3, hK3⟩ := u_known (C := RX3) (T := TX3) (N := 12) (n := 12) hts' (ex_cli (ci := 3) rfl).1 (hts' _ (ex_gwp.2.2.2 3 _ rfl).1)
  obtain ⟨c4, j4, hK4⟩ := u_known (C := RX4) (T := TX4) (N := 13) (n := 13) hts' (ex_cli (ci := 4) rfl).1 (hts' _ (ex_gwp.2.2.2 4 _ rfl).1)
  obtain ⟨c5, j5, hK5⟩ := u_known (C := RX5) (T := TX5) (N := 13) (n := 13) hts' (ex_cli (ci := 5) rfl).1 (hts' _ (ex_gwp.2.2.2 5 _ rfl).1)
  obtain ⟨c6, j6, hK6⟩ := u_known (C := RX6) (T := TX6) (N := 2) (n := 2) hts' (ex_cli (ci := 6) rfl).1 (hts' _ (ex_gwp.2.2.2 6 _ rfl).1)
  obtain ⟨c7, j7, hK7⟩ := u_known (C := RX7) (T := TX7) (N := 4) (n := 4) hts' (ex_cli (ci := 7) rfl).1 (hts' _ (ex_gwp.2.2.2 7 _ rfl).1)
  obtain ⟨c8, j8, hK8⟩ := u_known (C := RX8) (T := TX8) (N := 13) (n := 13) hts' (ex_cli (ci := 8) rfl).1 (hts' _ (ex_gwp.2.2.2 8 _ rfl).1)
  obtain ⟨c9, j9, hK9⟩ := u_known (C := RX9) (T := TX9) (N := 15) (n := 15) hts' (ex_cli (ci := 9) rfl).1 (hts' _ (ex_gwp.2.2.2 9 _ rfl).1)
  obtain ⟨c10, j10, hK10⟩ := u_known (C := RX10) (T := TX10) (N := 68) (n := 68) hts' (ex_cli (ci := 10) rfl).1 (hts' _ (ex_gwp.2.2.2 10 _ rfl).1)
  obtain ⟨dC, dI, hKc⟩ : ∃ (dC : Nat → ClassId) (dI : Nat → Nat → Nat), ∀ (k : Nat) (q : vw_C), vwCl[k]? = some q → u_Kn s q.1 q.2.1 q.2.2 (dC k) (dI k) := by
    refine ⟨fun k => [c0, c1, c2, c3, c4, c5, c6, c7, c8, c9, c10].getD k c0, fun k => [j0, j1, j2, j3, j4, j5, j6, j7, j8, j9, j10].getD k j0, ?_⟩
    intro k q hq
    match k, hq with
    | 0, hq => cases hq; exact hK0
    | 1, hq => cases hq; exact hK1
    | 2, hq => cases hq; exact hK2
    | 3, hq => cases hq; exact hK3
    | 4, hq => cases hq; exact hK4
    | 5, hq => cases hq; exact hK5
    | 6, hq => cases hq; exact hK6
    | 7, hq => cases hq; exact hK7
    | 8, hq => cases hq; exact hK8
    | 9, hq => cases hq; exact hK9
    | 10, hq => cases hq; exact hK10
    | k + 11, hq => simp [vwCl] at hq
  have hK : va_K (dC, dI) vwCl [] s := ⟨hKc, fun k q h => by simp at h⟩
  have hP : va_P (dC, dI) vwCl [] s.heap := fun k q h => by simp at h
  have hD : va_D (fun q : Nat => s.heap.size ≤ q) [] := ⟨fun i j p q h => by simp at h, fun k q h => by simp at h⟩
  have hnest : ∀ w ∈ ex_nest, va_Nw w s := by
    intro w hw
    simp only [ex_nest, List.mem_cons, List.not_mem_nil, or_false] at hw
    rcases hw with rfl | rfl | rfl | rfl | rfl
    · exact va_Nw.of rfl (hts _ (List.mem_of_getElem? (i := 141) (by decide +kernel)))
    · exact va_Nw.of rfl (hts _ (List.mem_of_getElem? (i := 158) (by decide +kernel)))
    · exact va_Nw.of rfl (hts _ (List.mem_of_getElem? (i := 170) (by decide +kernel)))
    · exact va_Nw.of rfl (hts _ (List.mem_of_getElem? (i := 276) (by decide +kernel)))
    · exact va_Nw.of rfl (hts _ (List.mem_of_getElem? (i := 348) (by decide +kernel)))
  have hAO : va_AO "HatchLights$Scene" s := va_AO.of (hts _ (List.mem_of_getElem? (i := 430) (by decide +kernel)))
  have X : ex_X p room_1 s m #[Value.ref b] meth c xs b L (fun q : Nat => s.heap.size ≤ q) RL meth.name code 4 20 (600000, 7302250) true := ⟨hx, hb, hml, hown, hts', fun _ h => h, hnest, hAO, fun _ => ⟨hX, hbl, Nat.not_le.mpr hbl⟩, rfl, ⟨Nat.le_refl _, Nat.le_refl _⟩, by decide, by decide⟩
  have run : ∀ (stop : Nat) (en : ex_E) (S : ex_S) (o : List (ex_E × ex_S)), ex_run ex_mt ex_df L 20000 stop 20 true ex_law en S = some o → (∀ y ∈ o, ex_G p l e room_1 s m #[Value.ref b] below meth c (lw_Z below #[Value.ref b] s) (dC, dI) xs b (fun q : Nat => s.heap.size ≤ q) 4 [] [] ex_p_L_law y.1 y.2) → ex_G p l e room_1 s m #[Value.ref b] below meth c (lw_Z below #[Value.ref b] s) (dC, dI) xs b (fun q : Nat => s.heap.size ≤ q) 4 [] [] ex_p_L_law en S := fun stop en S o h1 h2 => (ex_run_ok (mt := ex_mt) (mi := ex_mi) (df := ex_df) (L := L) (l := l) ex_gwp ex_gdp ex_hmt 20000 stop 20 true ex_law en S o h1 RL meth.name code (some .boolean) (ex_lawPO2 meth.name) p e room_1 s m #[Value.ref b] below meth c (lw_Z below #[Value.ref b] s) (dC, dI) xs b (fun q : Nat => s.heap.size ≤ q) [] [] X h2).2
  have fin : ∀ (en : ex_E) (S : ex_S), ex_fin (ex_run ex_mt ex_df L 20000 1000000 20 true ex_law en S) = true → ex_G p l e room_1 s m #[Value.ref b] below meth c (lw_Z below #[Value.ref b] s) (dC, dI) xs b (fun q : Nat => s.heap.size ≤ q) 4 [] [] ex_p_L_law en S := fun en S h => by
    obtain ⟨o, h1, h2⟩ := ex_fin_ok h
    exact run _ en S o h1 (fun y hy => ex_end_ok hx hb hr hlocks (h2 y hy))
  have G0 : ex_G p l e room_1 s m #[Value.ref b] below meth c (lw_Z below #[Value.ref b] s) (dC, dI) xs b (fun q : Nat => s.heap.size ≤ q) 4 [] [] ex_p_L_law ex_en0 ex_s0 := by
    rcases (show L = 0 ∨ L = 1 ∨ L = 2 ∨ L = 3 ∨ L = 4 ∨ L = 5 ∨ L = 6 by omega) with z | z | z | z | z | z | z
    · exact fin _ _ (by rw [z]; exact ex_rL0)
    · exact fin _ _ (by rw [z]; exact ex_rL1)
    · exact fin _ _ (by rw [z]; exact ex_rL2)
    · exact fin _ _ (by rw [z]; exact ex_rL3)
    · exact fin _ _ (by rw [z]; exact ex_rL4)
    · exact fin _ _ (by rw [z]; exact ex_rL5)
    · have h1 := ex_r1
      unfold ex_is1 at h1
      split at h1
      · rename_i o ho
        refine run 18 _ _ o (by rw [z]; exact ho) (fun y hy => ex_G_le (ex_every_ok h1 y hy) (ex_jpne 18 List.mem_cons_self) ?_)
        have h2 := ex_r2
        unfold ex_is2 at h2
        split at h2
        · rename_i o2 ho2
          refine run 200 _ _ o2 (by rw [z]; exact ho2) (fun y2 hy2 => ?_)
          obtain ⟨g1, g2⟩ := ex_and (ex_every_ok h2 y2 hy2)
          obtain ⟨t, ht, hit⟩ := ex_any_ok g1
          have htg : t ∈ ex_tg := by
            split at g2
            · rename_i q r hq
              rw [hq] at ht
              have ht : t ∈ [q.1] := ht
              cases List.mem_singleton.mp ht
              obtain ⟨t', h3, h4⟩ := ex_any_ok g2
              rw [ex_beq h4]
              exact h3
            · cases g2
          exact ex_G_le hit (ex_jpne t (List.mem_cons_of_mem _ htg)) (ex_oall (P := fun t e' => ex_G p l e room_1 s m #[Value.ref b] below meth c (lw_Z below #[Value.ref b] s) (dC, dI) xs b (fun q : Nat => s.heap.size ≤ q) 4 [] [] ex_p_L_law e' (ex_at0 t)) (fun t en i c q hi h1 h2 => ex_G_cut hi c h1 h2) (fun t e' h => fin e' _ (by rw [z]; exact h)) t htg)
        · cases h2
      · cases h1
  have hl := lv_entry ([.ref b]) (n := 4) (Nat.le_of_ble_eq_true rfl)
  rw [lg_entry_eq]
  obtain ⟨q, r, hq, hq0⟩ : ∃ q r, ex_p_L_law = q :: r ∧ q.1 = 0 := ⟨_, _, rfl, rfl⟩
  exact G0 0 _ [] [] [] s.heap [] ⟨q, r, hq, hq0⟩ (fun q h => h) ⟨⟨_, hl, (show ex_lr xs b [] [(0, ex_z)] [(0, .ref b)] from ⟨⟨rfl, rfl⟩, trivial⟩)⟩, ex_en0_ok xs, trivial, ⟨rfl, fun k c hk => by cases (show none = some c from hk)⟩, hK, hP, hD, va_S.rf, ex_xt.rf, fun _ h => h⟩
set_option maxHeartbeats 4000000 in
theorem lw_walk (l : Launch) (b : Addr) (xs : List Int32) : MetFree l x (headSpec (Jvm.Cond.code x code maxLocals ret :: tables_1) room_1) (lw_P b xs) (fun _ _ _ _ _ => True) lw_Q := by
  refine MetFree.of_bodyS (code := code) (maxLocals := maxLocals) (ret := ret) (by decide) ?_ ?_
  · intro args s m h hn
    obtain ⟨meth, c, h1, h2, h3, h4, h5, h6, -, -⟩ := Cond.code_spec hn (atoms_spec (ws := Jvm.Cond.code x code maxLocals ret :: tables_1) h _ List.mem_cons_self)
    exact ⟨meth, c, h1, h2, h3, h4, h5, h6⟩
  · intro p e s m args below meth c s₁ B hml0 hP _
    obtain ⟨rfl, hx, hbd, hgv⟩ := hP
    obtain ⟨scr, harrAt, hlist, hof, hsmall⟩ := hx
    obtain ⟨hcb, hkn, -, -⟩ := State.arrayAt?_spec harrAt
    have hown : s.vm.findClass R_law = some m.cls := findClass_of_methodNamed B.named
    have hts0 : ∀ c ∈ (Jvm.Cond.code x code maxLocals ret :: tables_1), c.before #[Value.ref b] s = true := atoms_spec (ws := Jvm.Cond.code x code maxLocals ret :: tables_1) B.pre
    have hts : ∀ w ∈ lw_tbl, w.before #[Value.ref b] s = true := k2_hts_sels lw_privs (fun w hw => hts0 w (List.mem_cons_of_mem _ hw)) lw_privs_ok
    have hml : c.maxLocals = 4 := B.maxLocals_eq (hts0 _ List.mem_cons_self)
    have X₀ : Stand p l e room_1 s m #[Value.ref b] below meth c s₁ [] 0 0 := Stand.of_body B
    have hh0 : s₁.heap = s.heap := by rw [B.state]; rfl
    have hsz : scr.slots.size = xs.length := by rw [← Array.length_toList, hlist, List.length_map]
    have hval : ∀ j : Nat, j < xs.length → scr.slots[j]? = some (.int (xs.getD j 0)) := fun j hj => by
      rw [← Array.getElem?_toList, hlist]
      simp [hj]
    have hbl : b < s.heap.size := (Array.getElem?_eq_some_iff.mp hcb).1
    have hX : va_X b xs.length (fun j => xs.getD j 0) s s.heap := ⟨scr, hcb, hof, hkn, hsz, hval⟩
    have K : W p l e room_1 s m #[Value.ref b] below meth c s₁.heap [] 0 0 (lw_Z below #[Value.ref b] s) (entryFrame m ([Value.ref b] : List Value).toArray 4) := by
      rw [hh0]
      exact whole_start l hbd ⟨B.exec, B.bytes, B.returns, hml, hown, hts, hX, hbl, B.notSynchronized, hgv⟩
    obtain ⟨t, a1, o, b1, b2, b3⟩ := K s₁ rfl X₀
    exact ⟨t, o, a1, b1, b2, b3⟩
theorem lw_pre_spec {args : Array Value} {s : State} (h : (Jvm.Cond.and given_1 narrow_1).before args s = true) (hr : rest_1_c.before args s = true) : ∃ (b : Addr) (xs : List Int32), lw_P b xs args s := by
  have hs := flat_of_before _ h
  have hq := flat_of_before _ hr
  have hc : (Cond.count 1).before args s = true := hs _ (by decide +kernel)
  have harr : (Cond.arrayOf (.arg 0) .int).before args s = true := hs _ (by decide +kernel)
  have hle : (Cond.le (.length (.arg 0)) (.int 6)).before args s = true := hs _ (by decide +kernel)
  have hlen : (Cond.isInt (.length (.arg 0))).before args s = true := hq _ (by decide +kernel)
  have hall : (Cond.all (.arg 0) (.isInt (.elem (.arg 0) (.index 0)))).before args s = true := hq _ (by decide +kernel)
  obtain ⟨b, xs, hb, hx⟩ := State.ints_of_pre rfl harr hlen hall
  have hsm : xs.length < 2 ^ 31 := hx.choose_spec.2.2.2
  have hev : (Term.length (.arg 0)).eval args s none [] s = some (.int xs.length.toInt32) := hx.length_eval hb
  have hv := Cond.le_ints hev (show (Term.int 6).eval args s none [] s = some (.int 6) from rfl)
  have hd : xs.length.toInt32 ≤ 6 := by
    simpa [Cond.before, Cond.holds, hv] using hle
  have hN : xs.length ≤ 6 := (Int32.ofNat_le_ofNat hsm (by decide)).mp (show Int32.ofNat xs.length ≤ Int32.ofNat 6 from hd)
  exact ⟨b, xs, Cond.one_arg hc (show args[0]? = some (.ref b) from hb), hx, hN, h⟩
theorem lw_comes (l : Launch) : Comes l x (Jvm.Cond.code x code maxLocals ret :: tables_1) room_1 (fun tb e args s => Calls_1 tb e args s ∧ rest_1 tb e args s ∧ Pre_1 tb e args s)
    (fun _ _ args s o t => lw_Q args s o t) := by
  intro p e ha hc hk s m args below hf hfit hheap happ hpre
  obtain ⟨b, xs, hP⟩ := lw_pre_spec hpre.2.2 hpre.2.1
  obtain ⟨k, o, h1, h2, h3, hQ⟩ := lw_walk l b xs p e ha hc hk s m args below hf ((Spec.applies_iff_loose hf).mp happ).1 hP trivial
  exact ⟨k, o, h1, h2, h3, hQ⟩
theorem lw_frame {s t : State} {o : Outcome} {args : Array Value} (h : Framed s o t [] 600000 7302250) :
    Framed s o t (fieldLocs frame_1_writes args s ++ arrayLocs frame_1_arrays args s ++ staticLocs frame_1_statics s) 600000 7302250 := h
theorem lw_limb (L : Cond) (hL : ∀ (args : Array Value) (s t : State), L.after args s (.returned (some (.int 1))) t = true) :
    ArmFor flags0 classFile x code maxLocals ret World_1 tables_1 room_1 Calls_1 rest_1 Pre_1
      (fun tb e a s o t => postC L tb e a s o t ∧ Framed s o t (fieldLocs frame_1_writes a s ++ arrayLocs frame_1_arrays a s ++ staticLocs frame_1_statics s) 600000 7302250) := by
  intro l _ _ _ p e ha hc hk s m args below hf hfit hheap happ hpre
  obtain ⟨k, o, h1, h2, h3, rfl, hF⟩ := lw_comes l p e ha hc hk s m args below hf hfit hheap happ hpre
  exact ⟨k, _, h1, h2, h3, hL args s _, lw_frame hF⟩
theorem i_vc : Claimed_1_1 ∧ Claimed_1_2 := ⟨lw_limb limb_1_1 (fun args s t => by simp [limb_1_1, Cond.after, Cond.holds, Cond.value]), lw_limb limb_1_2 (fun args s t => Cond.after_iff.mpr (by
  first | (rw [show limb_1_2 = Cond.eq .result (.int 1) from rfl, Cond.eq_ints (x := 1) (y := 1) rfl rfl]; simp; done) | (simp [limb_1_2, Cond.value, Term.eval]; done)))⟩
